/-! How the model holds the same. -/
def mzi (σ : YS) (r : Int) (E D : YS) (i : Int) : Prop := (σ 548 (r + 11 + i) = E 2 i ∧ σ 548 (r + 14 + i) = D 1 i ∧ σ 548 (r + 17 + i) = D 2 i ∧ σ 548 (r + 20 + i) = D 3 i) ∧ σ 548 (r + 26 + i) = E 3 i ∧ (∀ k, 0 ≤ k → k < E 3 i → σ 548 (r + 29 + 24 * i + k) = msg E i k) ∧ (σ 548 (r + 23 + i) = 0 ∨ σ 548 (r + 23 + i) = 1) ∧ (D 4 i = 0 ↔ ¬ (σ 548 (r + 23 + i) = 1 ∨ E 3 i = 0 ∨ mfl E i ≠ -1))
def mzs (σ : YS) (r : Int) (E D : YS) : Prop := (σ 548 (r + 0) = E 0 0 ∧ σ 548 (r + 10) = E 1 0 ∧ σ 548 (r + 105) = D 5 0) ∧ (∀ c, 0 ≤ c → c < 9 → σ 548 (r + 1 + c) = D 0 c) ∧ (∀ i, 0 ≤ i → i < E 1 0 → mzi σ r E D i) ∧ (∀ i, E 1 0 ≤ i → i < 3 → σ 548 (r + 26 + i) = 0) ∧ ∀ j, 0 ≤ j → j < 4 → σ 548 (r + 101 + j) = E 7 j
def mzr (σ : YS) (b : Int) (E C : YS) : Prop := (∀ c, 0 ≤ c → c < 9 → σ 548 (b + c) = C 0 c) ∧ ∀ i, 0 ≤ i → i < E 1 0 → (σ 548 (b + 9 + i) = C 1 i ∧ σ 548 (b + 9 + (3 + i)) = C 2 i ∧ σ 548 (b + 9 + (6 + i)) = C 3 i) ∧ (σ 548 (b + 9 + (9 + i)) = 0 ∨ σ 548 (b + 9 + (9 + i)) = 1) ∧ (C 4 i = 0 ↔ ¬ (σ 548 (b + 9 + (9 + i)) = 1 ∨ E 3 i = 0 ∨ mfl E i ≠ -1))
def mz (σ : YS) (r : Int) (Z : YZ) : Prop := mzs σ r (Z 0) (Z 1) ∧ σ 548 (r + 106) = Z 2 0 0 ∧ ∀ k, 0 ≤ k → k < Z 2 0 0 → mzr σ (r + 107 + 21 * (Z 2 0 0 - 1 - k)) (Z 0) (Z (3 + k))
def mW (σ : YS) (Z : YZ) (I : Int → YZ) (M : YS) : Prop := mz σ 0 Z ∧ (∀ j, 0 ≤ j → j < 2 → M 0 j = 1 → mz σ (527 * (1 + j)) (I j)) ∧ (∀ j, 0 ≤ j → j < 2 → σ 549 j = M 0 j) ∧ (σ 547 3 = M 2 0 ∧ ∀ k, 0 ≤ k → k < M 2 0 → σ 550 k = M 1 k) ∧ (∀ j, 0 ≤ j → j < 3 → σ 551 j = M 3 j) ∧ 0 ≤ σ 548 1581
theorem mzi_cong {σ σ' : YS} {r : Int} {E D : YS} {i : Int} (hi : 0 ≤ i ∧ i < 3) (h3 : E 3 i ≤ 24) (h : mzi σ r E D i) (e : ∀ y, r ≤ y → y ≤ r + 106 → σ' 548 y = σ 548 y) : mzi σ' r E D i := by
  unfold mzi at h ⊢
  rw [e _ (by omega) (by omega), e _ (by omega) (by omega), e _ (by omega) (by omega), e _ (by omega) (by omega), e _ (by omega) (by omega), e _ (by omega) (by omega)]
  exact ⟨h.1, h.2.1, fun k a b => by rw [e _ (by omega) (by omega)]; exact h.2.2.1 k a b, h.2.2.2⟩
theorem mzs_cong {σ σ' : YS} {r : Int} {E D : YS} (he : eG E) (h : mzs σ r E D) (e : ∀ y, r ≤ y → y ≤ r + 105 → σ' 548 y = σ 548 y) : mzs σ' r E D := by
  have hm := he.2.1
  obtain ⟨⟨h1, h2, h3⟩, h4, h5, h6, h7⟩ := h
  refine ⟨⟨by rw [e _ (by omega) (by omega)]; exact h1, by rw [e _ (by omega) (by omega)]; exact h2, by rw [e _ (by omega) (by omega)]; exact h3⟩, fun c a b => by rw [e _ (by omega) (by omega)]; exact h4 c a b, fun i a b => ?_, fun i a b => by rw [e _ (by omega) (by omega)]; exact h6 i a b, fun j a b => by rw [e _ (by omega) (by omega)]; exact h7 j a b⟩
  have := (he.2.2 i a b).2.1
  have h := h5 i a b
  unfold mzi at h ⊢
  rw [e _ (by omega) (by omega), e _ (by omega) (by omega), e _ (by omega) (by omega), e _ (by omega) (by omega), e _ (by omega) (by omega), e _ (by omega) (by omega)]
  exact ⟨h.1, h.2.1, fun k a b => by rw [e _ (by omega) (by omega)]; exact h.2.2.1 k a b, h.2.2.2⟩
theorem mzr_cong {σ σ' : YS} {b : Int} {E C : YS} (hm : 0 ≤ E 1 0 ∧ E 1 0 ≤ 3) (h : mzr σ b E C) (e : ∀ y, b ≤ y → y ≤ b + 20 → σ' 548 y = σ 548 y) : mzr σ' b E C := by
  refine ⟨fun c x y => by rw [e _ (by omega) (by omega)]; exact h.1 c x y, fun i x y => ?_⟩
  rw [e _ (by omega) (by omega), e _ (by omega) (by omega), e _ (by omega) (by omega), e _ (by omega) (by omega)]
  exact h.2 i x y
theorem mz_cong {σ σ' : YS} {r : Int} {Z : YZ} {N : Int} (hz : zG Z N) (h : mz σ r Z) (e : ∀ y, r ≤ y → y ≤ r + 526 → σ' 548 y = σ 548 y) : mz σ' r Z := by
  have hu := hz.2.2.2.1
  refine ⟨mzs_cong hz.1 h.1 (fun y a b => e y a (by omega)), by rw [e _ (by omega) (by omega)]; exact h.2.1, fun k a b => mzr_cong hz.1.2.1 (h.2.2 k a b) (fun y c d => e y (by omega) (by omega))⟩
/-- what belongs to the model's part r of w, and nothing else, has changed -/
def wfr (σ σ' : YS) (r : Int) : Prop := ∀ x y, x ≠ 548 ∨ y < r ∨ r + 526 < y → σ' x y = σ x y
theorem wfr_0 (σ : YS) (r : Int) : wfr σ σ r := fun _ _ _ => rfl
theorem wfr_s {σ σ' : YS} {r y v : Int} (h : wfr σ σ' r) (hy : r ≤ y ∧ y ≤ r + 526) : wfr σ (yset σ' 548 y v) r := fun a b hab => by
  rw [yne (by omega) rfl]; exact h a b hab
theorem mW_now {σ σ' : YS} {Z Z' : YZ} {I : Int → YZ} {M : YS} {N : Int} (hg : wG Z I M N) (h : mW σ Z I M) (hz : mz σ' 0 Z') (hf : wfr σ σ' 0) : mW σ' Z' I M := by
  obtain ⟨h1, h2, h3, ⟨h4, h5⟩, h6, h7⟩ := h
  refine ⟨hz, fun j a b c => mz_cong ((hg.2.1 j a b).2 c) (h2 j a b c) (fun y x z => hf 548 y (by omega)), fun j a b => by rw [hf _ _ (by omega)]; exact h3 j a b, ⟨by rw [hf _ _ (by omega)]; exact h4, fun k a b => by rw [hf _ _ (by omega)]; exact h5 k a b⟩, fun j a b => by rw [hf _ _ (by omega)]; exact h6 j a b, by rw [hf _ _ (by omega)]; exact h7⟩
theorem mW_bump {σ : YS} {Z : YZ} {I : Int → YZ} {M : YS} {N : Int} {j v : Int} (hg : wG Z I M N) (h : mW σ Z I M) (hj : 0 ≤ j ∧ j < 3) (hv : v = σ 551 j + 1) : mW (yset σ 551 j v) Z I (bump M j) := by
  subst hv
  obtain ⟨h1, h2, h3, ⟨h4, h5⟩, h6, h7⟩ := h
  have b : ∀ r c, r ≠ 3 → bump M j r c = M r c := fun r c hr => by unfold bump; rw [yne (by omega) rfl]
  refine ⟨mz_cong hg.1 h1 (fun y x z => yne (by omega) rfl), fun i x y z => ?_, fun i x y => by rw [b 0 i (by omega), yne (by omega) rfl]; exact h3 i x y, ⟨by rw [b 2 0 (by omega), yne (by omega) rfl]; exact h4, fun k x y => by rw [b 2 0 (by omega)] at y; rw [b 1 k (by omega), yne (by omega) rfl]; exact h5 k x y⟩, fun i x y => ?_, by rw [yne (by omega) rfl]; exact h7⟩
  · rw [b 0 i (by omega)] at z
    exact mz_cong ((hg.2.1 i x y).2 z) (h2 i x y z) (fun y x z => yne (by omega) rfl)
  · unfold bump
    by_cases e : i = j
    · subst e; rw [yeq, yeq, h6 i x y]
    · rw [yne (by omega) rfl, yne (by omega) rfl]; exact h6 i x y
/-- what the class holds, and how the model uses its other cells -/
def cfr (σ σ' : YS) : Prop := ∀ x y, x < 547 → σ' x y = σ x y
theorem cfr_0 (σ : YS) : cfr σ σ := fun _ _ _ => rfl
theorem cfr_s {σ σ' : YS} {k j v : Int} (h : cfr σ σ') (hk : 547 ≤ k) : cfr σ (yset σ' k j v) := fun x y hx => by rw [yne (by omega) rfl]; exact h x y hx
theorem cfr_w {σ σ' : YS} {r : Int} (h : wfr σ σ' r) : cfr σ σ' := fun x y hx => h x y (by omega)
theorem cfr_t {σ σ' σ'' : YS} (h : cfr σ σ') (h' : cfr σ' σ'') : cfr σ σ'' := fun x y hx => (h' x y hx).trans (h x y hx)
/-- the model's own cells that are used up in a call -/
def mfs (σ σ' : YS) : Prop := ∀ x y, x < 547 ∨ (x = 547 ∧ y = 3) ∨ (x = 548 ∧ y ≤ 1581) ∨ (549 ≤ x ∧ x ≤ 551) → σ' x y = σ x y
theorem mfs_0 (σ : YS) : mfs σ σ := fun _ _ _ => rfl
theorem mfs_t {σ σ' σ'' : YS} (h : mfs σ σ') (h' : mfs σ' σ'') : mfs σ σ'' := fun x y hx => (h' x y hx).trans (h x y hx)
theorem mfs_s {σ σ' : YS} {k j v : Int} (h : mfs σ σ') (hk : 552 ≤ k ∨ (k = 547 ∧ j ≠ 3)) : mfs σ (yset σ' k j v) := fun x y hx => by rw [yne (by omega) rfl]; exact h x y hx
theorem mW_mfs {σ σ' : YS} {Z : YZ} {I : Int → YZ} {M : YS} {N : Int} (hg : wG Z I M N) (h : mW σ Z I M) (e : mfs σ σ') : mW σ' Z I M := by
  obtain ⟨h1, h2, h3, ⟨h4, h5⟩, h6, h7⟩ := h
  refine ⟨mz_cong hg.1 h1 (fun y x z => e 548 y (by omega)), fun j a b c => mz_cong ((hg.2.1 j a b).2 c) (h2 j a b c) (fun y x z => e 548 y (by omega)), fun j a b => by rw [e _ _ (by omega)]; exact h3 j a b, ⟨by rw [e _ _ (by omega)]; exact h4, fun k a b => by rw [e _ _ (by omega)]; exact h5 k a b⟩, fun j a b => by rw [e _ _ (by omega)]; exact h6 j a b, by rw [e _ _ (by omega)]; exact h7⟩
theorem mW_class {σ σ' : YS} {Z : YZ} {I : Int → YZ} {M : YS} {N : Int} (hg : wG Z I M N) (h : mW σ Z I M) (e : mfr σ σ') : mW σ' Z I M := by
  obtain ⟨h1, h2, h3, ⟨h4, h5⟩, h6, h7⟩ := h
  refine ⟨mz_cong hg.1 h1 (fun y x z => e 548 y (by omega)), fun j a b c => mz_cong ((hg.2.1 j a b).2 c) (h2 j a b c) (fun y x z => e 548 y (by omega)), fun j a b => by rw [e _ _ (by omega)]; exact h3 j a b, ⟨by rw [e _ _ (by omega)]; exact h4, fun k a b => by rw [e _ _ (by omega)]; exact h5 k a b⟩, fun j a b => by rw [e _ _ (by omega)]; exact h6 j a b, by rw [e _ _ (by omega)]; exact h7⟩
theorem m_lies {g : Launch × XG × va_G} {σ : YS} {v lo hi : Int}  : YI g 11 [(1, v), (1, lo), (1, hi)] σ (fun b σ' => σ = σ' ∧ yb (lo ≤ v ∧ v ≤ hi) = b) := by
  refine y_start rfl rfl rfl ?_
  refine y_lload rfl rfl ?_
  refine y_lload rfl rfl ?_
  refine y_lcmp rfl rfl ?_
  refine y_iflt rfl (fun q3 => ?_) (fun q3 => ?_)
  · replace q3 : v < lo := ylc_lt0.mp q3
    refine y_push rfl ?_
    refine y_zret rfl rfl (by decide) ⟨_, rfl, ?_⟩
    exact ⟨rfl, by unfold yb; (repeat' split) <;> omega⟩
  · replace q3 : lo ≤ v := ylc_lt1.mp q3
    refine y_lload rfl rfl ?_
    refine y_lload rfl rfl ?_
    refine y_lcmp rfl rfl ?_
    refine y_ifgt rfl (fun q10 => ?_) (fun q10 => ?_)
    · replace q10 : hi < v := ylc_gt0.mp q10
      refine y_push rfl ?_
      refine y_zret rfl rfl (by decide) ⟨_, rfl, ?_⟩
      exact ⟨rfl, by unfold yb; (repeat' split) <;> omega⟩
    · replace q10 : v ≤ hi := ylc_gt1.mp q10
      refine y_push rfl ?_
      refine y_goto rfl ?_
      refine y_zret rfl rfl (by decide) ⟨_, rfl, ?_⟩
      exact ⟨rfl, by unfold yb; (repeat' split) <;> omega⟩
theorem m_has {g : Launch × XG × va_G} {σ : YS} {st k : Int}  : YI g 118 [(0, st), (0, k)] σ (fun b σ' => σ = σ' ∧ yb (yand (yshr st k) 1 = 1) = b) := by
  refine y_start rfl rfl rfl ?_
  refine y_iload rfl rfl ?_
  refine y_iload rfl rfl ?_
  refine y_ishr (v := (yshr st k)) rfl rfl ?_
  refine y_push rfl ?_
  refine y_iand (v := (yand (yshr st k) 1)) rfl rfl ?_
  refine y_push rfl ?_
  refine y_icne rfl (fun q6 => ?_) (fun q6 => ?_)
  · skip
    refine y_push rfl ?_
    refine y_zret rfl rfl (by decide) ⟨_, rfl, ?_⟩
    exact ⟨rfl, by unfold yb; (repeat' split) <;> first | rfl | contradiction⟩
  · skip
    refine y_push rfl ?_
    refine y_goto rfl ?_
    refine y_zret rfl rfl (by decide) ⟨_, rfl, ?_⟩
    exact ⟨rfl, by unfold yb; (repeat' split) <;> first | rfl | contradiction⟩
theorem m_lesser {g : Launch × XG × va_G} {σ : YS} {x y : Int}  : YI g 119 [(0, x), (0, y)] σ (fun b σ' => σ = σ' ∧ min x y = b) := by
  refine y_start rfl rfl rfl ?_
  refine y_iload rfl rfl ?_
  refine y_iload rfl rfl ?_
  refine y_icge rfl (fun q2 => ?_) (fun q2 => ?_)
  · skip
    refine y_iload rfl rfl ?_
    refine y_iret rfl rfl ⟨_, rfl, ?_⟩
    exact ⟨rfl, by omega⟩
  · skip
    refine y_iload rfl rfl ?_
    refine y_goto rfl ?_
    refine y_iret rfl rfl ⟨_, rfl, ?_⟩
    exact ⟨rfl, by omega⟩
theorem m_met2 {g : Launch × XG × va_G} {σ : YS}  (h1 : 0 ≤ σ 551 0 ∧ σ 551 0 < 1000000) : YI g 12 [(2, 547), (0, (-2))] σ (fun b σ' => (-2) = b ∧ yset σ 551 0 (σ 551 0 + 1) = σ') := by
  refine y_start rfl rfl rfl ?_
  refine y_iload rfl rfl ?_
  refine y_push rfl ?_
  refine y_iceq rfl (fun q3 => ?_) (fun q3 => ?_)
  · skip
    refine y_aload rfl rfl rfl ?_
    refine y_gfr (t := 551) rfl rfl (by decide) rfl (by decide) ?_
    refine y_push rfl ?_
    refine y_iload rfl rfl ?_
    refine y_isub (v := 0) rfl rfl (by decide) ?_
    refine y_dup2 rfl rfl rfl ?_
    refine y_iald (v := (σ 551 0)) (n := 3) rfl rfl (by decide) rfl (by decide) rfl ?_
    refine y_push rfl ?_
    refine y_iadd (v := ((σ 551 0) + 1)) rfl rfl (by omega) ?_
    refine y_iast (n := 3) rfl rfl (by decide) rfl (by decide) ?_
    refine y_iload rfl rfl ?_
    refine y_iret rfl rfl ⟨_, rfl, ?_⟩
    exact ⟨rfl, rfl⟩
  · exfalso; omega
theorem m_met3 {g : Launch × XG × va_G} {σ : YS}  (h1 : 0 ≤ σ 551 1 ∧ σ 551 1 < 1000000) : YI g 12 [(2, 547), (0, (-3))] σ (fun b σ' => (-3) = b ∧ yset σ 551 1 (σ 551 1 + 1) = σ') := by
  refine y_start rfl rfl rfl ?_
  refine y_iload rfl rfl ?_
  refine y_push rfl ?_
  refine y_iceq rfl (fun q3 => ?_) (fun q3 => ?_)
  · exfalso; omega
  · skip
    refine y_iload rfl rfl ?_
    refine y_push rfl ?_
    refine y_iceq rfl (fun q9 => ?_) (fun q9 => ?_)
    · skip
      refine y_aload rfl rfl rfl ?_
      refine y_gfr (t := 551) rfl rfl (by decide) rfl (by decide) ?_
      refine y_push rfl ?_
      refine y_iload rfl rfl ?_
      refine y_isub (v := 1) rfl rfl (by decide) ?_
      refine y_dup2 rfl rfl rfl ?_
      refine y_iald (v := (σ 551 1)) (n := 3) rfl rfl (by decide) rfl (by decide) rfl ?_
      refine y_push rfl ?_
      refine y_iadd (v := ((σ 551 1) + 1)) rfl rfl (by omega) ?_
      refine y_iast (n := 3) rfl rfl (by decide) rfl (by decide) ?_
      refine y_iload rfl rfl ?_
      refine y_iret rfl rfl ⟨_, rfl, ?_⟩
      exact ⟨rfl, rfl⟩
    · exfalso; omega
theorem m_met4 {g : Launch × XG × va_G} {σ : YS}  (h1 : 0 ≤ σ 551 2 ∧ σ 551 2 < 1000000) : YI g 12 [(2, 547), (0, (-4))] σ (fun b σ' => (-4) = b ∧ yset σ 551 2 (σ 551 2 + 1) = σ') := by
  refine y_start rfl rfl rfl ?_
  refine y_iload rfl rfl ?_
  refine y_push rfl ?_
  refine y_iceq rfl (fun q3 => ?_) (fun q3 => ?_)
  · exfalso; omega
  · skip
    refine y_iload rfl rfl ?_
    refine y_push rfl ?_
    refine y_iceq rfl (fun q9 => ?_) (fun q9 => ?_)
    · exfalso; omega
    · skip
      refine y_iload rfl rfl ?_
      refine y_push rfl ?_
      refine y_icne rfl (fun q15 => ?_) (fun q15 => ?_)
      · exfalso; omega
      · skip
        refine y_aload rfl rfl rfl ?_
        refine y_gfr (t := 551) rfl rfl (by decide) rfl (by decide) ?_
        refine y_push rfl ?_
        refine y_iload rfl rfl ?_
        refine y_isub (v := 2) rfl rfl (by decide) ?_
        refine y_dup2 rfl rfl rfl ?_
        refine y_iald (v := (σ 551 2)) (n := 3) rfl rfl (by decide) rfl (by decide) rfl ?_
        refine y_push rfl ?_
        refine y_iadd (v := ((σ 551 2) + 1)) rfl rfl (by omega) ?_
        refine y_iast (n := 3) rfl rfl (by decide) rfl (by decide) ?_
        refine y_iload rfl rfl ?_
        refine y_iret rfl rfl ⟨_, rfl, ?_⟩
        exact ⟨rfl, rfl⟩
theorem m_met {g : Launch × XG × va_G} {σ : YS} {v : Int} (hv : v ≠ -2 ∧ v ≠ -3 ∧ v ≠ -4) : YI g 12 [(2, 547), (0, v)] σ (fun b σ' => v = b ∧ σ = σ') := by
  refine y_start rfl rfl rfl ?_
  refine y_iload rfl rfl ?_
  refine y_push rfl ?_
  refine y_iceq rfl (fun q3 => ?_) (fun q3 => ?_)
  · exfalso; omega
  · skip
    refine y_iload rfl rfl ?_
    refine y_push rfl ?_
    refine y_iceq rfl (fun q9 => ?_) (fun q9 => ?_)
    · exfalso; omega
    · skip
      refine y_iload rfl rfl ?_
      refine y_push rfl ?_
      refine y_icne rfl (fun q15 => ?_) (fun q15 => ?_)
      · skip
        refine y_iload rfl rfl ?_
        refine y_iret rfl rfl ⟨_, rfl, ?_⟩
        exact ⟨rfl, rfl⟩
      · exfalso; omega
theorem m_bad {g : Launch × XG × va_G} {σ : YS}  (h1 : 0 ≤ σ 551 0 ∧ σ 551 0 < 1000000) : YI g 33 [(2, 547)] σ (fun b σ' => (-2) = b ∧ yset σ 551 0 (σ 551 0 + 1) = σ') := by
  refine y_start rfl rfl rfl ?_
  refine y_aload rfl rfl rfl ?_
  refine y_push rfl ?_
  refine y_vi (as := [(2, 547), (0, (-2))]) (S := []) rfl rfl rfl rfl rfl rfl (by decide) rfl (m_met2 (by omega)) ?_
  rintro _ _ ⟨rfl, rfl⟩
  refine y_iret rfl rfl ⟨_, rfl, ?_⟩
  exact ⟨rfl, rfl⟩
theorem m_badElse {g : Launch × XG × va_G} {σ : YS}  (h1 : 0 ≤ σ 551 0 ∧ σ 551 0 < 1000000) : YI g 37 [(2, 547)] σ (fun b σ' => (-10) = b ∧ yset σ 551 0 (σ 551 0 + 1) = σ') := by
  refine y_start rfl rfl rfl ?_
  refine y_aload rfl rfl rfl ?_
  refine y_gfr (t := 551) rfl rfl (by decide) rfl (by decide) ?_
  refine y_push rfl ?_
  refine y_dup2 rfl rfl rfl ?_
  refine y_iald (v := (σ 551 0)) (n := 3) rfl rfl (by decide) rfl (by decide) rfl ?_
  refine y_push rfl ?_
  refine y_iadd (v := ((σ 551 0) + 1)) rfl rfl (by omega) ?_
  refine y_iast (n := 3) rfl rfl (by decide) rfl (by decide) ?_
  refine y_push rfl ?_
  refine y_iret rfl rfl ⟨_, rfl, ?_⟩
  exact ⟨rfl, rfl⟩
theorem l_mcopy {g : Launch × XG × va_G} {σ : YS} {p q : Int} (hp : 0 ≤ p ∧ p ≤ 1581) (hq : 0 ≤ q ∧ q ≤ 1581) (hpq : p + 527 ≤ q ∨ q + 527 ≤ p) : ∀ (nn : Nat) (τ : YS) (k : Int), 527 - k < (nn : Int) → (0 ≤ k ∧ k ≤ 527) → (∀ c, 0 ≤ c → c < k → τ 548 (q + c) = σ 548 (p + c)) → (wfr σ τ q) → YW g 97 2 [some (2, 547), some (0, p), some (0, q), some (0, k)] [] τ (fun rv σ' => rv = none ∧ ((∀ k, 0 ≤ k → k < 527 → σ' 548 (q + k) = σ 548 (p + k)) ∧ wfr σ σ' q)) := by
  intro nn
  induction nn with
  | zero =>
    intro τ k hn h0 h1 h2
    exfalso
    omega
  | succ nn ih =>
    intro τ k hn h0 h1 h2
    refine y_iload rfl rfl ?_
    refine y_push rfl ?_
    refine y_icge rfl (fun q6 => ?_) (fun q6 => ?_)
    · skip
      refine y_ret rfl rfl ⟨rfl, ?_⟩
      exact ⟨fun c a b => h1 c a (by omega), h2⟩
    · skip
      refine y_aload rfl rfl rfl ?_
      refine y_gfr (t := 548) rfl rfl (by decide) rfl (by decide) ?_
      refine y_iload rfl rfl ?_
      refine y_iload rfl rfl ?_
      refine y_iadd (v := (q + k)) rfl rfl (by omega) ?_
      refine y_aload rfl rfl rfl ?_
      refine y_gfr (t := 548) rfl rfl (by decide) rfl (by decide) ?_
      refine y_iload rfl rfl ?_
      refine y_iload rfl rfl ?_
      refine y_iadd (v := (p + k)) rfl rfl (by omega) ?_
      refine y_iald (v := (τ 548 (p + k))) (n := 2108) rfl rfl (by decide) rfl (by omega) rfl ?_
      refine y_iast (n := 2108) rfl rfl (by decide) rfl (by omega) ?_
      refine y_iinc (L' := [some (2, 547), some (0, p), some (0, q), some (0, (k + 1))]) rfl rfl rfl rfl rfl (by omega) ?_
      refine y_goto rfl ?_
      refine ih (yset τ 548 (q + k) (τ 548 (p + k))) (k + 1) (by omega) (by omega) (fun c a b => ?_) (wfr_s h2 (by omega))
      by_cases e : c = k
      · subst e; rw [yeq]; exact h2 _ _ (by omega)
      · rw [yne (by omega) rfl]; exact h1 c a (by omega)
theorem m_copy {g : Launch × XG × va_G} {σ : YS} {p q : Int} (hp : 0 ≤ p ∧ p ≤ 1581) (hq : 0 ≤ q ∧ q ≤ 1581) (hpq : p + 527 ≤ q ∨ q + 527 ≤ p) : YU g 97 [(2, 547), (0, p), (0, q)] σ (fun σ' => (∀ k, 0 ≤ k → k < 527 → σ' 548 (q + k) = σ 548 (p + k)) ∧ wfr σ σ' q) := by
  refine y_start rfl rfl rfl ?_
  refine y_push rfl ?_
  refine y_istore (L' := [some (2, 547), some (0, p), some (0, q), some (0, 0)]) rfl rfl rfl rfl ?_
  exact l_mcopy hp hq hpq 528 σ 0 (by omega) (by omega) (fun c a b => by omega) (wfr_0 _ _)
theorem m_isCell {g : Launch × XG × va_G} {σ : YS} {r c n : Int} (hr : r = 0 ∨ r = 1581) (hn : σ 548 (r + 0) = n) (hb : 0 ≤ n ∧ n ≤ 9) : YI g 19 [(2, 547), (0, r), (0, c)] σ (fun b σ' => σ = σ' ∧ yb (0 ≤ c ∧ c < n) = b) := by
  refine y_start rfl rfl rfl ?_
  refine y_iload rfl rfl ?_
  refine y_i2l rfl ?_
  refine y_lconst (v := 0) rfl rfl ?_
  refine y_aload rfl rfl rfl ?_
  refine y_gfr (t := 548) rfl rfl (by decide) rfl (by decide) ?_
  refine y_iload rfl rfl ?_
  refine y_push rfl ?_
  refine y_iadd (v := (r + 0)) rfl rfl (by omega) ?_
  refine y_iald (v := (σ 548 (r + 0))) (n := 2108) rfl rfl (by decide) rfl (by omega) rfl ?_
  refine y_push rfl ?_
  refine y_isub (v := ((σ 548 (r + 0)) - 1)) rfl rfl (by omega) ?_
  refine y_i2l rfl ?_
  refine y_si (as := [(1, c), (1, 0), (1, ((σ 548 (r + 0)) - 1))]) (S := []) rfl rfl rfl rfl rfl rfl m_lies ?_
  rintro _ _ ⟨rfl, rfl⟩
  refine y_zret rfl rfl yb_r ⟨_, rfl, ?_⟩
  exact ⟨rfl, by subst hn; unfold yb; (repeat' split) <;> omega⟩
theorem m_isMan {g : Launch × XG × va_G} {σ : YS} {r c n : Int} (hr : r = 0 ∨ r = 1581) (hn : σ 548 (r + 10) = n) (hb : 0 ≤ n ∧ n ≤ 3) : YI g 29 [(2, 547), (0, r), (0, c)] σ (fun b σ' => σ = σ' ∧ yb (0 ≤ c ∧ c < n) = b) := by
  refine y_start rfl rfl rfl ?_
  refine y_iload rfl rfl ?_
  refine y_i2l rfl ?_
  refine y_lconst (v := 0) rfl rfl ?_
  refine y_aload rfl rfl rfl ?_
  refine y_gfr (t := 548) rfl rfl (by decide) rfl (by decide) ?_
  refine y_iload rfl rfl ?_
  refine y_push rfl ?_
  refine y_iadd (v := (r + 10)) rfl rfl (by omega) ?_
  refine y_iald (v := (σ 548 (r + 10))) (n := 2108) rfl rfl (by decide) rfl (by omega) rfl ?_
  refine y_push rfl ?_
  refine y_isub (v := ((σ 548 (r + 10)) - 1)) rfl rfl (by omega) ?_
  refine y_i2l rfl ?_
  refine y_si (as := [(1, c), (1, 0), (1, ((σ 548 (r + 10)) - 1))]) (S := []) rfl rfl rfl rfl rfl rfl m_lies ?_
  rintro _ _ ⟨rfl, rfl⟩
  refine y_zret rfl rfl yb_r ⟨_, rfl, ?_⟩
  exact ⟨rfl, by subst hn; unfold yb; (repeat' split) <;> omega⟩
theorem l_faultOf {g : Launch × XG × va_G} {σ : YS} {p n : Int} {f : Int → Int} (hf : ∀ k, 0 ≤ k → k < n → σ 548 (p + k) = f k) (hn : 0 ≤ n ∧ n ≤ 24) (hp : 0 ≤ p ∧ p + n ≤ 2108) : ∀ (nn : Nat) (κ : Nat) (op : Int) (lt : Int), n - κ < (nn : Int) → ((κ : Int) ≤ n) → (bw f κ = -1) → (op = bo f κ) → (lt = bl f κ) → YW g 120 8 [some (2, 547), some (0, p), some (0, n), some (0, op), some (0, lt), some (0, (κ : Int)), none] [] σ (fun rv σ' => ∃ b, rv = some (0, b) ∧ (σ = σ' ∧ bflaw f n.toNat = b)) := by
  intro nn
  induction nn with
  | zero =>
    intro κ op lt hn h0 h1 h2 h3
    exfalso
    omega
  | succ nn ih =>
    intro κ op lt hn h0 h1 h2 h3
    refine y_iload rfl rfl ?_
    refine y_iload rfl rfl ?_
    refine y_icge rfl (fun q11 => ?_) (fun q11 => ?_)
    · skip
      refine y_iload rfl rfl ?_
      refine y_ifle rfl (fun q103 => ?_) (fun q103 => ?_)
      · skip
        refine y_push rfl ?_
        refine y_iret rfl rfl ⟨_, rfl, ?_⟩
        have hK : κ = n.toNat := by omega
        subst hK
        exact ⟨rfl, by unfold bflaw; rw [if_neg (by omega), if_neg (by omega)]⟩
      · skip
        refine y_iload rfl rfl ?_
        refine y_goto rfl ?_
        refine y_iret rfl rfl ⟨_, rfl, ?_⟩
        have hK : κ = n.toNat := by omega
        subst hK
        exact ⟨rfl, by unfold bflaw; rw [if_neg (by omega), if_pos (by omega)]; omega⟩
    · skip
      have w1 := hf κ (by omega) (by omega)
      have hbl := bl_01 f κ
      have gd := (bgood f κ h1).1
      refine y_aload rfl rfl rfl ?_
      refine y_gfr (t := 548) rfl rfl (by decide) rfl (by decide) ?_
      refine y_iload rfl rfl ?_
      refine y_iload rfl rfl ?_
      refine y_iadd (v := (p + (κ : Int))) rfl rfl (by omega) ?_
      refine y_iald (v := (σ 548 (p + (κ : Int)))) (n := 2108) rfl rfl (by decide) rfl (by omega) rfl ?_
      refine y_istore (L' := [some (2, 547), some (0, p), some (0, n), some (0, op), some (0, lt), some (0, (κ : Int)), some (0, (σ 548 (p + (κ : Int))))]) rfl rfl rfl rfl ?_
      refine y_iload rfl rfl ?_
      refine y_iload rfl rfl ?_
      refine y_push rfl ?_
      refine y_icle rfl (fun q31 => ?_) (fun q31 => ?_)
      · skip
        refine y_push rfl ?_
        refine y_icne rfl (fun q39 => ?_) (fun q39 => ?_)
        · skip
          refine y_iload rfl rfl ?_
          refine y_iret rfl rfl ⟨_, rfl, ?_⟩
          have hb : bbad f κ := by unfold bbad; omega
          have h9 := bw_bad h1 hb
          have hw := bw_stay (f := f) (k := κ + 1) (by omega) n.toNat (by omega)
          exact ⟨rfl, by unfold bflaw; rw [if_pos (by omega)]; omega⟩
        · skip
          refine y_iload rfl rfl ?_
          refine y_push rfl ?_
          refine y_icne rfl (fun q46 => ?_) (fun q46 => ?_)
          · skip
            refine y_iload rfl rfl ?_
            refine y_iload rfl rfl ?_
            refine y_push rfl ?_
            refine y_icne rfl (fun q61 => ?_) (fun q61 => ?_)
            · skip
              refine y_iload rfl rfl ?_
              refine y_push rfl ?_
              refine y_icne rfl (fun q72 => ?_) (fun q72 => ?_)
              · skip
                refine y_push rfl ?_
                refine y_iadd (v := (op + 0)) rfl rfl (by omega) ?_
                refine y_istore (L' := [some (2, 547), some (0, p), some (0, n), some (0, (op + 0)), some (0, lt), some (0, (κ : Int)), some (0, (σ 548 (p + (κ : Int))))]) rfl rfl rfl rfl ?_
                refine y_iload rfl rfl ?_
                refine y_push rfl ?_
                refine y_icne rfl (fun q86 => ?_) (fun q86 => ?_)
                · skip
                  refine y_push rfl ?_
                  refine y_istore (L' := [some (2, 547), some (0, p), some (0, n), some (0, (op + 0)), some (0, 0), some (0, (κ : Int)), some (0, (σ 548 (p + (κ : Int))))]) rfl rfl rfl rfl ?_
                  refine y_iinc (L' := [some (2, 547), some (0, p), some (0, n), some (0, (op + 0)), some (0, 0), some (0, ((κ : Int) + 1)), some (0, (σ 548 (p + (κ : Int))))]) rfl rfl rfl rfl rfl (by omega) ?_
                  refine y_goto rfl ?_
                  refine y_forget (M := [some (2, 547), some (0, p), some (0, n), some (0, (op + 0)), some (0, 0), some (0, ((κ : Int) + 1)), none]) ⟨Or.inr rfl, ⟨Or.inr rfl, ⟨Or.inr rfl, ⟨Or.inr rfl, ⟨Or.inr rfl, ⟨Or.inr rfl, ⟨Or.inl rfl, trivial⟩⟩⟩⟩⟩⟩⟩ ?_
                  have hb : ¬ bbad f κ := by unfold bbad; omega
                  have hw := bw_up h1 hb
                  exact ih (κ + 1) _ _ (by omega) (by omega) hw (by rw [bo_n (by omega) (by omega)]; omega) (bl_n (by omega)).symm
                · skip
                  refine y_push rfl ?_
                  refine y_goto rfl ?_
                  refine y_istore (L' := [some (2, 547), some (0, p), some (0, n), some (0, (op + 0)), some (0, 1), some (0, (κ : Int)), some (0, (σ 548 (p + (κ : Int))))]) rfl rfl rfl rfl ?_
                  refine y_iinc (L' := [some (2, 547), some (0, p), some (0, n), some (0, (op + 0)), some (0, 1), some (0, ((κ : Int) + 1)), some (0, (σ 548 (p + (κ : Int))))]) rfl rfl rfl rfl rfl (by omega) ?_
                  refine y_goto rfl ?_
                  refine y_forget (M := [some (2, 547), some (0, p), some (0, n), some (0, (op + 0)), some (0, 1), some (0, ((κ : Int) + 1)), none]) ⟨Or.inr rfl, ⟨Or.inr rfl, ⟨Or.inr rfl, ⟨Or.inr rfl, ⟨Or.inr rfl, ⟨Or.inr rfl, ⟨Or.inl rfl, trivial⟩⟩⟩⟩⟩⟩⟩ ?_
                  have hb : ¬ bbad f κ := by unfold bbad; omega
                  have hw := bw_up h1 hb
                  exact ih (κ + 1) _ _ (by omega) (by omega) hw (by rw [bo_n (by omega) (by omega)]; omega) (bl_7 (by omega)).symm
              · skip
                refine y_push rfl ?_
                refine y_goto rfl ?_
                refine y_iadd (v := (op + (-1))) rfl rfl (by omega) ?_
                refine y_istore (L' := [some (2, 547), some (0, p), some (0, n), some (0, (op + (-1))), some (0, lt), some (0, (κ : Int)), some (0, (σ 548 (p + (κ : Int))))]) rfl rfl rfl rfl ?_
                refine y_iload rfl rfl ?_
                refine y_push rfl ?_
                refine y_icne rfl (fun q86 => ?_) (fun q86 => ?_)
                · skip
                  refine y_push rfl ?_
                  refine y_istore (L' := [some (2, 547), some (0, p), some (0, n), some (0, (op + (-1))), some (0, 0), some (0, (κ : Int)), some (0, (σ 548 (p + (κ : Int))))]) rfl rfl rfl rfl ?_
                  refine y_iinc (L' := [some (2, 547), some (0, p), some (0, n), some (0, (op + (-1))), some (0, 0), some (0, ((κ : Int) + 1)), some (0, (σ 548 (p + (κ : Int))))]) rfl rfl rfl rfl rfl (by omega) ?_
                  refine y_goto rfl ?_
                  refine y_forget (M := [some (2, 547), some (0, p), some (0, n), some (0, (op + (-1))), some (0, 0), some (0, ((κ : Int) + 1)), none]) ⟨Or.inr rfl, ⟨Or.inr rfl, ⟨Or.inr rfl, ⟨Or.inr rfl, ⟨Or.inr rfl, ⟨Or.inr rfl, ⟨Or.inl rfl, trivial⟩⟩⟩⟩⟩⟩⟩ ?_
                  have hb : ¬ bbad f κ := by unfold bbad; omega
                  have hw := bw_up h1 hb
                  exact ih (κ + 1) _ _ (by omega) (by omega) hw (by rw [bo_8 (by omega)]; omega) (bl_n (by omega)).symm
                · skip
                  refine y_push rfl ?_
                  refine y_goto rfl ?_
                  refine y_istore (L' := [some (2, 547), some (0, p), some (0, n), some (0, (op + (-1))), some (0, 1), some (0, (κ : Int)), some (0, (σ 548 (p + (κ : Int))))]) rfl rfl rfl rfl ?_
                  refine y_iinc (L' := [some (2, 547), some (0, p), some (0, n), some (0, (op + (-1))), some (0, 1), some (0, ((κ : Int) + 1)), some (0, (σ 548 (p + (κ : Int))))]) rfl rfl rfl rfl rfl (by omega) ?_
                  refine y_goto rfl ?_
                  refine y_forget (M := [some (2, 547), some (0, p), some (0, n), some (0, (op + (-1))), some (0, 1), some (0, ((κ : Int) + 1)), none]) ⟨Or.inr rfl, ⟨Or.inr rfl, ⟨Or.inr rfl, ⟨Or.inr rfl, ⟨Or.inr rfl, ⟨Or.inr rfl, ⟨Or.inl rfl, trivial⟩⟩⟩⟩⟩⟩⟩ ?_
                  have hb : ¬ bbad f κ := by unfold bbad; omega
                  have hw := bw_up h1 hb
                  exact ih (κ + 1) _ _ (by omega) (by omega) hw (by rw [bo_8 (by omega)]; omega) (bl_7 (by omega)).symm
            · skip
              refine y_push rfl ?_
              refine y_goto rfl ?_
              refine y_iadd (v := (op + 1)) rfl rfl (by omega) ?_
              refine y_istore (L' := [some (2, 547), some (0, p), some (0, n), some (0, (op + 1)), some (0, lt), some (0, (κ : Int)), some (0, (σ 548 (p + (κ : Int))))]) rfl rfl rfl rfl ?_
              refine y_iload rfl rfl ?_
              refine y_push rfl ?_
              refine y_icne rfl (fun q86 => ?_) (fun q86 => ?_)
              · skip
                refine y_push rfl ?_
                refine y_istore (L' := [some (2, 547), some (0, p), some (0, n), some (0, (op + 1)), some (0, 0), some (0, (κ : Int)), some (0, (σ 548 (p + (κ : Int))))]) rfl rfl rfl rfl ?_
                refine y_iinc (L' := [some (2, 547), some (0, p), some (0, n), some (0, (op + 1)), some (0, 0), some (0, ((κ : Int) + 1)), some (0, (σ 548 (p + (κ : Int))))]) rfl rfl rfl rfl rfl (by omega) ?_
                refine y_goto rfl ?_
                refine y_forget (M := [some (2, 547), some (0, p), some (0, n), some (0, (op + 1)), some (0, 0), some (0, ((κ : Int) + 1)), none]) ⟨Or.inr rfl, ⟨Or.inr rfl, ⟨Or.inr rfl, ⟨Or.inr rfl, ⟨Or.inr rfl, ⟨Or.inr rfl, ⟨Or.inl rfl, trivial⟩⟩⟩⟩⟩⟩⟩ ?_
                have hb : ¬ bbad f κ := by unfold bbad; omega
                have hw := bw_up h1 hb
                exact ih (κ + 1) _ _ (by omega) (by omega) hw (by rw [bo_7 (by omega)]; omega) (bl_n (by omega)).symm
              · skip
                refine y_push rfl ?_
                refine y_goto rfl ?_
                refine y_istore (L' := [some (2, 547), some (0, p), some (0, n), some (0, (op + 1)), some (0, 1), some (0, (κ : Int)), some (0, (σ 548 (p + (κ : Int))))]) rfl rfl rfl rfl ?_
                refine y_iinc (L' := [some (2, 547), some (0, p), some (0, n), some (0, (op + 1)), some (0, 1), some (0, ((κ : Int) + 1)), some (0, (σ 548 (p + (κ : Int))))]) rfl rfl rfl rfl rfl (by omega) ?_
                refine y_goto rfl ?_
                refine y_forget (M := [some (2, 547), some (0, p), some (0, n), some (0, (op + 1)), some (0, 1), some (0, ((κ : Int) + 1)), none]) ⟨Or.inr rfl, ⟨Or.inr rfl, ⟨Or.inr rfl, ⟨Or.inr rfl, ⟨Or.inr rfl, ⟨Or.inr rfl, ⟨Or.inl rfl, trivial⟩⟩⟩⟩⟩⟩⟩ ?_
                have hb : ¬ bbad f κ := by unfold bbad; omega
                have hw := bw_up h1 hb
                exact ih (κ + 1) _ _ (by omega) (by omega) hw (by rw [bo_7 (by omega)]; omega) (bl_7 (by omega)).symm
          · skip
            refine y_iload rfl rfl ?_
            refine y_ifne rfl (fun q50 => ?_) (fun q50 => ?_)
            · skip
              refine y_iload rfl rfl ?_
              refine y_iload rfl rfl ?_
              refine y_push rfl ?_
              refine y_icne rfl (fun q61 => ?_) (fun q61 => ?_)
              · skip
                refine y_iload rfl rfl ?_
                refine y_push rfl ?_
                refine y_icne rfl (fun q72 => ?_) (fun q72 => ?_)
                · skip
                  refine y_push rfl ?_
                  refine y_iadd (v := (op + 0)) rfl rfl (by omega) ?_
                  refine y_istore (L' := [some (2, 547), some (0, p), some (0, n), some (0, (op + 0)), some (0, lt), some (0, (κ : Int)), some (0, (σ 548 (p + (κ : Int))))]) rfl rfl rfl rfl ?_
                  refine y_iload rfl rfl ?_
                  refine y_push rfl ?_
                  refine y_icne rfl (fun q86 => ?_) (fun q86 => ?_)
                  · skip
                    refine y_push rfl ?_
                    refine y_istore (L' := [some (2, 547), some (0, p), some (0, n), some (0, (op + 0)), some (0, 0), some (0, (κ : Int)), some (0, (σ 548 (p + (κ : Int))))]) rfl rfl rfl rfl ?_
                    refine y_iinc (L' := [some (2, 547), some (0, p), some (0, n), some (0, (op + 0)), some (0, 0), some (0, ((κ : Int) + 1)), some (0, (σ 548 (p + (κ : Int))))]) rfl rfl rfl rfl rfl (by omega) ?_
                    refine y_goto rfl ?_
                    refine y_forget (M := [some (2, 547), some (0, p), some (0, n), some (0, (op + 0)), some (0, 0), some (0, ((κ : Int) + 1)), none]) ⟨Or.inr rfl, ⟨Or.inr rfl, ⟨Or.inr rfl, ⟨Or.inr rfl, ⟨Or.inr rfl, ⟨Or.inr rfl, ⟨Or.inl rfl, trivial⟩⟩⟩⟩⟩⟩⟩ ?_
                    have hb : ¬ bbad f κ := by unfold bbad; omega
                    have hw := bw_up h1 hb
                    exact ih (κ + 1) _ _ (by omega) (by omega) hw (by rw [bo_n (by omega) (by omega)]; omega) (bl_n (by omega)).symm
                  · skip
                    refine y_push rfl ?_
                    refine y_goto rfl ?_
                    refine y_istore (L' := [some (2, 547), some (0, p), some (0, n), some (0, (op + 0)), some (0, 1), some (0, (κ : Int)), some (0, (σ 548 (p + (κ : Int))))]) rfl rfl rfl rfl ?_
                    refine y_iinc (L' := [some (2, 547), some (0, p), some (0, n), some (0, (op + 0)), some (0, 1), some (0, ((κ : Int) + 1)), some (0, (σ 548 (p + (κ : Int))))]) rfl rfl rfl rfl rfl (by omega) ?_
                    refine y_goto rfl ?_
                    refine y_forget (M := [some (2, 547), some (0, p), some (0, n), some (0, (op + 0)), some (0, 1), some (0, ((κ : Int) + 1)), none]) ⟨Or.inr rfl, ⟨Or.inr rfl, ⟨Or.inr rfl, ⟨Or.inr rfl, ⟨Or.inr rfl, ⟨Or.inr rfl, ⟨Or.inl rfl, trivial⟩⟩⟩⟩⟩⟩⟩ ?_
                    have hb : ¬ bbad f κ := by unfold bbad; omega
                    have hw := bw_up h1 hb
                    exact ih (κ + 1) _ _ (by omega) (by omega) hw (by rw [bo_n (by omega) (by omega)]; omega) (bl_7 (by omega)).symm
                · skip
                  refine y_push rfl ?_
                  refine y_goto rfl ?_
                  refine y_iadd (v := (op + (-1))) rfl rfl (by omega) ?_
                  refine y_istore (L' := [some (2, 547), some (0, p), some (0, n), some (0, (op + (-1))), some (0, lt), some (0, (κ : Int)), some (0, (σ 548 (p + (κ : Int))))]) rfl rfl rfl rfl ?_
                  refine y_iload rfl rfl ?_
                  refine y_push rfl ?_
                  refine y_icne rfl (fun q86 => ?_) (fun q86 => ?_)
                  · skip
                    refine y_push rfl ?_
                    refine y_istore (L' := [some (2, 547), some (0, p), some (0, n), some (0, (op + (-1))), some (0, 0), some (0, (κ : Int)), some (0, (σ 548 (p + (κ : Int))))]) rfl rfl rfl rfl ?_
                    refine y_iinc (L' := [some (2, 547), some (0, p), some (0, n), some (0, (op + (-1))), some (0, 0), some (0, ((κ : Int) + 1)), some (0, (σ 548 (p + (κ : Int))))]) rfl rfl rfl rfl rfl (by omega) ?_
                    refine y_goto rfl ?_
                    refine y_forget (M := [some (2, 547), some (0, p), some (0, n), some (0, (op + (-1))), some (0, 0), some (0, ((κ : Int) + 1)), none]) ⟨Or.inr rfl, ⟨Or.inr rfl, ⟨Or.inr rfl, ⟨Or.inr rfl, ⟨Or.inr rfl, ⟨Or.inr rfl, ⟨Or.inl rfl, trivial⟩⟩⟩⟩⟩⟩⟩ ?_
                    have hb : ¬ bbad f κ := by unfold bbad; omega
                    have hw := bw_up h1 hb
                    exact ih (κ + 1) _ _ (by omega) (by omega) hw (by rw [bo_8 (by omega)]; omega) (bl_n (by omega)).symm
                  · skip
                    refine y_push rfl ?_
                    refine y_goto rfl ?_
                    refine y_istore (L' := [some (2, 547), some (0, p), some (0, n), some (0, (op + (-1))), some (0, 1), some (0, (κ : Int)), some (0, (σ 548 (p + (κ : Int))))]) rfl rfl rfl rfl ?_
                    refine y_iinc (L' := [some (2, 547), some (0, p), some (0, n), some (0, (op + (-1))), some (0, 1), some (0, ((κ : Int) + 1)), some (0, (σ 548 (p + (κ : Int))))]) rfl rfl rfl rfl rfl (by omega) ?_
                    refine y_goto rfl ?_
                    refine y_forget (M := [some (2, 547), some (0, p), some (0, n), some (0, (op + (-1))), some (0, 1), some (0, ((κ : Int) + 1)), none]) ⟨Or.inr rfl, ⟨Or.inr rfl, ⟨Or.inr rfl, ⟨Or.inr rfl, ⟨Or.inr rfl, ⟨Or.inr rfl, ⟨Or.inl rfl, trivial⟩⟩⟩⟩⟩⟩⟩ ?_
                    have hb : ¬ bbad f κ := by unfold bbad; omega
                    have hw := bw_up h1 hb
                    exact ih (κ + 1) _ _ (by omega) (by omega) hw (by rw [bo_8 (by omega)]; omega) (bl_7 (by omega)).symm
              · skip
                refine y_push rfl ?_
                refine y_goto rfl ?_
                refine y_iadd (v := (op + 1)) rfl rfl (by omega) ?_
                refine y_istore (L' := [some (2, 547), some (0, p), some (0, n), some (0, (op + 1)), some (0, lt), some (0, (κ : Int)), some (0, (σ 548 (p + (κ : Int))))]) rfl rfl rfl rfl ?_
                refine y_iload rfl rfl ?_
                refine y_push rfl ?_
                refine y_icne rfl (fun q86 => ?_) (fun q86 => ?_)
                · skip
                  refine y_push rfl ?_
                  refine y_istore (L' := [some (2, 547), some (0, p), some (0, n), some (0, (op + 1)), some (0, 0), some (0, (κ : Int)), some (0, (σ 548 (p + (κ : Int))))]) rfl rfl rfl rfl ?_
                  refine y_iinc (L' := [some (2, 547), some (0, p), some (0, n), some (0, (op + 1)), some (0, 0), some (0, ((κ : Int) + 1)), some (0, (σ 548 (p + (κ : Int))))]) rfl rfl rfl rfl rfl (by omega) ?_
                  refine y_goto rfl ?_
                  refine y_forget (M := [some (2, 547), some (0, p), some (0, n), some (0, (op + 1)), some (0, 0), some (0, ((κ : Int) + 1)), none]) ⟨Or.inr rfl, ⟨Or.inr rfl, ⟨Or.inr rfl, ⟨Or.inr rfl, ⟨Or.inr rfl, ⟨Or.inr rfl, ⟨Or.inl rfl, trivial⟩⟩⟩⟩⟩⟩⟩ ?_
                  have hb : ¬ bbad f κ := by unfold bbad; omega
                  have hw := bw_up h1 hb
                  exact ih (κ + 1) _ _ (by omega) (by omega) hw (by rw [bo_7 (by omega)]; omega) (bl_n (by omega)).symm
                · skip
                  refine y_push rfl ?_
                  refine y_goto rfl ?_
                  refine y_istore (L' := [some (2, 547), some (0, p), some (0, n), some (0, (op + 1)), some (0, 1), some (0, (κ : Int)), some (0, (σ 548 (p + (κ : Int))))]) rfl rfl rfl rfl ?_
                  refine y_iinc (L' := [some (2, 547), some (0, p), some (0, n), some (0, (op + 1)), some (0, 1), some (0, ((κ : Int) + 1)), some (0, (σ 548 (p + (κ : Int))))]) rfl rfl rfl rfl rfl (by omega) ?_
                  refine y_goto rfl ?_
                  refine y_forget (M := [some (2, 547), some (0, p), some (0, n), some (0, (op + 1)), some (0, 1), some (0, ((κ : Int) + 1)), none]) ⟨Or.inr rfl, ⟨Or.inr rfl, ⟨Or.inr rfl, ⟨Or.inr rfl, ⟨Or.inr rfl, ⟨Or.inr rfl, ⟨Or.inl rfl, trivial⟩⟩⟩⟩⟩⟩⟩ ?_
                  have hb : ¬ bbad f κ := by unfold bbad; omega
                  have hw := bw_up h1 hb
                  exact ih (κ + 1) _ _ (by omega) (by omega) hw (by rw [bo_7 (by omega)]; omega) (bl_7 (by omega)).symm
            · skip
              refine y_iload rfl rfl ?_
              refine y_iret rfl rfl ⟨_, rfl, ?_⟩
              have hb : bbad f κ := by unfold bbad; omega
              have h9 := bw_bad h1 hb
              have hw := bw_stay (f := f) (k := κ + 1) (by omega) n.toNat (by omega)
              exact ⟨rfl, by unfold bflaw; rw [if_pos (by omega)]; omega⟩
      · skip
        refine y_push rfl ?_
        refine y_goto rfl ?_
        refine y_icne rfl (fun q39 => ?_) (fun q39 => ?_)
        · skip
          refine y_iload rfl rfl ?_
          refine y_iret rfl rfl ⟨_, rfl, ?_⟩
          have hb : bbad f κ := by unfold bbad; omega
          have h9 := bw_bad h1 hb
          have hw := bw_stay (f := f) (k := κ + 1) (by omega) n.toNat (by omega)
          exact ⟨rfl, by unfold bflaw; rw [if_pos (by omega)]; omega⟩
        · skip
          refine y_iload rfl rfl ?_
          refine y_push rfl ?_
          refine y_icne rfl (fun q46 => ?_) (fun q46 => ?_)
          · skip
            refine y_iload rfl rfl ?_
            refine y_iload rfl rfl ?_
            refine y_push rfl ?_
            refine y_icne rfl (fun q61 => ?_) (fun q61 => ?_)
            · skip
              refine y_iload rfl rfl ?_
              refine y_push rfl ?_
              refine y_icne rfl (fun q72 => ?_) (fun q72 => ?_)
              · skip
                refine y_push rfl ?_
                refine y_iadd (v := (op + 0)) rfl rfl (by omega) ?_
                refine y_istore (L' := [some (2, 547), some (0, p), some (0, n), some (0, (op + 0)), some (0, lt), some (0, (κ : Int)), some (0, (σ 548 (p + (κ : Int))))]) rfl rfl rfl rfl ?_
                refine y_iload rfl rfl ?_
                refine y_push rfl ?_
                refine y_icne rfl (fun q86 => ?_) (fun q86 => ?_)
                · skip
                  refine y_push rfl ?_
                  refine y_istore (L' := [some (2, 547), some (0, p), some (0, n), some (0, (op + 0)), some (0, 0), some (0, (κ : Int)), some (0, (σ 548 (p + (κ : Int))))]) rfl rfl rfl rfl ?_
                  refine y_iinc (L' := [some (2, 547), some (0, p), some (0, n), some (0, (op + 0)), some (0, 0), some (0, ((κ : Int) + 1)), some (0, (σ 548 (p + (κ : Int))))]) rfl rfl rfl rfl rfl (by omega) ?_
                  refine y_goto rfl ?_
                  refine y_forget (M := [some (2, 547), some (0, p), some (0, n), some (0, (op + 0)), some (0, 0), some (0, ((κ : Int) + 1)), none]) ⟨Or.inr rfl, ⟨Or.inr rfl, ⟨Or.inr rfl, ⟨Or.inr rfl, ⟨Or.inr rfl, ⟨Or.inr rfl, ⟨Or.inl rfl, trivial⟩⟩⟩⟩⟩⟩⟩ ?_
                  have hb : ¬ bbad f κ := by unfold bbad; omega
                  have hw := bw_up h1 hb
                  exact ih (κ + 1) _ _ (by omega) (by omega) hw (by rw [bo_n (by omega) (by omega)]; omega) (bl_n (by omega)).symm
                · skip
                  refine y_push rfl ?_
                  refine y_goto rfl ?_
                  refine y_istore (L' := [some (2, 547), some (0, p), some (0, n), some (0, (op + 0)), some (0, 1), some (0, (κ : Int)), some (0, (σ 548 (p + (κ : Int))))]) rfl rfl rfl rfl ?_
                  refine y_iinc (L' := [some (2, 547), some (0, p), some (0, n), some (0, (op + 0)), some (0, 1), some (0, ((κ : Int) + 1)), some (0, (σ 548 (p + (κ : Int))))]) rfl rfl rfl rfl rfl (by omega) ?_
                  refine y_goto rfl ?_
                  refine y_forget (M := [some (2, 547), some (0, p), some (0, n), some (0, (op + 0)), some (0, 1), some (0, ((κ : Int) + 1)), none]) ⟨Or.inr rfl, ⟨Or.inr rfl, ⟨Or.inr rfl, ⟨Or.inr rfl, ⟨Or.inr rfl, ⟨Or.inr rfl, ⟨Or.inl rfl, trivial⟩⟩⟩⟩⟩⟩⟩ ?_
                  have hb : ¬ bbad f κ := by unfold bbad; omega
                  have hw := bw_up h1 hb
                  exact ih (κ + 1) _ _ (by omega) (by omega) hw (by rw [bo_n (by omega) (by omega)]; omega) (bl_7 (by omega)).symm
              · skip
                refine y_push rfl ?_
                refine y_goto rfl ?_
                refine y_iadd (v := (op + (-1))) rfl rfl (by omega) ?_
                refine y_istore (L' := [some (2, 547), some (0, p), some (0, n), some (0, (op + (-1))), some (0, lt), some (0, (κ : Int)), some (0, (σ 548 (p + (κ : Int))))]) rfl rfl rfl rfl ?_
                refine y_iload rfl rfl ?_
                refine y_push rfl ?_
                refine y_icne rfl (fun q86 => ?_) (fun q86 => ?_)
                · skip
                  refine y_push rfl ?_
                  refine y_istore (L' := [some (2, 547), some (0, p), some (0, n), some (0, (op + (-1))), some (0, 0), some (0, (κ : Int)), some (0, (σ 548 (p + (κ : Int))))]) rfl rfl rfl rfl ?_
                  refine y_iinc (L' := [some (2, 547), some (0, p), some (0, n), some (0, (op + (-1))), some (0, 0), some (0, ((κ : Int) + 1)), some (0, (σ 548 (p + (κ : Int))))]) rfl rfl rfl rfl rfl (by omega) ?_
                  refine y_goto rfl ?_
                  refine y_forget (M := [some (2, 547), some (0, p), some (0, n), some (0, (op + (-1))), some (0, 0), some (0, ((κ : Int) + 1)), none]) ⟨Or.inr rfl, ⟨Or.inr rfl, ⟨Or.inr rfl, ⟨Or.inr rfl, ⟨Or.inr rfl, ⟨Or.inr rfl, ⟨Or.inl rfl, trivial⟩⟩⟩⟩⟩⟩⟩ ?_
                  have hb : ¬ bbad f κ := by unfold bbad; omega
                  have hw := bw_up h1 hb
                  exact ih (κ + 1) _ _ (by omega) (by omega) hw (by rw [bo_8 (by omega)]; omega) (bl_n (by omega)).symm
                · skip
                  refine y_push rfl ?_
                  refine y_goto rfl ?_
                  refine y_istore (L' := [some (2, 547), some (0, p), some (0, n), some (0, (op + (-1))), some (0, 1), some (0, (κ : Int)), some (0, (σ 548 (p + (κ : Int))))]) rfl rfl rfl rfl ?_
                  refine y_iinc (L' := [some (2, 547), some (0, p), some (0, n), some (0, (op + (-1))), some (0, 1), some (0, ((κ : Int) + 1)), some (0, (σ 548 (p + (κ : Int))))]) rfl rfl rfl rfl rfl (by omega) ?_
                  refine y_goto rfl ?_
                  refine y_forget (M := [some (2, 547), some (0, p), some (0, n), some (0, (op + (-1))), some (0, 1), some (0, ((κ : Int) + 1)), none]) ⟨Or.inr rfl, ⟨Or.inr rfl, ⟨Or.inr rfl, ⟨Or.inr rfl, ⟨Or.inr rfl, ⟨Or.inr rfl, ⟨Or.inl rfl, trivial⟩⟩⟩⟩⟩⟩⟩ ?_
                  have hb : ¬ bbad f κ := by unfold bbad; omega
                  have hw := bw_up h1 hb
                  exact ih (κ + 1) _ _ (by omega) (by omega) hw (by rw [bo_8 (by omega)]; omega) (bl_7 (by omega)).symm
            · skip
              refine y_push rfl ?_
              refine y_goto rfl ?_
              refine y_iadd (v := (op + 1)) rfl rfl (by omega) ?_
              refine y_istore (L' := [some (2, 547), some (0, p), some (0, n), some (0, (op + 1)), some (0, lt), some (0, (κ : Int)), some (0, (σ 548 (p + (κ : Int))))]) rfl rfl rfl rfl ?_
              refine y_iload rfl rfl ?_
              refine y_push rfl ?_
              refine y_icne rfl (fun q86 => ?_) (fun q86 => ?_)
              · skip
                refine y_push rfl ?_
                refine y_istore (L' := [some (2, 547), some (0, p), some (0, n), some (0, (op + 1)), some (0, 0), some (0, (κ : Int)), some (0, (σ 548 (p + (κ : Int))))]) rfl rfl rfl rfl ?_
                refine y_iinc (L' := [some (2, 547), some (0, p), some (0, n), some (0, (op + 1)), some (0, 0), some (0, ((κ : Int) + 1)), some (0, (σ 548 (p + (κ : Int))))]) rfl rfl rfl rfl rfl (by omega) ?_
                refine y_goto rfl ?_
                refine y_forget (M := [some (2, 547), some (0, p), some (0, n), some (0, (op + 1)), some (0, 0), some (0, ((κ : Int) + 1)), none]) ⟨Or.inr rfl, ⟨Or.inr rfl, ⟨Or.inr rfl, ⟨Or.inr rfl, ⟨Or.inr rfl, ⟨Or.inr rfl, ⟨Or.inl rfl, trivial⟩⟩⟩⟩⟩⟩⟩ ?_
                have hb : ¬ bbad f κ := by unfold bbad; omega
                have hw := bw_up h1 hb
                exact ih (κ + 1) _ _ (by omega) (by omega) hw (by rw [bo_7 (by omega)]; omega) (bl_n (by omega)).symm
              · skip
                refine y_push rfl ?_
                refine y_goto rfl ?_
                refine y_istore (L' := [some (2, 547), some (0, p), some (0, n), some (0, (op + 1)), some (0, 1), some (0, (κ : Int)), some (0, (σ 548 (p + (κ : Int))))]) rfl rfl rfl rfl ?_
                refine y_iinc (L' := [some (2, 547), some (0, p), some (0, n), some (0, (op + 1)), some (0, 1), some (0, ((κ : Int) + 1)), some (0, (σ 548 (p + (κ : Int))))]) rfl rfl rfl rfl rfl (by omega) ?_
                refine y_goto rfl ?_
                refine y_forget (M := [some (2, 547), some (0, p), some (0, n), some (0, (op + 1)), some (0, 1), some (0, ((κ : Int) + 1)), none]) ⟨Or.inr rfl, ⟨Or.inr rfl, ⟨Or.inr rfl, ⟨Or.inr rfl, ⟨Or.inr rfl, ⟨Or.inr rfl, ⟨Or.inl rfl, trivial⟩⟩⟩⟩⟩⟩⟩ ?_
                have hb : ¬ bbad f κ := by unfold bbad; omega
                have hw := bw_up h1 hb
                exact ih (κ + 1) _ _ (by omega) (by omega) hw (by rw [bo_7 (by omega)]; omega) (bl_7 (by omega)).symm
          · skip
            refine y_iload rfl rfl ?_
            refine y_ifne rfl (fun q50 => ?_) (fun q50 => ?_)
            · skip
              refine y_iload rfl rfl ?_
              refine y_iload rfl rfl ?_
              refine y_push rfl ?_
              refine y_icne rfl (fun q61 => ?_) (fun q61 => ?_)
              · skip
                refine y_iload rfl rfl ?_
                refine y_push rfl ?_
                refine y_icne rfl (fun q72 => ?_) (fun q72 => ?_)
                · skip
                  refine y_push rfl ?_
                  refine y_iadd (v := (op + 0)) rfl rfl (by omega) ?_
                  refine y_istore (L' := [some (2, 547), some (0, p), some (0, n), some (0, (op + 0)), some (0, lt), some (0, (κ : Int)), some (0, (σ 548 (p + (κ : Int))))]) rfl rfl rfl rfl ?_
                  refine y_iload rfl rfl ?_
                  refine y_push rfl ?_
                  refine y_icne rfl (fun q86 => ?_) (fun q86 => ?_)
                  · skip
                    refine y_push rfl ?_
                    refine y_istore (L' := [some (2, 547), some (0, p), some (0, n), some (0, (op + 0)), some (0, 0), some (0, (κ : Int)), some (0, (σ 548 (p + (κ : Int))))]) rfl rfl rfl rfl ?_
                    refine y_iinc (L' := [some (2, 547), some (0, p), some (0, n), some (0, (op + 0)), some (0, 0), some (0, ((κ : Int) + 1)), some (0, (σ 548 (p + (κ : Int))))]) rfl rfl rfl rfl rfl (by omega) ?_
                    refine y_goto rfl ?_
                    refine y_forget (M := [some (2, 547), some (0, p), some (0, n), some (0, (op + 0)), some (0, 0), some (0, ((κ : Int) + 1)), none]) ⟨Or.inr rfl, ⟨Or.inr rfl, ⟨Or.inr rfl, ⟨Or.inr rfl, ⟨Or.inr rfl, ⟨Or.inr rfl, ⟨Or.inl rfl, trivial⟩⟩⟩⟩⟩⟩⟩ ?_
                    have hb : ¬ bbad f κ := by unfold bbad; omega
                    have hw := bw_up h1 hb
                    exact ih (κ + 1) _ _ (by omega) (by omega) hw (by rw [bo_n (by omega) (by omega)]; omega) (bl_n (by omega)).symm
                  · skip
                    refine y_push rfl ?_
                    refine y_goto rfl ?_
                    refine y_istore (L' := [some (2, 547), some (0, p), some (0, n), some (0, (op + 0)), some (0, 1), some (0, (κ : Int)), some (0, (σ 548 (p + (κ : Int))))]) rfl rfl rfl rfl ?_
                    refine y_iinc (L' := [some (2, 547), some (0, p), some (0, n), some (0, (op + 0)), some (0, 1), some (0, ((κ : Int) + 1)), some (0, (σ 548 (p + (κ : Int))))]) rfl rfl rfl rfl rfl (by omega) ?_
                    refine y_goto rfl ?_
                    refine y_forget (M := [some (2, 547), some (0, p), some (0, n), some (0, (op + 0)), some (0, 1), some (0, ((κ : Int) + 1)), none]) ⟨Or.inr rfl, ⟨Or.inr rfl, ⟨Or.inr rfl, ⟨Or.inr rfl, ⟨Or.inr rfl, ⟨Or.inr rfl, ⟨Or.inl rfl, trivial⟩⟩⟩⟩⟩⟩⟩ ?_
                    have hb : ¬ bbad f κ := by unfold bbad; omega
                    have hw := bw_up h1 hb
                    exact ih (κ + 1) _ _ (by omega) (by omega) hw (by rw [bo_n (by omega) (by omega)]; omega) (bl_7 (by omega)).symm
                · skip
                  refine y_push rfl ?_
                  refine y_goto rfl ?_
                  refine y_iadd (v := (op + (-1))) rfl rfl (by omega) ?_
                  refine y_istore (L' := [some (2, 547), some (0, p), some (0, n), some (0, (op + (-1))), some (0, lt), some (0, (κ : Int)), some (0, (σ 548 (p + (κ : Int))))]) rfl rfl rfl rfl ?_
                  refine y_iload rfl rfl ?_
                  refine y_push rfl ?_
                  refine y_icne rfl (fun q86 => ?_) (fun q86 => ?_)
                  · skip
                    refine y_push rfl ?_
                    refine y_istore (L' := [some (2, 547), some (0, p), some (0, n), some (0, (op + (-1))), some (0, 0), some (0, (κ : Int)), some (0, (σ 548 (p + (κ : Int))))]) rfl rfl rfl rfl ?_
                    refine y_iinc (L' := [some (2, 547), some (0, p), some (0, n), some (0, (op + (-1))), some (0, 0), some (0, ((κ : Int) + 1)), some (0, (σ 548 (p + (κ : Int))))]) rfl rfl rfl rfl rfl (by omega) ?_
                    refine y_goto rfl ?_
                    refine y_forget (M := [some (2, 547), some (0, p), some (0, n), some (0, (op + (-1))), some (0, 0), some (0, ((κ : Int) + 1)), none]) ⟨Or.inr rfl, ⟨Or.inr rfl, ⟨Or.inr rfl, ⟨Or.inr rfl, ⟨Or.inr rfl, ⟨Or.inr rfl, ⟨Or.inl rfl, trivial⟩⟩⟩⟩⟩⟩⟩ ?_
                    have hb : ¬ bbad f κ := by unfold bbad; omega
                    have hw := bw_up h1 hb
                    exact ih (κ + 1) _ _ (by omega) (by omega) hw (by rw [bo_8 (by omega)]; omega) (bl_n (by omega)).symm
                  · skip
                    refine y_push rfl ?_
                    refine y_goto rfl ?_
                    refine y_istore (L' := [some (2, 547), some (0, p), some (0, n), some (0, (op + (-1))), some (0, 1), some (0, (κ : Int)), some (0, (σ 548 (p + (κ : Int))))]) rfl rfl rfl rfl ?_
                    refine y_iinc (L' := [some (2, 547), some (0, p), some (0, n), some (0, (op + (-1))), some (0, 1), some (0, ((κ : Int) + 1)), some (0, (σ 548 (p + (κ : Int))))]) rfl rfl rfl rfl rfl (by omega) ?_
                    refine y_goto rfl ?_
                    refine y_forget (M := [some (2, 547), some (0, p), some (0, n), some (0, (op + (-1))), some (0, 1), some (0, ((κ : Int) + 1)), none]) ⟨Or.inr rfl, ⟨Or.inr rfl, ⟨Or.inr rfl, ⟨Or.inr rfl, ⟨Or.inr rfl, ⟨Or.inr rfl, ⟨Or.inl rfl, trivial⟩⟩⟩⟩⟩⟩⟩ ?_
                    have hb : ¬ bbad f κ := by unfold bbad; omega
                    have hw := bw_up h1 hb
                    exact ih (κ + 1) _ _ (by omega) (by omega) hw (by rw [bo_8 (by omega)]; omega) (bl_7 (by omega)).symm
              · skip
                refine y_push rfl ?_
                refine y_goto rfl ?_
                refine y_iadd (v := (op + 1)) rfl rfl (by omega) ?_
                refine y_istore (L' := [some (2, 547), some (0, p), some (0, n), some (0, (op + 1)), some (0, lt), some (0, (κ : Int)), some (0, (σ 548 (p + (κ : Int))))]) rfl rfl rfl rfl ?_
                refine y_iload rfl rfl ?_
                refine y_push rfl ?_
                refine y_icne rfl (fun q86 => ?_) (fun q86 => ?_)
                · skip
                  refine y_push rfl ?_
                  refine y_istore (L' := [some (2, 547), some (0, p), some (0, n), some (0, (op + 1)), some (0, 0), some (0, (κ : Int)), some (0, (σ 548 (p + (κ : Int))))]) rfl rfl rfl rfl ?_
                  refine y_iinc (L' := [some (2, 547), some (0, p), some (0, n), some (0, (op + 1)), some (0, 0), some (0, ((κ : Int) + 1)), some (0, (σ 548 (p + (κ : Int))))]) rfl rfl rfl rfl rfl (by omega) ?_
                  refine y_goto rfl ?_
                  refine y_forget (M := [some (2, 547), some (0, p), some (0, n), some (0, (op + 1)), some (0, 0), some (0, ((κ : Int) + 1)), none]) ⟨Or.inr rfl, ⟨Or.inr rfl, ⟨Or.inr rfl, ⟨Or.inr rfl, ⟨Or.inr rfl, ⟨Or.inr rfl, ⟨Or.inl rfl, trivial⟩⟩⟩⟩⟩⟩⟩ ?_
                  have hb : ¬ bbad f κ := by unfold bbad; omega
                  have hw := bw_up h1 hb
                  exact ih (κ + 1) _ _ (by omega) (by omega) hw (by rw [bo_7 (by omega)]; omega) (bl_n (by omega)).symm
                · skip
                  refine y_push rfl ?_
                  refine y_goto rfl ?_
                  refine y_istore (L' := [some (2, 547), some (0, p), some (0, n), some (0, (op + 1)), some (0, 1), some (0, (κ : Int)), some (0, (σ 548 (p + (κ : Int))))]) rfl rfl rfl rfl ?_
                  refine y_iinc (L' := [some (2, 547), some (0, p), some (0, n), some (0, (op + 1)), some (0, 1), some (0, ((κ : Int) + 1)), some (0, (σ 548 (p + (κ : Int))))]) rfl rfl rfl rfl rfl (by omega) ?_
                  refine y_goto rfl ?_
                  refine y_forget (M := [some (2, 547), some (0, p), some (0, n), some (0, (op + 1)), some (0, 1), some (0, ((κ : Int) + 1)), none]) ⟨Or.inr rfl, ⟨Or.inr rfl, ⟨Or.inr rfl, ⟨Or.inr rfl, ⟨Or.inr rfl, ⟨Or.inr rfl, ⟨Or.inl rfl, trivial⟩⟩⟩⟩⟩⟩⟩ ?_
                  have hb : ¬ bbad f κ := by unfold bbad; omega
                  have hw := bw_up h1 hb
                  exact ih (κ + 1) _ _ (by omega) (by omega) hw (by rw [bo_7 (by omega)]; omega) (bl_7 (by omega)).symm
            · skip
              refine y_iload rfl rfl ?_
              refine y_iret rfl rfl ⟨_, rfl, ?_⟩
              have hb : bbad f κ := by unfold bbad; omega
              have h9 := bw_bad h1 hb
              have hw := bw_stay (f := f) (k := κ + 1) (by omega) n.toNat (by omega)
              exact ⟨rfl, by unfold bflaw; rw [if_pos (by omega)]; omega⟩
theorem m_faultOf {g : Launch × XG × va_G} {σ : YS} {p n : Int} {f : Int → Int} (hf : ∀ k, 0 ≤ k → k < n → σ 548 (p + k) = f k) (hn : 0 ≤ n ∧ n ≤ 24) (hp : 0 ≤ p ∧ p + n ≤ 2108) : YI g 120 [(2, 547), (0, p), (0, n)] σ (fun b σ' => σ = σ' ∧ bflaw f n.toNat = b) := by
  refine y_start rfl rfl rfl ?_
  refine y_push rfl ?_
  refine y_istore (L' := [some (2, 547), some (0, p), some (0, n), some (0, 0), none, none, none]) rfl rfl rfl rfl ?_
  refine y_push rfl ?_
  refine y_istore (L' := [some (2, 547), some (0, p), some (0, n), some (0, 0), some (0, 0), none, none]) rfl rfl rfl rfl ?_
  refine y_push rfl ?_
  refine y_istore (L' := [some (2, 547), some (0, p), some (0, n), some (0, 0), some (0, 0), some (0, 0), none]) rfl rfl rfl rfl ?_
  exact l_faultOf hf hn hp (n.toNat + 1) 0 0 0 (by omega) (by omega) rfl rfl rfl
