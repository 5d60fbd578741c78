/-! What all of it is: Z 0 and Z 1 are the street, Z 2 0 0 how many steps may be undone, Z (3 + k) how all was ahead of the last step but k.
M: row 0 images kept, row 1 the text's bytes, row 2 its length, row 3 what was refused. -/
abbrev YZ : Type := Int → YS
def zst (σ : YS) (s p : Int) (Z : YZ) : Prop := rep σ s (Z 0) (Z 1) ∧ pst σ p (Z 1 5 0) (Z 0) (Z 2 0 0) (fun k => Z (3 + k))
def zG (Z : YZ) (N : Int) : Prop := eG (Z 0) ∧ dG (Z 0) (Z 1) ∧ (0 ≤ Z 1 5 0 ∧ Z 1 5 0 ≤ N) ∧ (0 ≤ Z 2 0 0 ∧ Z 2 0 0 ≤ 20 ∧ Z 2 0 0 ≤ Z 1 5 0) ∧ (Z 0 6 0 = 7 ∧ ∀ j, 0 ≤ j → j < 4 → 0 ≤ Z 0 7 j ∧ Z 0 7 j < 9) ∧ ∀ k, 0 ≤ k → k < Z 2 0 0 → dG (Z 0) (Z (3 + k)) ∧ Z (3 + k) 5 0 = Z 1 5 0 - 1 - k
/-- all but who waited in the last step -/
def zw (Z : YZ) (v : Int) : YZ := fun r => if r = 1 then yset (Z 1) 6 0 v else Z r
def xW (σ : YS) (Z : YZ) (I : Int → YZ) (M : YS) : Prop := zst σ 1 15 Z ∧ (∀ j, 0 ≤ j → j < 2 → M 0 j = 1 → zst σ (66 + 14 * j) (95 + 22 * j) (zw (I j) (σ (66 + 14 * j) 7))) ∧ (∀ j, 0 ≤ j → j < 2 → σ 139 j = M 0 j) ∧ (σ 140 2 = M 2 0 ∧ ∀ k, 0 ≤ k → k < M 2 0 → σ 141 k = M 1 k) ∧ ∀ j, 0 ≤ j → j < 3 → σ 0 (11 + j) = M 3 j
def wG (Z : YZ) (I : Int → YZ) (M : YS) (N : Int) : Prop := zG Z N ∧ (∀ j, 0 ≤ j → j < 2 → (M 0 j = 0 ∨ M 0 j = 1) ∧ (M 0 j = 1 → zG (I j) N)) ∧ (0 ≤ M 2 0 ∧ M 2 0 ≤ 200 ∧ ∀ k, 0 ≤ k → k < M 2 0 → 0 ≤ M 1 k ∧ M 1 k ≤ 255) ∧ ∀ j, 0 ≤ j → j < 3 → 0 ≤ M 3 j ∧ M 3 j ≤ N
def mfr (σ σ' : YS) : Prop := ∀ x y, 547 ≤ x → σ' x y = σ x y
theorem mfr_y {σ σ' : YS} {lo hi : Int} (h : yfr σ σ' lo hi) (hh : hi < 547) : mfr σ σ' := fun x y hx => h x y (by omega)
theorem mfr_s {σ σ' : YS} {k j v : Int} (h : mfr σ σ') (hk : k < 547) : mfr σ (yset σ' k j v) := fun x y hx => by
  rw [yne (by omega) rfl]; exact h x y hx
theorem mfr_t {σ σ' σ'' : YS} (h : mfr σ σ') (h' : mfr σ' σ'') : mfr σ σ'' := fun x y hx => (h' x y hx).trans (h x y hx)
theorem mfr_0 (σ : YS) : mfr σ σ := fun _ _ _ => rfl
theorem pst_cong {σ σ' : YS} {p n : Int} {E : YS} {u : Int} {U : Int → YS} (hm : 0 ≤ E 1 0 ∧ E 1 0 ≤ 3) (h : pst σ p n E u U) (e : ∀ x y, p ≤ x → x ≤ p + 21 → σ' x y = σ x y) : pst σ' p n E u U := by
  obtain ⟨h1, h2, h3⟩ := h
  exact ⟨by rw [e _ _ (by omega) (by omega)]; exact h1, h2, fun k a b => rowc_cong hm (h3 k a b) (fun x y _ => e _ _ (by omega) (by omega))⟩
theorem zst_cong {σ σ' : YS} {s p : Int} {Z : YZ} (hm : 0 ≤ Z 0 1 0 ∧ Z 0 1 0 ≤ 3) (h : zst σ s p Z) (e : ∀ x y, (s ≤ x ∧ x ≤ s + 12) ∨ (p ≤ x ∧ x ≤ p + 21) → σ' x y = σ x y) : zst σ' s p Z :=
  ⟨rep_cong hm.2 h.1 (fun x y a b => e x y (by omega)), pst_cong hm h.2 (fun x y a b => e x y (by omega))⟩
/-- the rest of the class's own cells stay as they were -/
theorem xW_rest {σ σ' : YS} {Z Z' : YZ} {I : Int → YZ} {M : YS} {N : Int} (hg : wG Z I M N) (h : xW σ Z I M) (hz : zst σ' 1 15 Z') (e : ∀ x y, (66 ≤ x ∧ x ≤ 141) ∨ x = 0 → σ' x y = σ x y) : xW σ' Z' I M := by
  obtain ⟨h1, h2, h3, ⟨h4, h5⟩, h6⟩ := h
  refine ⟨hz, fun j a b c => by rw [e (66 + 14 * j) 7 (by omega)]; exact zst_cong ((hg.2.1 j a b).2 c).1.2.1 (h2 j a b c) (fun x y z => e x y (by omega)), fun j a b => by rw [e _ _ (by omega)]; exact h3 j a b, ⟨by rw [e _ _ (by omega)]; exact h4, fun k a b => by rw [e _ _ (by omega)]; exact h5 k a b⟩, fun j a b => by rw [e _ _ (by omega)]; exact h6 j a b⟩
/-- what is used up in a call, and cells of the model -/
def xsc (x : Int) : Prop := (37 ≤ x ∧ x ≤ 64) ∨ (142 ≤ x ∧ x ≤ 546)
theorem xW_scr {σ σ' : YS} {Z : YZ} {I : Int → YZ} {M : YS} {N : Int} (hg : wG Z I M N) (h : xW σ Z I M) (e : ∀ x y, 0 ≤ x → x < 37 ∨ (64 < x ∧ x < 142) → σ' x y = σ x y) : xW σ' Z I M :=
  xW_rest hg h (zst_cong hg.1.1.2.1 h.1 (fun x y z => e x y (by omega) (by omega))) (fun x y z => e x y (by omega) (by omega))
theorem xW_model {σ σ' : YS} {Z : YZ} {I : Int → YZ} {M : YS} {N : Int} (hg : wG Z I M N) (h : xW σ Z I M) (e : ∀ x y, x < 547 → σ' x y = σ x y) : xW σ' Z I M :=
  xW_scr hg h (fun x y _ z => e x y (by omega))
def bump (M : YS) (j : Int) : YS := yset M 3 j (M 3 j + 1)
theorem xW_bump {σ : YS} {Z : YZ} {I : Int → YZ} {M : YS} {N : Int} {j k v : Int} (hg : wG Z I M N) (h : xW σ Z I M) (hj : 0 ≤ j ∧ j < 3) (hk : k = 11 + j) (hv : v = σ 0 k + 1) : xW (yset σ 0 k v) Z I (bump M j) := by
  subst hk hv
  obtain ⟨h1, h2, h3, ⟨h4, h5⟩, h6⟩ := h
  have b : ∀ r c, r ≠ 3 → bump M j r c = M r c := fun r c hr => by unfold bump; rw [yne (by omega) rfl]
  refine ⟨zst_cong hg.1.1.2.1 h1 (fun x y z => yne (by omega) rfl), fun i x y z => ?_, fun i x y => by rw [b 0 i (by omega), yne (by omega) rfl]; exact h3 i x y, ⟨by rw [b 2 0 (by omega), yne (by omega) rfl]; exact h4, fun k x y => by rw [b 2 0 (by omega)] at y; rw [b 1 k (by omega), yne (by omega) rfl]; exact h5 k x y⟩, fun i x y => ?_⟩
  · rw [b 0 i (by omega)] at z
    rw [yne (a := 66 + 14 * i) (b := 7) (by omega) rfl]
    exact zst_cong ((hg.2.1 i x y).2 z).1.2.1 (h2 i x y z) (fun x y z => yne (by omega) rfl)
  · by_cases e : i = j
    · subst e
      unfold bump
      rw [yeq, yeq, h6 i x y]
    · unfold bump
      rw [yne (by omega) rfl, yne (by omega) rfl]
      exact h6 i x y
theorem wG_bump {Z : YZ} {I : Int → YZ} {M : YS} {N j : Int} (hg : wG Z I M N) (hj : 0 ≤ j ∧ j < 3) : wG Z I (bump M j) (N + 1) := by
  obtain ⟨⟨a1, a2, a3, a4, a5, a6⟩, h2, h3, h4⟩ := hg
  have b : ∀ r c, r ≠ 3 → bump M j r c = M r c := fun r c hr => by unfold bump; rw [yne (by omega) rfl]
  refine ⟨⟨a1, a2, by omega, a4, a5, a6⟩, fun i x y => ?_, ?_, fun i x y => ?_⟩
  · rw [b 0 i (by omega)]
    refine ⟨(h2 i x y).1, fun z => ?_⟩
    obtain ⟨b1, b2, b3, b4, b5, b6⟩ := (h2 i x y).2 z
    exact ⟨b1, b2, by omega, b4, b5, b6⟩
  · rw [b 2 0 (by omega)]
    exact ⟨h3.1, h3.2.1, fun k x y => by rw [b 1 k (by omega)]; exact h3.2.2 k x y⟩
  · have := h4 i x y
    have := h4 j hj.1 hj.2
    unfold bump
    by_cases e : i = j
    · subst e; rw [yeq]; omega
    · rw [yne (by omega) rfl]; omega
theorem wG_N {Z : YZ} {I : Int → YZ} {M : YS} {N K : Int} (hg : wG Z I M N) (hn : N ≤ K) : wG Z I M K := by
  obtain ⟨⟨a1, a2, a3, a4, a5, a6⟩, h2, h3, h4⟩ := hg
  refine ⟨⟨a1, a2, by omega, a4, a5, a6⟩, fun i x y => ⟨(h2 i x y).1, fun z => ?_⟩, h3, fun i x y => by have := h4 i x y; omega⟩
  obtain ⟨b1, b2, b3, b4, b5, b6⟩ := (h2 i x y).2 z
  exact ⟨b1, b2, by omega, b4, b5, b6⟩
def ztell (Z : YZ) (E D : YS) : YZ := fun r => if r = 0 then E else if r = 1 then D else if r = 2 then (fun _ _ => 0) else Z r
theorem ztell_0 {Z : YZ} {E D : YS} : ztell Z E D 0 = E := rfl
theorem ztell_1 {Z : YZ} {E D : YS} : ztell Z E D 1 = D := rfl
theorem ztell_2 {Z : YZ} {E D : YS} : ztell Z E D 2 0 0 = 0 := rfl
theorem xW_tell {σ τ : YS} {Z : YZ} {I : Int → YZ} {M : YS} {N : Int} {E D : YS} (hg : wG Z I M N) (h : xW σ Z I M) (hr : rep τ 1 E D) (hm : E 1 0 ≤ 3) (hn : 0 ≤ D 5 0) (hf : yfr σ τ 1 13) : xW (yset τ 15 1 0) (ztell Z E D) I M := by
  refine xW_rest hg h ⟨rep_cong (by rw [ztell_0]; exact hm) hr (fun x y a b => yne (by omega) rfl), ?_, ?_, fun k a b => ?_⟩ (fun x y z => by rw [yne (by omega) rfl]; exact hf x y (by omega))
  · rw [yeq, ztell_2]
  · rw [ztell_2, ztell_1]; omega
  · rw [ztell_2] at b; omega
theorem zG_tell {Z : YZ} {E D : YS} {N : Int} (h1 : eG E) (h2 : dG E D) (h3 : 0 ≤ D 5 0 ∧ D 5 0 ≤ N) (h6 : E 6 0 = 7 ∧ ∀ j, 0 ≤ j → j < 4 → 0 ≤ E 7 j ∧ E 7 j < 9) : zG (ztell Z E D) N := ⟨h1, h2, h3, by rw [ztell_2, ztell_1]; omega, h6, fun k a b => by rw [ztell_2] at b; omega⟩
theorem wG_Z {Z Z' : YZ} {I : Int → YZ} {M : YS} {N : Int} (hg : wG Z I M N) (hz : zG Z' N) : wG Z' I M N := ⟨hz, hg.2⟩
abbrev YK : Type := Int × YZ × YS
def kstreet (Z : YZ) (M : YS) (n : Int) : YK := if 2 ≤ n ∧ n ≤ 9 then (Z 0 0 0, ztell Z (begE (Z 0) n) (begD (Z 1)), M) else (-2, Z, bump M 0)
def kwater (Z : YZ) (M : YS) (c v : Int) : YK := if (0 ≤ c ∧ c < Z 0 0 0) ∧ (0 ≤ v ∧ v ≤ 20) then (Z 1 0 c, ztell Z (Z 0) (yset (Z 1) 0 c v), M) else (-2, Z, bump M 0)
def kman (Z : YZ) (M : YS) (k c : Int) : YK := if ¬ ((0 ≤ k ∧ k < 6) ∧ (0 ≤ c ∧ c < Z 0 0 0)) then (-2, Z, bump M 0) else if Z 0 1 0 = 3 then (-4, Z, bump M 2) else (Z 0 1 0, ztell Z (entE (Z 0) k) (entD (Z 0) (Z 1) c), M)
def kwrite (Z : YZ) (M : YS) (m sg : Int) : YK := if ¬ ((0 ≤ m ∧ m < Z 0 1 0) ∧ (0 ≤ sg ∧ sg < 14)) then (-2, Z, bump M 0) else if Z 0 3 m = 24 then (-4, Z, bump M 2) else (Z 0 3 m + 1, ztell Z (appE (Z 0) m sg) (appD (Z 0) (Z 1) m sg), M)
def krub (Z : YZ) (M : YS) (m : Int) : YK := if 0 ≤ m ∧ m < Z 0 1 0 then (Z 0 3 m, ztell Z (empE (Z 0) m) (empD (Z 1) m), M) else (-2, Z, bump M 0)
def kfault (Z : YZ) (M : YS) (m : Int) : YK := if 0 ≤ m ∧ m < Z 0 1 0 then (mfl (Z 0) m, Z, M) else (-10, Z, bump M 0)
def kof (Z : YZ) (M : YS) (m w : Int) : YK := if (0 ≤ m ∧ m < Z 0 1 0) ∧ (0 ≤ w ∧ w ≤ 3) then (Z 1 (1 + w) m, Z, M) else (-2, Z, bump M 0)
def kin (Z : YZ) (M : YS) (c : Int) : YK := if 0 ≤ c ∧ c < Z 0 0 0 then (Z 1 0 c, Z, M) else (-2, Z, bump M 0)
theorem appE_6 {E : YS} {m sg : Int} (hm : 0 ≤ m) : appE E m sg 6 0 = E 6 0 := slpE_g (by omega) (by omega)
theorem empE_6 {E : YS} {m : Int} (hm : 0 ≤ m) : empE E m 6 0 = E 6 0 := slpE_g (by omega) (by omega)
theorem wG_street {Z : YZ} {I : Int → YZ} {M : YS} {N n : Int} (hg : wG Z I M N) : wG (kstreet Z M n).2.1 I (kstreet Z M n).2.2 (N + 1) := by
  unfold kstreet
  split
  · rename_i h
    exact wG_Z (wG_N hg (by omega)) (zG_tell (eG_beg h) dG_beg (by unfold begD; rw [if_pos (by omega)]; have := hg.1.2.2.1; omega) ⟨by unfold begE; rw [if_neg (by omega), yne (by omega) rfl, yne (by omega) rfl]; exact hg.1.2.2.2.2.1.1, fun j a b => by unfold begE; rw [if_pos rfl]; omega⟩)
  · exact wG_bump hg (by omega)
theorem wG_water {Z : YZ} {I : Int → YZ} {M : YS} {N c v : Int} (hg : wG Z I M N) : wG (kwater Z M c v).2.1 I (kwater Z M c v).2.2 (N + 1) := by
  have hz := hg.1
  unfold kwater
  split
  · rename_i h
    exact wG_Z (wG_N hg (by omega)) (zG_tell hz.1 (dG_w hz.2.1 h.2) (by rw [yne (by omega) rfl]; have := hz.2.2.1; omega) hz.2.2.2.2.1)
  · exact wG_bump hg (by omega)
theorem wG_man {Z : YZ} {I : Int → YZ} {M : YS} {N k c : Int} (hg : wG Z I M N) : wG (kman Z M k c).2.1 I (kman Z M k c).2.2 (N + 1) := by
  have hz := hg.1
  unfold kman
  split
  · exact wG_bump hg (by omega)
  split
  · exact wG_bump hg (by omega)
  · rename_i h h'
    have h3 := hz.1.2.1
    have h4 : ((0 ≤ k ∧ k < 6) ∧ (0 ≤ c ∧ c < Z 0 0 0)) := by omega
    exact wG_Z (wG_N hg (by omega)) (zG_tell (eG_ent hz.1 h4.1 (by omega)) (dG_ent hz.2.1 h4.2) (by rw [entD_o (by omega)]; have := hz.2.2.1; omega) ⟨by rw [entE_g (by omega)]; exact hz.2.2.2.2.1.1, fun j a b => by rw [entE_g (by omega)]; exact hz.2.2.2.2.1.2 j a b⟩)
theorem wG_write {Z : YZ} {I : Int → YZ} {M : YS} {N m sg : Int} (hg : wG Z I M N) : wG (kwrite Z M m sg).2.1 I (kwrite Z M m sg).2.2 (N + 1) := by
  have hz := hg.1
  unfold kwrite
  split
  · exact wG_bump hg (by omega)
  split
  · exact wG_bump hg (by omega)
  · rename_i h h'
    have h4 : ((0 ≤ m ∧ m < Z 0 1 0) ∧ (0 ≤ sg ∧ sg < 14)) := by omega
    have h5 := (hz.1.2.2 m h4.1.1 h4.1.2).2.1
    exact wG_Z (wG_N hg (by omega)) (zG_tell (eG_app hz.1 h4.1 (by omega) h4.2) (dG_app hz.2.1 hz.1 h4.1) (by unfold appD slpD; rw [yne (by omega) rfl, yne (by omega) rfl]; have := hz.2.2.1; omega) ⟨by rw [appE_6 h4.1.1]; exact hz.2.2.2.2.1.1, fun j a b => by rw [show appE (Z 0) m sg 7 j = Z 0 7 j from slpE_g (by omega) (by omega)]; exact hz.2.2.2.2.1.2 j a b⟩)
theorem wG_rub {Z : YZ} {I : Int → YZ} {M : YS} {N m : Int} (hg : wG Z I M N) : wG (krub Z M m).2.1 I (krub Z M m).2.2 (N + 1) := by
  have hz := hg.1
  unfold krub
  split
  · rename_i h
    exact wG_Z (wG_N hg (by omega)) (zG_tell (eG_emp hz.1 h) (dG_emp hz.2.1 hz.1 h) (by unfold empD slpD; rw [yne (by omega) rfl, yne (by omega) rfl]; have := hz.2.2.1; omega) ⟨by rw [empE_6 h.1]; exact hz.2.2.2.2.1.1, fun j a b => by rw [show empE (Z 0) m 7 j = Z 0 7 j from slpE_g (by omega) (by omega)]; exact hz.2.2.2.2.1.2 j a b⟩)
  · exact wG_bump hg (by omega)
theorem c_bad {g : Launch × XG × va_G} {σ : YS} {v : Int} (h1 : 0 ≤ σ 0 11 ∧ σ 0 11 < 1000000) : YI g 35 [(2, 0), (0, v)] σ (fun b σ' => v = b ∧ yset σ 0 11 (σ 0 11 + 1) = σ') := by
  refine y_start rfl rfl rfl ?_
  refine y_aload rfl rfl rfl ?_
  refine y_dup rfl rfl ?_
  refine y_gfi (v := (σ 0 11)) rfl rfl (by decide) rfl (by decide) rfl rfl ?_
  refine y_push rfl ?_
  refine y_iadd (v := ((σ 0 11) + 1)) rfl rfl (by omega) ?_
  refine y_pfi (j := 11) rfl rfl (by decide) rfl rfl rfl rfl rfl ?_
  refine y_iload rfl rfl ?_
  refine y_iret rfl rfl ⟨_, rfl, ?_⟩
  exact ⟨rfl, rfl⟩
theorem c_refused_b {g : Launch × XG × va_G} {σ : YS} {v : Int} (h1 : 0 ≤ σ 0 11 ∧ σ 0 11 < 1000000) (hv : v ≠ -4) : YI g 8 [(2, 0), (0, v)] σ (fun b σ' => v = b ∧ yset σ 0 11 (σ 0 11 + 1) = σ') := by
  refine y_start rfl rfl rfl ?_
  refine y_iload rfl rfl ?_
  refine y_push rfl ?_
  refine y_icne rfl (fun q3 => ?_) (fun q3 => ?_)
  · skip
    refine y_aload rfl rfl rfl ?_
    refine y_dup rfl rfl ?_
    refine y_gfi (v := (σ 0 11)) rfl rfl (by decide) rfl (by decide) rfl rfl ?_
    refine y_push rfl ?_
    refine y_iadd (v := ((σ 0 11) + 1)) rfl rfl (by omega) ?_
    refine y_pfi (j := 11) rfl rfl (by decide) rfl rfl rfl rfl rfl ?_
    refine y_iload rfl rfl ?_
    refine y_iret rfl rfl ⟨_, rfl, ?_⟩
    exact ⟨rfl, rfl⟩
  · exfalso; omega
theorem c_refused_f {g : Launch × XG × va_G} {σ : YS} {v : Int} (h1 : 0 ≤ σ 0 13 ∧ σ 0 13 < 1000000) (hv : v = -4) : YI g 8 [(2, 0), (0, v)] σ (fun b σ' => v = b ∧ yset σ 0 13 (σ 0 13 + 1) = σ') := by
  refine y_start rfl rfl rfl ?_
  refine y_iload rfl rfl ?_
  refine y_push rfl ?_
  refine y_icne rfl (fun q3 => ?_) (fun q3 => ?_)
  · exfalso; omega
  · skip
    refine y_aload rfl rfl rfl ?_
    refine y_dup rfl rfl ?_
    refine y_gfi (v := (σ 0 13)) rfl rfl (by decide) rfl (by decide) rfl rfl ?_
    refine y_push rfl ?_
    refine y_iadd (v := ((σ 0 13) + 1)) rfl rfl (by omega) ?_
    refine y_pfi (j := 13) rfl rfl (by decide) rfl rfl rfl rfl rfl ?_
    refine y_goto rfl ?_
    refine y_iload rfl rfl ?_
    refine y_iret rfl rfl ⟨_, rfl, ?_⟩
    exact ⟨rfl, rfl⟩
theorem c_told_ok {g : Launch × XG × va_G} {σ : YS} {v : Int} (hv : 0 ≤ v) : YI g 16 [(2, 0), (0, v)] σ (fun b σ' => v = b ∧ yset σ 15 1 0 = σ') := by
  refine y_start rfl rfl rfl ?_
  refine y_iload rfl rfl ?_
  refine y_ifge rfl (fun q1 => ?_) (fun q1 => ?_)
  · skip
    refine y_aload rfl rfl rfl ?_
    refine y_gfr (t := 15) rfl rfl (by decide) rfl (by decide) ?_
    refine y_push rfl ?_
    refine y_pfi (j := 1) rfl (yP_c yP_15) (by have := yP_0 yP_15; omega) rfl rfl rfl rfl rfl ?_
    refine y_iload rfl rfl ?_
    refine y_iret rfl rfl ⟨_, rfl, ?_⟩
    exact ⟨rfl, rfl⟩
  · exfalso; omega
theorem c_told_b {g : Launch × XG × va_G} {σ : YS} {v : Int} (h1 : 0 ≤ σ 0 11 ∧ σ 0 11 < 1000000) (hv : v ≠ -4) (hw : v < 0) : YI g 16 [(2, 0), (0, v)] σ (fun b σ' => v = b ∧ yset σ 0 11 (σ 0 11 + 1) = σ') := by
  refine y_start rfl rfl rfl ?_
  refine y_iload rfl rfl ?_
  refine y_ifge rfl (fun q1 => ?_) (fun q1 => ?_)
  · exfalso; omega
  · skip
    refine y_aload rfl rfl rfl ?_
    refine y_iload rfl rfl ?_
    refine y_vi (as := [(2, 0), (0, v)]) (S := []) rfl rfl rfl rfl rfl rfl (by decide) rfl (c_refused_b h1 hv) ?_
    rintro _ _ ⟨rfl, rfl⟩
    refine y_iret rfl rfl ⟨_, rfl, ?_⟩
    exact ⟨rfl, rfl⟩
theorem c_told_f {g : Launch × XG × va_G} {σ : YS} {v : Int} (h1 : 0 ≤ σ 0 13 ∧ σ 0 13 < 1000000) (hv : v = -4) : YI g 16 [(2, 0), (0, v)] σ (fun b σ' => v = b ∧ yset σ 0 13 (σ 0 13 + 1) = σ') := by
  refine y_start rfl rfl rfl ?_
  refine y_iload rfl rfl ?_
  refine y_ifge rfl (fun q1 => ?_) (fun q1 => ?_)
  · exfalso; omega
  · skip
    refine y_aload rfl rfl rfl ?_
    refine y_iload rfl rfl ?_
    refine y_vi (as := [(2, 0), (0, v)]) (S := []) rfl rfl rfl rfl rfl rfl (by decide) rfl (c_refused_f h1 hv) ?_
    rintro _ _ ⟨rfl, rfl⟩
    refine y_iret rfl rfl ⟨_, rfl, ?_⟩
    exact ⟨rfl, rfl⟩
theorem c_street {g : Launch × XG × va_G} {σ : YS} {Z : YZ} {I : Int → YZ} {M : YS} {N : Int} {n : Int} (hx : xW σ Z I M) (hg : wG Z I M N) (hN : N < 100000) : YI g 6 [(2, 0), (0, n)] σ (fun b σ' => b = (kstreet Z M n).1 ∧ xW σ' (kstreet Z M n).2.1 I (kstreet Z M n).2.2 ∧ mfr σ σ') := by
  refine y_start rfl rfl rfl ?_
  have ⟨⟨hr, hu⟩, x2, x3, ⟨x4, x5⟩, x6⟩ := hx
  have ⟨⟨he, hd, hn, hu2, h67, hk⟩, g2, g3, g4⟩ := hg
  have ⟨⟨f1, f2, f3, f4⟩, f5, f6, g7, g8⟩ := hr
  have ⟨e1, e2, e3⟩ := he
  have ⟨u1, u2, u3⟩ := hu
  have x60 : σ 0 11 = M 3 0 := x6 0 (by omega) (by omega)
  have x61 : σ 0 12 = M 3 1 := x6 1 (by omega) (by omega)
  have x62 : σ 0 13 = M 3 2 := x6 2 (by omega) (by omega)
  have g40 := g4 0 (by omega) (by omega)
  have g41 := g4 1 (by omega) (by omega)
  have g42 := g4 2 (by omega) (by omega)
  have f5 : ∀ c, 0 ≤ c → c < 9 → σ 2 c = Z 1 0 c := f5
  have f6 : ∀ i, 0 ≤ i → i < Z 0 1 0 → repm σ (4 + 3 * i) (Z 0) (Z 1) i := f6
  refine y_aload rfl rfl rfl ?_
  refine y_gfr (t := 1) rfl rfl (by decide) rfl (by decide) ?_
  refine y_gfi (v := (σ 1 4)) rfl (yS_c yS_1) (yS_0 yS_1).1 rfl (by decide) rfl rfl ?_
  refine y_istore (L' := [some (2, 0), some (0, n), some (0, (σ 1 4)), none]) rfl rfl rfl rfl ?_
  refine y_aload rfl rfl rfl ?_
  refine y_gfr (t := 1) rfl rfl (by decide) rfl (by decide) ?_
  refine y_iload rfl rfl ?_
  refine y_vi (as := [(2, 1), (0, n)]) (S := []) rfl rfl rfl rfl rfl rfl (yS_0 yS_1).1 (yS_c yS_1) (c_begin (E := Z 0) (D := Z 1) yS_1 h67.1 f4) ?_
  rintro b_ σ' (⟨hv, rfl, z1, z2⟩ | ⟨hv, rfl, rfl⟩)
  · skip
    refine y_istore (L' := [some (2, 0), some (0, n), some (0, (σ 1 4)), some (0, n)]) rfl rfl rfl rfl ?_
    refine y_iload rfl rfl ?_
    refine y_ifge rfl (fun q18 => ?_) (fun q18 => ?_)
    · skip
      refine y_aload rfl rfl rfl ?_
      refine y_gfr (t := 15) rfl rfl (by decide) rfl (by decide) ?_
      refine y_push rfl ?_
      refine y_pfi (j := 1) rfl (yP_c yP_15) (by have := yP_0 yP_15; omega) rfl rfl rfl rfl rfl ?_
      refine y_iload rfl rfl ?_
      refine y_iret rfl rfl ⟨_, rfl, ?_⟩
      have hK : kstreet Z M n = (Z 0 0 0, ztell Z (begE (Z 0) n) (begD (Z 1)), M) := if_pos hv
      have w := wG_street (n := n) hg
      rw [hK] at w ⊢
      exact ⟨f1, xW_tell hg hx z1 w.1.1.2.1.2 w.1.2.2.1.1 (yfr_w z2 (by omega)), mfr_s (mfr_y z2 (by omega)) (by omega)⟩
    · exfalso; omega
  · skip
    refine y_istore (L' := [some (2, 0), some (0, n), some (0, (σ 1 4)), some (0, (-2))]) rfl rfl rfl rfl ?_
    refine y_iload rfl rfl ?_
    refine y_ifge rfl (fun q18 => ?_) (fun q18 => ?_)
    · exfalso; omega
    · skip
      refine y_aload rfl rfl rfl ?_
      refine y_iload rfl rfl ?_
      refine y_vi (as := [(2, 0), (0, (-2))]) (S := []) rfl rfl rfl rfl rfl rfl (by decide) rfl (c_refused_b (by omega) (by omega)) ?_
      rintro _ _ ⟨rfl, rfl⟩
      refine y_iret rfl rfl ⟨_, rfl, ?_⟩
      have hK : kstreet Z M n = (_, Z, bump M 0) := if_neg hv
      rw [hK]
      exact ⟨rfl, xW_bump hg hx (by omega) rfl rfl, mfr_s (mfr_0 _) (by omega)⟩
theorem c_water {g : Launch × XG × va_G} {σ : YS} {Z : YZ} {I : Int → YZ} {M : YS} {N : Int} {c v : Int} (hx : xW σ Z I M) (hg : wG Z I M N) (hN : N < 100000) : YI g 13 [(2, 0), (0, c), (0, v)] σ (fun b σ' => b = (kwater Z M c v).1 ∧ xW σ' (kwater Z M c v).2.1 I (kwater Z M c v).2.2 ∧ mfr σ σ') := by
  refine y_start rfl rfl rfl ?_
  have ⟨⟨hr, hu⟩, x2, x3, ⟨x4, x5⟩, x6⟩ := hx
  have ⟨⟨he, hd, hn, hu2, h67, hk⟩, g2, g3, g4⟩ := hg
  have ⟨⟨f1, f2, f3, f4⟩, f5, f6, g7, g8⟩ := hr
  have ⟨e1, e2, e3⟩ := he
  have ⟨u1, u2, u3⟩ := hu
  have x60 : σ 0 11 = M 3 0 := x6 0 (by omega) (by omega)
  have x61 : σ 0 12 = M 3 1 := x6 1 (by omega) (by omega)
  have x62 : σ 0 13 = M 3 2 := x6 2 (by omega) (by omega)
  have g40 := g4 0 (by omega) (by omega)
  have g41 := g4 1 (by omega) (by omega)
  have g42 := g4 2 (by omega) (by omega)
  have f5 : ∀ c, 0 ≤ c → c < 9 → σ 2 c = Z 1 0 c := f5
  have f6 : ∀ i, 0 ≤ i → i < Z 0 1 0 → repm σ (4 + 3 * i) (Z 0) (Z 1) i := f6
  refine y_aload rfl rfl rfl ?_
  refine y_aload rfl rfl rfl ?_
  refine y_gfr (t := 1) rfl rfl (by decide) rfl (by decide) ?_
  refine y_iload rfl rfl ?_
  refine y_iload rfl rfl ?_
  refine y_vi (as := [(2, 1), (0, c), (0, v)]) (S := [(2, 0)]) rfl rfl rfl rfl rfl rfl (yS_0 yS_1).1 (yS_c yS_1) (c_pour (E := Z 0) (D := Z 1) yS_1 hr he hd) ?_
  rintro b_ σ' (⟨hv, hv2, rfl, z1, z2⟩ | ⟨hv, rfl, rfl⟩)
  · skip
    have hd0 := hd.1 c (by omega) (by omega)
    refine y_vi (as := [(2, 0), (0, (Z 1 0 c))]) (S := []) rfl rfl rfl rfl rfl rfl (by decide) rfl (c_told_ok (by omega)) ?_
    rintro _ _ ⟨rfl, rfl⟩
    refine y_iret rfl rfl ⟨_, rfl, ?_⟩
    have hK : kwater Z M c v = (Z 1 0 c, ztell Z (Z 0) (yset (Z 1) 0 c v), M) := if_pos ⟨hv, hv2⟩
    have w := wG_water (c := c) (v := v) hg
    rw [hK] at w ⊢
    exact ⟨rfl, xW_tell hg hx z1 w.1.1.2.1.2 w.1.2.2.1.1 (yfr_w z2 (by omega)), mfr_s (mfr_y z2 (by omega)) (by omega)⟩
  · skip
    refine y_vi (as := [(2, 0), (0, (-2))]) (S := []) rfl rfl rfl rfl rfl rfl (by decide) rfl (c_told_b (by omega) (by omega) (by omega)) ?_
    rintro _ _ ⟨rfl, rfl⟩
    refine y_iret rfl rfl ⟨_, rfl, ?_⟩
    have hK : kwater Z M c v = (_, Z, bump M 0) := if_neg hv
    rw [hK]
    exact ⟨rfl, xW_bump hg hx (by omega) rfl rfl, mfr_s (mfr_0 _) (by omega)⟩
theorem c_man {g : Launch × XG × va_G} {σ : YS} {Z : YZ} {I : Int → YZ} {M : YS} {N : Int} {k c : Int} (hx : xW σ Z I M) (hg : wG Z I M N) (hN : N < 100000) : YI g 20 [(2, 0), (0, k), (0, c)] σ (fun b σ' => b = (kman Z M k c).1 ∧ xW σ' (kman Z M k c).2.1 I (kman Z M k c).2.2 ∧ mfr σ σ') := by
  refine y_start rfl rfl rfl ?_
  have ⟨⟨hr, hu⟩, x2, x3, ⟨x4, x5⟩, x6⟩ := hx
  have ⟨⟨he, hd, hn, hu2, h67, hk⟩, g2, g3, g4⟩ := hg
  have ⟨⟨f1, f2, f3, f4⟩, f5, f6, g7, g8⟩ := hr
  have ⟨e1, e2, e3⟩ := he
  have ⟨u1, u2, u3⟩ := hu
  have x60 : σ 0 11 = M 3 0 := x6 0 (by omega) (by omega)
  have x61 : σ 0 12 = M 3 1 := x6 1 (by omega) (by omega)
  have x62 : σ 0 13 = M 3 2 := x6 2 (by omega) (by omega)
  have g40 := g4 0 (by omega) (by omega)
  have g41 := g4 1 (by omega) (by omega)
  have g42 := g4 2 (by omega) (by omega)
  have f5 : ∀ c, 0 ≤ c → c < 9 → σ 2 c = Z 1 0 c := f5
  have f6 : ∀ i, 0 ≤ i → i < Z 0 1 0 → repm σ (4 + 3 * i) (Z 0) (Z 1) i := f6
  refine y_aload rfl rfl rfl ?_
  refine y_aload rfl rfl rfl ?_
  refine y_gfr (t := 1) rfl rfl (by decide) rfl (by decide) ?_
  refine y_iload rfl rfl ?_
  refine y_iload rfl rfl ?_
  refine y_vi (as := [(2, 1), (0, k), (0, c)]) (S := [(2, 0)]) rfl rfl rfl rfl rfl rfl (yS_0 yS_1).1 (yS_c yS_1) (c_enter (E := Z 0) (D := Z 1) yS_1 hr he hd) ?_
  rintro b_ σ' (⟨hv, hv2, hv3, rfl, z1, z2⟩ | ⟨hv, rfl, rfl⟩ | ⟨hv, hv2, rfl, rfl⟩)
  · skip
    refine y_vi (as := [(2, 0), (0, (Z 0 1 0))]) (S := []) rfl rfl rfl rfl rfl rfl (by decide) rfl (c_told_ok (by omega)) ?_
    rintro _ _ ⟨rfl, rfl⟩
    refine y_iret rfl rfl ⟨_, rfl, ?_⟩
    have hK : kman Z M k c = (Z 0 1 0, ztell Z (entE (Z 0) k) (entD (Z 0) (Z 1) c), M) := (if_neg (fun z => z ⟨hv, hv2⟩)).trans (if_neg (by omega))
    have w := wG_man (k := k) (c := c) hg
    rw [hK] at w ⊢
    exact ⟨rfl, xW_tell hg hx z1 w.1.1.2.1.2 w.1.2.2.1.1 (yfr_w z2 (by omega)), mfr_s (mfr_y z2 (by omega)) (by omega)⟩
  · skip
    refine y_vi (as := [(2, 0), (0, (-2))]) (S := []) rfl rfl rfl rfl rfl rfl (by decide) rfl (c_told_b (by omega) (by omega) (by omega)) ?_
    rintro _ _ ⟨rfl, rfl⟩
    refine y_iret rfl rfl ⟨_, rfl, ?_⟩
    have hK : kman Z M k c = (_, Z, bump M 0) := if_pos hv
    rw [hK]
    exact ⟨rfl, xW_bump hg hx (by omega) rfl rfl, mfr_s (mfr_0 _) (by omega)⟩
  · skip
    refine y_vi (as := [(2, 0), (0, (-4))]) (S := []) rfl rfl rfl rfl rfl rfl (by decide) rfl (c_told_f (by omega) rfl) ?_
    rintro _ _ ⟨rfl, rfl⟩
    refine y_iret rfl rfl ⟨_, rfl, ?_⟩
    have hK : kman Z M k c = (_, Z, bump M 2) := (if_neg (fun z => z hv)).trans (if_pos hv2)
    rw [hK]
    exact ⟨rfl, xW_bump hg hx (by omega) rfl rfl, mfr_s (mfr_0 _) (by omega)⟩
theorem c_write {g : Launch × XG × va_G} {σ : YS} {Z : YZ} {I : Int → YZ} {M : YS} {N : Int} {m sg : Int} (hx : xW σ Z I M) (hg : wG Z I M N) (hN : N < 100000) : YI g 24 [(2, 0), (0, m), (0, sg)] σ (fun b σ' => b = (kwrite Z M m sg).1 ∧ xW σ' (kwrite Z M m sg).2.1 I (kwrite Z M m sg).2.2 ∧ mfr σ σ') := by
  refine y_start rfl rfl rfl ?_
  have ⟨⟨hr, hu⟩, x2, x3, ⟨x4, x5⟩, x6⟩ := hx
  have ⟨⟨he, hd, hn, hu2, h67, hk⟩, g2, g3, g4⟩ := hg
  have ⟨⟨f1, f2, f3, f4⟩, f5, f6, g7, g8⟩ := hr
  have ⟨e1, e2, e3⟩ := he
  have ⟨u1, u2, u3⟩ := hu
  have x60 : σ 0 11 = M 3 0 := x6 0 (by omega) (by omega)
  have x61 : σ 0 12 = M 3 1 := x6 1 (by omega) (by omega)
  have x62 : σ 0 13 = M 3 2 := x6 2 (by omega) (by omega)
  have g40 := g4 0 (by omega) (by omega)
  have g41 := g4 1 (by omega) (by omega)
  have g42 := g4 2 (by omega) (by omega)
  have f5 : ∀ c, 0 ≤ c → c < 9 → σ 2 c = Z 1 0 c := f5
  have f6 : ∀ i, 0 ≤ i → i < Z 0 1 0 → repm σ (4 + 3 * i) (Z 0) (Z 1) i := f6
  refine y_aload rfl rfl rfl ?_
  refine y_aload rfl rfl rfl ?_
  refine y_gfr (t := 1) rfl rfl (by decide) rfl (by decide) ?_
  refine y_iload rfl rfl ?_
  refine y_iload rfl rfl ?_
  refine y_vi (as := [(2, 1), (0, m), (0, sg)]) (S := [(2, 0)]) rfl rfl rfl rfl rfl rfl (yS_0 yS_1).1 (yS_c yS_1) (c_append (E := Z 0) (D := Z 1) yS_1 hr he hd) ?_
  rintro b_ σ' (⟨hv, hv2, hv3, rfl, z1, z2⟩ | ⟨hv, rfl, rfl⟩ | ⟨hv, hv2, rfl, rfl⟩)
  · skip
    have hd0 := (e3 m (by omega) (by omega)).2.1
    refine y_vi (as := [(2, 0), (0, (Z 0 3 m + 1))]) (S := []) rfl rfl rfl rfl rfl rfl (by decide) rfl (c_told_ok (by omega)) ?_
    rintro _ _ ⟨rfl, rfl⟩
    refine y_iret rfl rfl ⟨_, rfl, ?_⟩
    have hK : kwrite Z M m sg = (Z 0 3 m + 1, ztell Z (appE (Z 0) m sg) (appD (Z 0) (Z 1) m sg), M) := (if_neg (fun z => z ⟨hv, hv2⟩)).trans (if_neg (by omega))
    have w := wG_write (m := m) (sg := sg) hg
    rw [hK] at w ⊢
    exact ⟨rfl, xW_tell hg hx z1 w.1.1.2.1.2 w.1.2.2.1.1 (yfr_w z2 (by omega)), mfr_s (mfr_y z2 (by omega)) (by omega)⟩
  · skip
    refine y_vi (as := [(2, 0), (0, (-2))]) (S := []) rfl rfl rfl rfl rfl rfl (by decide) rfl (c_told_b (by omega) (by omega) (by omega)) ?_
    rintro _ _ ⟨rfl, rfl⟩
    refine y_iret rfl rfl ⟨_, rfl, ?_⟩
    have hK : kwrite Z M m sg = (_, Z, bump M 0) := if_pos hv
    rw [hK]
    exact ⟨rfl, xW_bump hg hx (by omega) rfl rfl, mfr_s (mfr_0 _) (by omega)⟩
  · skip
    refine y_vi (as := [(2, 0), (0, (-4))]) (S := []) rfl rfl rfl rfl rfl rfl (by decide) rfl (c_told_f (by omega) rfl) ?_
    rintro _ _ ⟨rfl, rfl⟩
    refine y_iret rfl rfl ⟨_, rfl, ?_⟩
    have hK : kwrite Z M m sg = (_, Z, bump M 2) := (if_neg (fun z => z hv)).trans (if_pos hv2)
    rw [hK]
    exact ⟨rfl, xW_bump hg hx (by omega) rfl rfl, mfr_s (mfr_0 _) (by omega)⟩
theorem c_rub {g : Launch × XG × va_G} {σ : YS} {Z : YZ} {I : Int → YZ} {M : YS} {N : Int} {m : Int} (hx : xW σ Z I M) (hg : wG Z I M N) (hN : N < 100000) : YI g 30 [(2, 0), (0, m)] σ (fun b σ' => b = (krub Z M m).1 ∧ xW σ' (krub Z M m).2.1 I (krub Z M m).2.2 ∧ mfr σ σ') := by
  refine y_start rfl rfl rfl ?_
  have ⟨⟨hr, hu⟩, x2, x3, ⟨x4, x5⟩, x6⟩ := hx
  have ⟨⟨he, hd, hn, hu2, h67, hk⟩, g2, g3, g4⟩ := hg
  have ⟨⟨f1, f2, f3, f4⟩, f5, f6, g7, g8⟩ := hr
  have ⟨e1, e2, e3⟩ := he
  have ⟨u1, u2, u3⟩ := hu
  have x60 : σ 0 11 = M 3 0 := x6 0 (by omega) (by omega)
  have x61 : σ 0 12 = M 3 1 := x6 1 (by omega) (by omega)
  have x62 : σ 0 13 = M 3 2 := x6 2 (by omega) (by omega)
  have g40 := g4 0 (by omega) (by omega)
  have g41 := g4 1 (by omega) (by omega)
  have g42 := g4 2 (by omega) (by omega)
  have f5 : ∀ c, 0 ≤ c → c < 9 → σ 2 c = Z 1 0 c := f5
  have f6 : ∀ i, 0 ≤ i → i < Z 0 1 0 → repm σ (4 + 3 * i) (Z 0) (Z 1) i := f6
  refine y_aload rfl rfl rfl ?_
  refine y_aload rfl rfl rfl ?_
  refine y_gfr (t := 1) rfl rfl (by decide) rfl (by decide) ?_
  refine y_iload rfl rfl ?_
  refine y_vi (as := [(2, 1), (0, m)]) (S := [(2, 0)]) rfl rfl rfl rfl rfl rfl (yS_0 yS_1).1 (yS_c yS_1) (c_empty (E := Z 0) (D := Z 1) yS_1 hr he hd) ?_
  rintro b_ σ' (⟨hv, rfl, z1, z2⟩ | ⟨hv, rfl, rfl⟩)
  · skip
    have hd0 := (e3 m (by omega) (by omega)).2.1
    refine y_vi (as := [(2, 0), (0, (Z 0 3 m))]) (S := []) rfl rfl rfl rfl rfl rfl (by decide) rfl (c_told_ok (by omega)) ?_
    rintro _ _ ⟨rfl, rfl⟩
    refine y_iret rfl rfl ⟨_, rfl, ?_⟩
    have hK : krub Z M m = (Z 0 3 m, ztell Z (empE (Z 0) m) (empD (Z 1) m), M) := if_pos hv
    have w := wG_rub (m := m) hg
    rw [hK] at w ⊢
    exact ⟨rfl, xW_tell hg hx z1 w.1.1.2.1.2 w.1.2.2.1.1 (yfr_w z2 (by omega)), mfr_s (mfr_y z2 (by omega)) (by omega)⟩
  · skip
    refine y_vi (as := [(2, 0), (0, (-2))]) (S := []) rfl rfl rfl rfl rfl rfl (by decide) rfl (c_told_b (by omega) (by omega) (by omega)) ?_
    rintro _ _ ⟨rfl, rfl⟩
    refine y_iret rfl rfl ⟨_, rfl, ?_⟩
    have hK : krub Z M m = (_, Z, bump M 0) := if_neg hv
    rw [hK]
    exact ⟨rfl, xW_bump hg hx (by omega) rfl rfl, mfr_s (mfr_0 _) (by omega)⟩
theorem c_fault {g : Launch × XG × va_G} {σ : YS} {Z : YZ} {I : Int → YZ} {M : YS} {N : Int} {m : Int} (hx : xW σ Z I M) (hg : wG Z I M N) (hN : N < 100000) : YI g 34 [(2, 0), (0, m)] σ (fun b σ' => b = (kfault Z M m).1 ∧ xW σ' (kfault Z M m).2.1 I (kfault Z M m).2.2 ∧ mfr σ σ') := by
  refine y_start rfl rfl rfl ?_
  have ⟨⟨hr, hu⟩, x2, x3, ⟨x4, x5⟩, x6⟩ := hx
  have ⟨⟨he, hd, hn, hu2, h67, hk⟩, g2, g3, g4⟩ := hg
  have ⟨⟨f1, f2, f3, f4⟩, f5, f6, g7, g8⟩ := hr
  have ⟨e1, e2, e3⟩ := he
  have ⟨u1, u2, u3⟩ := hu
  have x60 : σ 0 11 = M 3 0 := x6 0 (by omega) (by omega)
  have x61 : σ 0 12 = M 3 1 := x6 1 (by omega) (by omega)
  have x62 : σ 0 13 = M 3 2 := x6 2 (by omega) (by omega)
  have g40 := g4 0 (by omega) (by omega)
  have g41 := g4 1 (by omega) (by omega)
  have g42 := g4 2 (by omega) (by omega)
  have f5 : ∀ c, 0 ≤ c → c < 9 → σ 2 c = Z 1 0 c := f5
  have f6 : ∀ i, 0 ≤ i → i < Z 0 1 0 → repm σ (4 + 3 * i) (Z 0) (Z 1) i := f6
  refine y_aload rfl rfl rfl ?_
  refine y_gfr (t := 1) rfl rfl (by decide) rfl (by decide) ?_
  refine y_iload rfl rfl ?_
  refine y_vi (as := [(2, 1), (0, m)]) (S := []) rfl rfl rfl rfl rfl rfl (yS_0 yS_1).1 (yS_c yS_1) (c_hasMan yS_1) ?_
  rintro _ _ ⟨rfl, rfl⟩
  refine y_ifne rfl (fun q8 => ?_) (fun q8 => ?_)
  · skip
    replace q8 := yb_1.mp q8
    refine y_aload rfl rfl rfl ?_
    refine y_gfr (t := 1) rfl rfl (by decide) rfl (by decide) ?_
    refine y_gfr (t := 3) rfl (yS_c yS_1) (yS_0 yS_1).1 rfl (by decide) ?_
    refine y_iload rfl rfl ?_
    refine y_aald (v := (4 + 3 * m)) (n := 3) rfl (yS_m yS_1) (by have := yS_0 yS_1; omega) rfl (by omega) rfl ?_
    refine y_gfi (v := (σ (4 + 3 * m) 3)) rfl (yN_c (yS_n (s := 1) (i := m) yS_1 (by omega))) (by have := yN_0 (yS_n (s := 1) (i := m) yS_1 (by omega)); omega) rfl (by decide) rfl rfl ?_
    refine y_iret rfl rfl ⟨_, rfl, ?_⟩
    have hK : kfault Z M m = (mfl (Z 0) m, Z, M) := if_pos (by omega)
    rw [hK]
    exact ⟨(f6 m (by omega) (by omega)).1.2.2.1, hx, mfr_0 _⟩
  · skip
    replace q8 := yb_0.mp q8
    refine y_aload rfl rfl rfl ?_
    refine y_push rfl ?_
    refine y_vi (as := [(2, 0), (0, (-10))]) (S := []) rfl rfl rfl rfl rfl rfl (by decide) rfl (c_bad (by omega)) ?_
    rintro _ _ ⟨rfl, rfl⟩
    refine y_iret rfl rfl ⟨_, rfl, ?_⟩
    have hK : kfault Z M m = (_, Z, bump M 0) := if_neg (by omega)
    rw [hK]
    exact ⟨rfl, xW_bump hg hx (by omega) rfl rfl, mfr_s (mfr_0 _) (by omega)⟩
theorem c_of {g : Launch × XG × va_G} {σ : YS} {Z : YZ} {I : Int → YZ} {M : YS} {N : Int} {m q : Int} (hx : xW σ Z I M) (hg : wG Z I M N) (hN : N < 100000) : YI g 62 [(2, 0), (0, m), (0, q)] σ (fun b σ' => b = (kof Z M m q).1 ∧ xW σ' (kof Z M m q).2.1 I (kof Z M m q).2.2 ∧ mfr σ σ') := by
  refine y_start rfl rfl rfl ?_
  have ⟨⟨hr, hu⟩, x2, x3, ⟨x4, x5⟩, x6⟩ := hx
  have ⟨⟨he, hd, hn, hu2, h67, hk⟩, g2, g3, g4⟩ := hg
  have ⟨⟨f1, f2, f3, f4⟩, f5, f6, g7, g8⟩ := hr
  have ⟨e1, e2, e3⟩ := he
  have ⟨u1, u2, u3⟩ := hu
  have x60 : σ 0 11 = M 3 0 := x6 0 (by omega) (by omega)
  have x61 : σ 0 12 = M 3 1 := x6 1 (by omega) (by omega)
  have x62 : σ 0 13 = M 3 2 := x6 2 (by omega) (by omega)
  have g40 := g4 0 (by omega) (by omega)
  have g41 := g4 1 (by omega) (by omega)
  have g42 := g4 2 (by omega) (by omega)
  have f5 : ∀ c, 0 ≤ c → c < 9 → σ 2 c = Z 1 0 c := f5
  have f6 : ∀ i, 0 ≤ i → i < Z 0 1 0 → repm σ (4 + 3 * i) (Z 0) (Z 1) i := f6
  refine y_aload rfl rfl rfl ?_
  refine y_gfr (t := 1) rfl rfl (by decide) rfl (by decide) ?_
  refine y_iload rfl rfl ?_
  refine y_vi (as := [(2, 1), (0, m)]) (S := []) rfl rfl rfl rfl rfl rfl (yS_0 yS_1).1 (yS_c yS_1) (c_hasMan yS_1) ?_
  rintro _ _ ⟨rfl, rfl⟩
  refine y_ifeq rfl (fun q8 => ?_) (fun q8 => ?_)
  · skip
    replace q8 := yb_0.mp q8
    refine y_aload rfl rfl rfl ?_
    refine y_push rfl ?_
    refine y_vi (as := [(2, 0), (0, (-2))]) (S := []) rfl rfl rfl rfl rfl rfl (by decide) rfl (c_bad (by omega)) ?_
    rintro _ _ ⟨rfl, rfl⟩
    refine y_iret rfl rfl ⟨_, rfl, ?_⟩
    have hK : kof Z M m q = (_, Z, bump M 0) := if_neg (by omega)
    rw [hK]
    exact ⟨rfl, xW_bump hg hx (by omega) rfl rfl, mfr_s (mfr_0 _) (by omega)⟩
  · skip
    replace q8 := yb_1.mp q8
    refine y_iload rfl rfl ?_
    refine y_iflt rfl (fun q12 => ?_) (fun q12 => ?_)
    · skip
      refine y_aload rfl rfl rfl ?_
      refine y_push rfl ?_
      refine y_vi (as := [(2, 0), (0, (-2))]) (S := []) rfl rfl rfl rfl rfl rfl (by decide) rfl (c_bad (by omega)) ?_
      rintro _ _ ⟨rfl, rfl⟩
      refine y_iret rfl rfl ⟨_, rfl, ?_⟩
      have hK : kof Z M m q = (_, Z, bump M 0) := if_neg (by omega)
      rw [hK]
      exact ⟨rfl, xW_bump hg hx (by omega) rfl rfl, mfr_s (mfr_0 _) (by omega)⟩
    · skip
      refine y_iload rfl rfl ?_
      refine y_push rfl ?_
      refine y_icle rfl (fun q17 => ?_) (fun q17 => ?_)
      · skip
        refine y_aload rfl rfl rfl ?_
        refine y_gfr (t := 1) rfl rfl (by decide) rfl (by decide) ?_
        refine y_gfr (t := 3) rfl (yS_c yS_1) (yS_0 yS_1).1 rfl (by decide) ?_
        refine y_iload rfl rfl ?_
        refine y_aald (v := (4 + 3 * m)) (n := 3) rfl (yS_m yS_1) (by have := yS_0 yS_1; omega) rfl (by omega) rfl ?_
        refine y_astore (L' := [some (2, 0), some (0, m), some (0, q), some (2, (4 + 3 * m))]) rfl rfl rfl rfl rfl ?_
        refine y_iload rfl rfl ?_
        refine y_tsw3 rfl rfl (by decide) rfl rfl rfl rfl (fun q38 => ?_) (fun q38 => ?_) (fun q38 => ?_) (fun q38 => ?_)
        · skip
          refine y_aload rfl rfl rfl ?_
          refine y_vi (as := [(2, (4 + 3 * m))]) (S := []) rfl rfl rfl rfl rfl rfl (by have := yN_0 (yS_n (s := 1) (i := m) yS_1 (by omega)); omega) (yN_c (yS_n (s := 1) (i := m) yS_1 (by omega))) (c_hasStopped (yS_n (s := 1) (i := m) yS_1 (by omega))) ?_
          rintro _ _ ⟨rfl, rfl⟩
          refine y_ifeq rfl (fun q83 => ?_) (fun q83 => ?_)
          · skip
            replace q83 := yb_0.mp q83
            refine y_push rfl ?_
            refine y_iret rfl rfl ⟨_, rfl, ?_⟩
            have hq := f6 m (by omega) (by omega)
            have hd4 := (hd.2 m (by omega) (by omega)).2.2.2
            have hw : q = 3 := by omega
            subst hw
            have hK : kof Z M m 3 = (Z 1 4 m, Z, M) := if_pos (by omega)
            rw [hK]
            exact ⟨by have := hq.2.2.2.1; omega, hx, mfr_0 _⟩
          · skip
            replace q83 := yb_1.mp q83
            refine y_push rfl ?_
            refine y_goto rfl ?_
            refine y_iret rfl rfl ⟨_, rfl, ?_⟩
            have hq := f6 m (by omega) (by omega)
            have hd4 := (hd.2 m (by omega) (by omega)).2.2.2
            have hw : q = 3 := by omega
            subst hw
            have hK : kof Z M m 3 = (Z 1 4 m, Z, M) := if_pos (by omega)
            rw [hK]
            exact ⟨by have := hq.2.2.2.1; omega, hx, mfr_0 _⟩
        · skip
          refine y_aload rfl rfl rfl ?_
          refine y_gfi (v := (σ (4 + 3 * m) 5)) rfl (yN_c (yS_n (s := 1) (i := m) yS_1 (by omega))) (by have := yN_0 (yS_n (s := 1) (i := m) yS_1 (by omega)); omega) rfl (by decide) rfl rfl ?_
          refine y_iret rfl rfl ⟨_, rfl, ?_⟩
          have hq := f6 m (by omega) (by omega)
          have hd4 := (hd.2 m (by omega) (by omega)).2.2.2
          have hw : q = 0 := by omega
          subst hw
          have hK : kof Z M m 0 = (Z 1 1 m, Z, M) := if_pos (by omega)
          rw [hK]
          exact ⟨hq.2.2.1.1, hx, mfr_0 _⟩
        · skip
          refine y_aload rfl rfl rfl ?_
          refine y_gfi (v := (σ (4 + 3 * m) 6)) rfl (yN_c (yS_n (s := 1) (i := m) yS_1 (by omega))) (by have := yN_0 (yS_n (s := 1) (i := m) yS_1 (by omega)); omega) rfl (by decide) rfl rfl ?_
          refine y_iret rfl rfl ⟨_, rfl, ?_⟩
          have hq := f6 m (by omega) (by omega)
          have hd4 := (hd.2 m (by omega) (by omega)).2.2.2
          have hw : q = 1 := by omega
          subst hw
          have hK : kof Z M m 1 = (Z 1 2 m, Z, M) := if_pos (by omega)
          rw [hK]
          exact ⟨hq.2.2.1.2.1, hx, mfr_0 _⟩
        · skip
          refine y_aload rfl rfl rfl ?_
          refine y_gfi (v := (σ (4 + 3 * m) 7)) rfl (yN_c (yS_n (s := 1) (i := m) yS_1 (by omega))) (by have := yN_0 (yS_n (s := 1) (i := m) yS_1 (by omega)); omega) rfl (by decide) rfl rfl ?_
          refine y_iret rfl rfl ⟨_, rfl, ?_⟩
          have hq := f6 m (by omega) (by omega)
          have hd4 := (hd.2 m (by omega) (by omega)).2.2.2
          have hw : q = 2 := by omega
          subst hw
          have hK : kof Z M m 2 = (Z 1 3 m, Z, M) := if_pos (by omega)
          rw [hK]
          exact ⟨hq.2.2.1.2.2, hx, mfr_0 _⟩
      · skip
        refine y_aload rfl rfl rfl ?_
        refine y_push rfl ?_
        refine y_vi (as := [(2, 0), (0, (-2))]) (S := []) rfl rfl rfl rfl rfl rfl (by decide) rfl (c_bad (by omega)) ?_
        rintro _ _ ⟨rfl, rfl⟩
        refine y_iret rfl rfl ⟨_, rfl, ?_⟩
        have hK : kof Z M m q = (_, Z, bump M 0) := if_neg (by omega)
        rw [hK]
        exact ⟨rfl, xW_bump hg hx (by omega) rfl rfl, mfr_s (mfr_0 _) (by omega)⟩
theorem c_in {g : Launch × XG × va_G} {σ : YS} {Z : YZ} {I : Int → YZ} {M : YS} {N : Int} {c : Int} (hx : xW σ Z I M) (hg : wG Z I M N) (hN : N < 100000) : YI g 64 [(2, 0), (0, c)] σ (fun b σ' => b = (kin Z M c).1 ∧ xW σ' (kin Z M c).2.1 I (kin Z M c).2.2 ∧ mfr σ σ') := by
  refine y_start rfl rfl rfl ?_
  have ⟨⟨hr, hu⟩, x2, x3, ⟨x4, x5⟩, x6⟩ := hx
  have ⟨⟨he, hd, hn, hu2, h67, hk⟩, g2, g3, g4⟩ := hg
  have ⟨⟨f1, f2, f3, f4⟩, f5, f6, g7, g8⟩ := hr
  have ⟨e1, e2, e3⟩ := he
  have ⟨u1, u2, u3⟩ := hu
  have x60 : σ 0 11 = M 3 0 := x6 0 (by omega) (by omega)
  have x61 : σ 0 12 = M 3 1 := x6 1 (by omega) (by omega)
  have x62 : σ 0 13 = M 3 2 := x6 2 (by omega) (by omega)
  have g40 := g4 0 (by omega) (by omega)
  have g41 := g4 1 (by omega) (by omega)
  have g42 := g4 2 (by omega) (by omega)
  have f5 : ∀ c, 0 ≤ c → c < 9 → σ 2 c = Z 1 0 c := f5
  have f6 : ∀ i, 0 ≤ i → i < Z 0 1 0 → repm σ (4 + 3 * i) (Z 0) (Z 1) i := f6
  refine y_aload rfl rfl rfl ?_
  refine y_gfr (t := 1) rfl rfl (by decide) rfl (by decide) ?_
  refine y_iload rfl rfl ?_
  refine y_vi (as := [(2, 1), (0, c)]) (S := []) rfl rfl rfl rfl rfl rfl (yS_0 yS_1).1 (yS_c yS_1) (c_hasCell yS_1) ?_
  rintro _ _ ⟨rfl, rfl⟩
  refine y_ifne rfl (fun q8 => ?_) (fun q8 => ?_)
  · skip
    replace q8 := yb_1.mp q8
    refine y_aload rfl rfl rfl ?_
    refine y_gfr (t := 1) rfl rfl (by decide) rfl (by decide) ?_
    refine y_gfr (t := 2) rfl (yS_c yS_1) (yS_0 yS_1).1 rfl (by decide) ?_
    refine y_iload rfl rfl ?_
    refine y_iald (v := (σ 2 c)) (n := 9) rfl rfl (by decide) rfl (by omega) rfl ?_
    refine y_iret rfl rfl ⟨_, rfl, ?_⟩
    have hK : kin Z M c = (Z 1 0 c, Z, M) := if_pos (by omega)
    rw [hK]
    exact ⟨f5 c (by omega) (by omega), hx, mfr_0 _⟩
  · skip
    replace q8 := yb_0.mp q8
    refine y_aload rfl rfl rfl ?_
    refine y_push rfl ?_
    refine y_vi (as := [(2, 0), (0, (-2))]) (S := []) rfl rfl rfl rfl rfl rfl (by decide) rfl (c_bad (by omega)) ?_
    rintro _ _ ⟨rfl, rfl⟩
    refine y_iret rfl rfl ⟨_, rfl, ?_⟩
    have hK : kin Z M c = (_, Z, bump M 0) := if_neg (by omega)
    rw [hK]
    exact ⟨rfl, xW_bump hg hx (by omega) rfl rfl, mfr_s (mfr_0 _) (by omega)⟩
