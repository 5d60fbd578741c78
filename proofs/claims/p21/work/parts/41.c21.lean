theorem mzi_E {σ τ : YS} {r : Int} {E F D C : YS} {i : Int} (hi : 0 ≤ i ∧ i < 3) (h : mzi σ r E D i) (h24 : E 3 i ≤ 24) (e : ∀ y, (y = r + 11 + i ∨ y = r + 14 + i ∨ y = r + 17 + i ∨ y = r + 20 + i ∨ y = r + 23 + i ∨ y = r + 26 + i ∨ (r + 29 + 24 * i ≤ y ∧ y < r + 29 + 24 * i + 24)) → τ 548 y = σ 548 y) (e2 : F 2 i = E 2 i) (e3 : F 3 i = E 3 i) (e4 : ∀ k, 0 ≤ k → k < E 3 i → F (10 + i) k = E (10 + i) k) (d : ∀ r, 1 ≤ r → r ≤ 4 → C r i = D r i) : mzi τ r F C i := by
  obtain ⟨⟨h1, h2, h3, h4⟩, h5, h6, h7, h8⟩ := h
  unfold mzi
  rw [e _ (by omega), e _ (by omega), e _ (by omega), e _ (by omega), e _ (by omega), e _ (by omega), e2, e3, mfl_E e3 e4, d 1 (by omega) (by omega), d 2 (by omega) (by omega), d 3 (by omega) (by omega), d 4 (by omega) (by omega)]
  exact ⟨⟨h1, h2, h3, h4⟩, h5, fun k a b => by rw [e _ (by omega), h6 k a b]; exact (e4 k a b).symm, h7, h8⟩
theorem mzs_w {σ : YS} {r : Int} {E D : YS} {c v : Int} (he : eG E) (h : mzs σ r E D) (hc : 0 ≤ c ∧ c < 9) : mzs (yset σ 548 (r + 1 + c) v) r E (yset D 0 c v) := by
  have hm := he.2.1
  obtain ⟨⟨h1, h2, h3⟩, h4, h5, h6, h7⟩ := h
  refine ⟨⟨by rw [yne (by omega) rfl]; exact h1, by rw [yne (by omega) rfl]; exact h2, by rw [yne (by omega) rfl, yne (by omega) rfl]; exact h3⟩, fun d a b => ?_, fun i a b => mzi_E (by omega) (h5 i a b) (he.2.2 i a b).2.1.2 (fun y hy => yne (by omega) rfl) rfl rfl (fun _ _ _ => rfl) (fun r _ _ => yne (by omega) rfl), fun i a b => by rw [yne (by omega) rfl]; exact h6 i a b, fun j a b => by rw [yne (by omega) rfl]; exact h7 j a b⟩
  by_cases e : d = c
  · subst e; rw [yeq, yeq]
  · rw [yne (by omega) rfl, yne (by omega) rfl]; exact h4 d a b
theorem mzs_beg {τ : YS} {r n : Int} {E D : YS} (h0 : τ 548 (r + 0) = n) (h : ∀ y, r < y → y ≤ r + 526 → τ 548 y = 0) : mzs τ r (begE E n) (begD D) := by
  have e0 : begE E n 0 0 = n := by unfold begE; rw [if_neg (by omega), yne (by omega) rfl, yeq]
  have e1 : begE E n 1 0 = 0 := by unfold begE; rw [if_neg (by omega), yeq]
  unfold mzs
  rw [e0, e1]
  refine ⟨⟨h0, h _ (by omega) (by omega), by unfold begD; rw [if_pos (by omega)]; exact h _ (by omega) (by omega)⟩, fun c a b => by unfold begD; rw [if_pos (by omega)]; exact h _ (by omega) (by omega), fun i a b => by omega, fun i a b => h _ (by omega) (by omega), fun j a b => by unfold begE; rw [if_pos rfl]; exact h _ (by omega) (by omega)⟩
theorem mzs_ent {σ τ : YS} {r k c : Int} {E D : YS} (he : eG E) (hm : E 1 0 < 3) (hz : mzs σ r E D) (h1 : ∀ y, r ≤ y → y ≤ r + 105 → y ≠ r + 10 → y ≠ r + 11 + E 1 0 → y ≠ r + 14 + E 1 0 → y ≠ r + 17 + E 1 0 → y ≠ r + 20 + E 1 0 → y ≠ r + 23 + E 1 0 → y ≠ r + 26 + E 1 0 → τ 548 y = σ 548 y) (h2 : τ 548 (r + 10) = E 1 0 + 1 ∧ τ 548 (r + 11 + E 1 0) = k ∧ τ 548 (r + 14 + E 1 0) = c ∧ τ 548 (r + 17 + E 1 0) = 0 ∧ τ 548 (r + 20 + E 1 0) = 0 ∧ τ 548 (r + 23 + E 1 0) = 0 ∧ τ 548 (r + 26 + E 1 0) = 0) : mzs τ r (entE E k) (entD E D c) := by
  have hm0 := he.2.1
  obtain ⟨⟨z1, z2, z3⟩, z4, z5, z6, z7⟩ := hz
  have me := entE_m (E := E) (k := k)
  obtain ⟨m1, m2, m3, m4⟩ := entD_m (E := E) (D := D) (c := c)
  obtain ⟨a1, a2, a3, a4, a5, a6, a7⟩ := h2
  unfold mzs
  rw [entE_1, entE_g (by omega), entD_o (r := 5) (by omega)]
  refine ⟨⟨by rw [h1 _ (by omega) (by omega) (by omega) (by omega) (by omega) (by omega) (by omega) (by omega) (by omega)]; exact z1, a1, by rw [h1 _ (by omega) (by omega) (by omega) (by omega) (by omega) (by omega) (by omega) (by omega) (by omega)]; exact z3⟩, fun d a b => by rw [entD_o (by omega), h1 _ (by omega) (by omega) (by omega) (by omega) (by omega) (by omega) (by omega) (by omega) (by omega)]; exact z4 d a b, fun i a b => ?_, fun i a b => by rw [h1 _ (by omega) (by omega) (by omega) (by omega) (by omega) (by omega) (by omega) (by omega) (by omega)]; exact z6 i (by omega) b, fun j a b => by rw [entE_g (by omega), h1 _ (by omega) (by omega) (by omega) (by omega) (by omega) (by omega) (by omega) (by omega) (by omega)]; exact z7 j a b⟩
  by_cases e : i = E 1 0
  · subst e
    unfold mzi
    rw [me.1, me.2, m1, m2, m3, m4]
    exact ⟨⟨a2, a3, a4, a5⟩, a7, fun k a b => by omega, Or.inl a6, by omega⟩
  · exact mzi_E (by omega) (z5 i a (by omega)) (he.2.2 i a (by omega)).2.1.2 (fun y hy => h1 y (by omega) (by omega) (by omega) (by omega) (by omega) (by omega) (by omega) (by omega) (by omega)) (entE_o e).1 (entE_o e).2 (fun k _ _ => entE_g (by omega)) (fun r _ _ => entD_o (Or.inl e))
theorem mzs_slp {σ τ : YS} {r m n : Int} {f : Int → Int} {E D : YS} (he : eG E) (hz : mzs σ r E D) (hm : 0 ≤ m ∧ m < E 1 0) (hn0 : 0 ≤ n ∧ n ≤ 24) (h1 : ∀ y, r ≤ y → y ≤ r + 105 → y ≠ r + 20 + m → y ≠ r + 23 + m → y ≠ r + 26 + m → ¬ (r + 29 + 24 * m ≤ y ∧ y < r + 29 + 24 * m + 24) → τ 548 y = σ 548 y) (hn : τ 548 (r + 26 + m) = n) (hf : ∀ k, 0 ≤ k → k < n → τ 548 (r + 29 + 24 * m + k) = f k) {p st : Int} (hp : τ 548 (r + 20 + m) = p) (h8 : τ 548 (r + 23 + m) = 0 ∨ τ 548 (r + 23 + m) = 1) (hs : st = 0 ↔ ¬ (τ 548 (r + 23 + m) = 1 ∨ n = 0 ∨ bflaw f n.toNat ≠ -1)) : mzs τ r (slpE E m f n) (slpD D m p st) := by
  have hm0 := he.2.1
  obtain ⟨⟨z1, z2, z3⟩, z4, z5, z6, z7⟩ := hz
  have d : ∀ r c, r ≠ 3 ∧ r ≠ 4 ∨ c ≠ m → slpD D m p st r c = D r c := fun r c z => by unfold slpD; rw [yne (by omega) rfl, yne (by omega) rfl]
  unfold mzs
  rw [slpE_g (by omega) (by omega), slpE_g (r := 1) (by omega) (by omega), d 5 0 (by omega)]
  refine ⟨⟨?_, ?_, ?_⟩, fun x a b => ?_, fun i a b => ?_, fun i a b => ?_, fun j a b => ?_⟩
  · rw [h1 _ (by omega) (by omega) (by omega) (by omega) (by omega) (by omega)]; exact z1
  · rw [h1 _ (by omega) (by omega) (by omega) (by omega) (by omega) (by omega)]; exact z2
  · rw [h1 _ (by omega) (by omega) (by omega) (by omega) (by omega) (by omega)]; exact z3
  · rw [d 0 x (by omega), h1 _ (by omega) (by omega) (by omega) (by omega) (by omega) (by omega)]; exact z4 x a b
  · by_cases e : i = m
    · subst e
      obtain ⟨⟨g1, g2, g3, g4⟩, g5, g6, g7, g8⟩ := z5 i a b
      unfold mzi msg
      rw [slpE_3 a, slpE_s, slpE_l a, slpE_g (by omega) (by omega), d 1 i (by omega), d 2 i (by omega), h1 (r + 11 + i) (by omega) (by omega) (by omega) (by omega) (by omega) (by omega), h1 (r + 14 + i) (by omega) (by omega) (by omega) (by omega) (by omega) (by omega), h1 (r + 17 + i) (by omega) (by omega) (by omega) (by omega) (by omega) (by omega)]
      refine ⟨⟨g1, g2, g3, ?_⟩, hn, hf, h8, ?_⟩
      · unfold slpD; rw [yne (by omega) rfl, yeq]; exact hp
      · unfold slpD; rw [yeq]; exact hs
    · exact mzi_E (by omega) (z5 i a b) (he.2.2 i a b).2.1.2 (fun y hy => h1 y (by omega) (by omega) (by omega) (by omega) (by omega) (by omega)) (slpE_g (by omega) (by omega)) (slpE_g (by omega) (by omega)) (fun k _ _ => slpE_g (by omega) (by omega)) (fun r _ _ => d r i (Or.inr e))
  · rw [h1 _ (by omega) (by omega) (by omega) (by omega) (by omega) (by omega)]; exact z6 i a b
  · rw [slpE_g (by omega) (by omega), h1 _ (by omega) (by omega) (by omega) (by omega) (by omega) (by omega)]; exact z7 j a b
theorem mz_tell {σ : YS} {r : Int} {Z : YZ} {E D : YS} (h : mzs σ r E D) (hu : σ 548 (r + 106) = 0) : mz σ r (ztell Z E D) := ⟨h, by rw [ztell_2]; exact hu, fun k a b => by rw [ztell_2] at b; omega⟩
theorem l_setStreet {g : Launch × XG × va_G} {σ : YS} {r n : Int} {E D : YS} (hr : r = 0 ∨ r = 1581) : ∀ (nn : Nat) (τ : YS) (k : Int), 527 - k < (nn : Int) → (0 ≤ k ∧ k ≤ 527) → (2 ≤ n ∧ n ≤ 9) → (∀ y, r ≤ y → y < r + k → τ 548 y = 0) → (wfr σ τ r) → YW g 10 29 [some (2, 547), some (0, r), some (0, n), some (0, (σ 548 (r + 0))), some (0, k)] [] τ (fun rv σ' => ∃ b, rv = some (0, b) ∧ (((2 ≤ n ∧ n ≤ 9) ∧ b = σ 548 (r + 0) ∧ mzs σ' r (begE E n) (begD D) ∧ σ' 548 (r + 106) = 0 ∧ wfr σ σ' r) ∨ (¬ (2 ≤ n ∧ n ≤ 9) ∧ b = -2 ∧ σ = σ'))) := by
  intro nn
  induction nn with
  | zero =>
    intro τ k hn h0 h1 h2 h3
    exfalso
    omega
  | succ nn ih =>
    intro τ k hn h0 h1 h2 h3
    refine y_iload rfl rfl ?_
    refine y_push rfl ?_
    refine y_icge rfl (fun q34 => ?_) (fun q34 => ?_)
    · skip
      refine y_aload rfl rfl rfl ?_
      refine y_gfr (t := 548) rfl rfl (by decide) rfl (by decide) ?_
      refine y_iload rfl rfl ?_
      refine y_push rfl ?_
      refine y_iadd (v := (r + 0)) rfl rfl (by omega) ?_
      refine y_iload rfl rfl ?_
      refine y_iast (n := 2108) rfl rfl (by decide) rfl (by omega) ?_
      refine y_iload rfl rfl ?_
      refine y_iret rfl rfl ⟨_, rfl, ?_⟩
      exact Or.inl ⟨h1, rfl, mzs_beg (yeq _ _ _ _) (fun y a b => by rw [yne (by omega) rfl]; exact h2 y (by omega) (by omega)), by rw [yne (by omega) rfl]; exact h2 _ (by omega) (by omega), wfr_s h3 (by omega)⟩
    · skip
      refine y_aload rfl rfl rfl ?_
      refine y_gfr (t := 548) rfl rfl (by decide) rfl (by decide) ?_
      refine y_iload rfl rfl ?_
      refine y_iload rfl rfl ?_
      refine y_iadd (v := (r + k)) rfl rfl (by omega) ?_
      refine y_push rfl ?_
      refine y_iast (n := 2108) rfl rfl (by decide) rfl (by omega) ?_
      refine y_iinc (L' := [some (2, 547), some (0, r), some (0, n), some (0, (σ 548 (r + 0))), some (0, (k + 1))]) rfl rfl rfl rfl rfl (by omega) ?_
      refine y_goto rfl ?_
      refine ih (yset τ 548 (r + k) 0) (k + 1) (by omega) (by omega) h1 (fun y a b => ?_) (wfr_s h3 (by omega))
      by_cases e : y = r + k
      · subst e; rw [yeq]
      · rw [yne (by omega) rfl]; exact h2 y a (by omega)
theorem m_setStreet {g : Launch × XG × va_G} {σ : YS} {r n : Int} {E D : YS} (hr : r = 0 ∨ r = 1581) : YI g 10 [(2, 547), (0, r), (0, n)] σ (fun b σ' => ((2 ≤ n ∧ n ≤ 9) ∧ b = σ 548 (r + 0) ∧ mzs σ' r (begE E n) (begD D) ∧ σ' 548 (r + 106) = 0 ∧ wfr σ σ' r) ∨ (¬ (2 ≤ n ∧ n ≤ 9) ∧ b = -2 ∧ σ = σ')) := by
  refine y_start rfl rfl rfl ?_
  refine y_iload rfl rfl ?_
  refine y_i2l rfl ?_
  refine y_ldc2 (v := 2) rfl rfl ?_
  refine y_ldc2 (v := 9) rfl rfl ?_
  refine y_si (as := [(1, n), (1, 2), (1, 9)]) (S := []) rfl rfl rfl rfl rfl rfl m_lies ?_
  rintro _ _ ⟨rfl, rfl⟩
  refine y_ifne rfl (fun q11 => ?_) (fun q11 => ?_)
  · skip
    replace q11 := yb_1.mp q11
    refine y_aload rfl rfl rfl ?_
    refine y_gfr (t := 548) rfl rfl (by decide) rfl (by decide) ?_
    refine y_iload rfl rfl ?_
    refine y_push rfl ?_
    refine y_iadd (v := (r + 0)) rfl rfl (by omega) ?_
    refine y_iald (v := (σ 548 (r + 0))) (n := 2108) rfl rfl (by decide) rfl (by omega) rfl ?_
    refine y_istore (L' := [some (2, 547), some (0, r), some (0, n), some (0, (σ 548 (r + 0))), none]) rfl rfl rfl rfl ?_
    refine y_push rfl ?_
    refine y_istore (L' := [some (2, 547), some (0, r), some (0, n), some (0, (σ 548 (r + 0))), some (0, 0)]) rfl rfl rfl rfl ?_
    exact l_setStreet hr 528 σ 0 (by omega) (by omega) (by omega) (fun y a b => by omega) (wfr_0 _ _)
  · skip
    replace q11 := yb_0.mp q11
    refine y_push rfl ?_
    refine y_iret rfl rfl ⟨_, rfl, ?_⟩
    exact Or.inr ⟨by omega, rfl, rfl⟩
theorem m_setWater {g : Launch × XG × va_G} {σ : YS} {r c v : Int} {E D : YS} (hr : r = 0 ∨ r = 1581) (hz : mzs σ r E D) (he : eG E) (hd : dG E D) : YI g 18 [(2, 547), (0, r), (0, c), (0, v)] σ (fun b σ' => ((0 ≤ c ∧ c < E 0 0) ∧ (0 ≤ v ∧ v ≤ 20) ∧ b = D 0 c ∧ mzs σ' r E (yset D 0 c v) ∧ σ' 548 (r + 106) = 0 ∧ wfr σ σ' r) ∨ (¬ ((0 ≤ c ∧ c < E 0 0) ∧ (0 ≤ v ∧ v ≤ 20)) ∧ b = -2 ∧ σ = σ')) := by
  refine y_start rfl rfl rfl ?_
  have ⟨⟨f1, f2, f3⟩, f5, f6, f7, f8⟩ := hz
  have ⟨e1, e2, e3⟩ := he
  refine y_aload rfl rfl rfl ?_
  refine y_iload rfl rfl ?_
  refine y_iload rfl rfl ?_
  refine y_vi (as := [(2, 547), (0, r), (0, c)]) (S := []) rfl rfl rfl rfl rfl rfl (by decide) rfl (m_isCell (r := r) hr f1 (by omega)) ?_
  rintro _ _ ⟨rfl, rfl⟩
  refine y_ifeq rfl (fun q6 => ?_) (fun q6 => ?_)
  · skip
    replace q6 := yb_0.mp q6
    refine y_push rfl ?_
    refine y_iret rfl rfl ⟨_, rfl, ?_⟩
    exact Or.inr ⟨by omega, rfl, rfl⟩
  · skip
    replace q6 := yb_1.mp q6
    refine y_iload rfl rfl ?_
    refine y_i2l rfl ?_
    refine y_lconst (v := 0) rfl rfl ?_
    refine y_ldc2 (v := 20) rfl rfl ?_
    refine y_si (as := [(1, v), (1, 0), (1, 20)]) (S := []) rfl rfl rfl rfl rfl rfl m_lies ?_
    rintro _ _ ⟨rfl, rfl⟩
    refine y_ifne rfl (fun q18 => ?_) (fun q18 => ?_)
    · skip
      replace q18 := yb_1.mp q18
      refine y_aload rfl rfl rfl ?_
      refine y_gfr (t := 548) rfl rfl (by decide) rfl (by decide) ?_
      refine y_iload rfl rfl ?_
      refine y_push rfl ?_
      refine y_iadd (v := (r + 1)) rfl rfl (by omega) ?_
      refine y_iload rfl rfl ?_
      refine y_iadd (v := ((r + 1) + c)) rfl rfl (by omega) ?_
      refine y_iald (v := (σ 548 ((r + 1) + c))) (n := 2108) rfl rfl (by decide) rfl (by omega) rfl ?_
      refine y_istore (L' := [some (2, 547), some (0, r), some (0, c), some (0, v), some (0, (σ 548 ((r + 1) + c)))]) rfl rfl rfl rfl ?_
      refine y_aload rfl rfl rfl ?_
      refine y_gfr (t := 548) rfl rfl (by decide) rfl (by decide) ?_
      refine y_iload rfl rfl ?_
      refine y_push rfl ?_
      refine y_iadd (v := (r + 1)) rfl rfl (by omega) ?_
      refine y_iload rfl rfl ?_
      refine y_iadd (v := ((r + 1) + c)) rfl rfl (by omega) ?_
      refine y_iload rfl rfl ?_
      refine y_iast (n := 2108) rfl rfl (by decide) rfl (by omega) ?_
      refine y_aload rfl rfl rfl ?_
      refine y_gfr (t := 548) rfl rfl (by decide) rfl (by decide) ?_
      refine y_iload rfl rfl ?_
      refine y_push rfl ?_
      refine y_iadd (v := (r + 106)) rfl rfl (by omega) ?_
      refine y_push rfl ?_
      refine y_iast (n := 2108) rfl rfl (by decide) rfl (by omega) ?_
      refine y_iload rfl rfl ?_
      refine y_iret rfl rfl ⟨_, rfl, ?_⟩
      exact Or.inl ⟨by omega, by omega, f5 c (by omega) (by omega), mzs_cong he (mzs_w he hz (by omega)) (fun y a b => yne (by omega) rfl), yeq _ _ _ _, wfr_s (wfr_s (wfr_0 _ _) (by omega)) (by omega)⟩
    · skip
      replace q18 := yb_0.mp q18
      refine y_push rfl ?_
      refine y_iret rfl rfl ⟨_, rfl, ?_⟩
      exact Or.inr ⟨by omega, rfl, rfl⟩
theorem m_addMan {g : Launch × XG × va_G} {σ : YS} {r k c : Int} {E D : YS} (hr : r = 0 ∨ r = 1581) (hz : mzs σ r E D) (he : eG E) (hd : dG E D) : YI g 23 [(2, 547), (0, r), (0, k), (0, c)] σ (fun b σ' => ((0 ≤ k ∧ k < 6) ∧ (0 ≤ c ∧ c < E 0 0) ∧ E 1 0 < 3 ∧ b = E 1 0 ∧ mzs σ' r (entE E k) (entD E D c) ∧ σ' 548 (r + 106) = 0 ∧ wfr σ σ' r) ∨ (¬ ((0 ≤ k ∧ k < 6) ∧ (0 ≤ c ∧ c < E 0 0)) ∧ b = -2 ∧ σ = σ') ∨ (((0 ≤ k ∧ k < 6) ∧ (0 ≤ c ∧ c < E 0 0)) ∧ E 1 0 = 3 ∧ b = -4 ∧ σ = σ')) := by
  refine y_start rfl rfl rfl ?_
  have ⟨⟨f1, f2, f3⟩, f5, f6, f7, f8⟩ := hz
  have ⟨e1, e2, e3⟩ := he
  refine y_iload rfl rfl ?_
  refine y_i2l rfl ?_
  refine y_lconst (v := 0) rfl rfl ?_
  refine y_ldc2 (v := 5) rfl rfl ?_
  refine y_si (as := [(1, k), (1, 0), (1, 5)]) (S := []) rfl rfl rfl rfl rfl rfl m_lies ?_
  rintro _ _ ⟨rfl, rfl⟩
  refine y_ifeq rfl (fun q9 => ?_) (fun q9 => ?_)
  · skip
    replace q9 := yb_0.mp q9
    refine y_push rfl ?_
    refine y_iret rfl rfl ⟨_, rfl, ?_⟩
    exact Or.inr (Or.inl ⟨by omega, rfl, rfl⟩)
  · skip
    replace q9 := yb_1.mp q9
    refine y_aload rfl rfl rfl ?_
    refine y_iload rfl rfl ?_
    refine y_iload rfl rfl ?_
    refine y_vi (as := [(2, 547), (0, r), (0, c)]) (S := []) rfl rfl rfl rfl rfl rfl (by decide) rfl (m_isCell (r := r) hr f1 (by omega)) ?_
    rintro _ _ ⟨rfl, rfl⟩
    refine y_ifne rfl (fun q18 => ?_) (fun q18 => ?_)
    · skip
      replace q18 := yb_1.mp q18
      refine y_aload rfl rfl rfl ?_
      refine y_gfr (t := 548) rfl rfl (by decide) rfl (by decide) ?_
      refine y_iload rfl rfl ?_
      refine y_push rfl ?_
      refine y_iadd (v := (r + 10)) rfl rfl (by omega) ?_
      refine y_iald (v := (σ 548 (r + 10))) (n := 2108) rfl rfl (by decide) rfl (by omega) rfl ?_
      refine y_istore (L' := [some (2, 547), some (0, r), some (0, k), some (0, c), some (0, (σ 548 (r + 10)))]) rfl rfl rfl rfl ?_
      refine y_iload rfl rfl ?_
      refine y_push rfl ?_
      refine y_icne rfl (fun q38 => ?_) (fun q38 => ?_)
      · skip
        refine y_aload rfl rfl rfl ?_
        refine y_gfr (t := 548) rfl rfl (by decide) rfl (by decide) ?_
        refine y_iload rfl rfl ?_
        refine y_push rfl ?_
        refine y_iadd (v := (r + 11)) rfl rfl (by omega) ?_
        refine y_iload rfl rfl ?_
        refine y_iadd (v := ((r + 11) + (σ 548 (r + 10)))) rfl rfl (by omega) ?_
        refine y_iload rfl rfl ?_
        refine y_iast (n := 2108) rfl rfl (by decide) rfl (by omega) ?_
        refine y_aload rfl rfl rfl ?_
        refine y_gfr (t := 548) rfl rfl (by decide) rfl (by decide) ?_
        refine y_iload rfl rfl ?_
        refine y_push rfl ?_
        refine y_iadd (v := (r + 14)) rfl rfl (by omega) ?_
        refine y_iload rfl rfl ?_
        refine y_iadd (v := ((r + 14) + (σ 548 (r + 10)))) rfl rfl (by omega) ?_
        refine y_iload rfl rfl ?_
        refine y_iast (n := 2108) rfl rfl (by decide) rfl (by omega) ?_
        refine y_aload rfl rfl rfl ?_
        refine y_gfr (t := 548) rfl rfl (by decide) rfl (by decide) ?_
        refine y_iload rfl rfl ?_
        refine y_push rfl ?_
        refine y_iadd (v := (r + 17)) rfl rfl (by omega) ?_
        refine y_iload rfl rfl ?_
        refine y_iadd (v := ((r + 17) + (σ 548 (r + 10)))) rfl rfl (by omega) ?_
        refine y_push rfl ?_
        refine y_iast (n := 2108) rfl rfl (by decide) rfl (by omega) ?_
        refine y_aload rfl rfl rfl ?_
        refine y_gfr (t := 548) rfl rfl (by decide) rfl (by decide) ?_
        refine y_iload rfl rfl ?_
        refine y_push rfl ?_
        refine y_iadd (v := (r + 20)) rfl rfl (by omega) ?_
        refine y_iload rfl rfl ?_
        refine y_iadd (v := ((r + 20) + (σ 548 (r + 10)))) rfl rfl (by omega) ?_
        refine y_push rfl ?_
        refine y_iast (n := 2108) rfl rfl (by decide) rfl (by omega) ?_
        refine y_aload rfl rfl rfl ?_
        refine y_gfr (t := 548) rfl rfl (by decide) rfl (by decide) ?_
        refine y_iload rfl rfl ?_
        refine y_push rfl ?_
        refine y_iadd (v := (r + 23)) rfl rfl (by omega) ?_
        refine y_iload rfl rfl ?_
        refine y_iadd (v := ((r + 23) + (σ 548 (r + 10)))) rfl rfl (by omega) ?_
        refine y_push rfl ?_
        refine y_iast (n := 2108) rfl rfl (by decide) rfl (by omega) ?_
        refine y_aload rfl rfl rfl ?_
        refine y_gfr (t := 548) rfl rfl (by decide) rfl (by decide) ?_
        refine y_iload rfl rfl ?_
        refine y_push rfl ?_
        refine y_iadd (v := (r + 26)) rfl rfl (by omega) ?_
        refine y_iload rfl rfl ?_
        refine y_iadd (v := ((r + 26) + (σ 548 (r + 10)))) rfl rfl (by omega) ?_
        refine y_push rfl ?_
        refine y_iast (n := 2108) rfl rfl (by decide) rfl (by omega) ?_
        refine y_aload rfl rfl rfl ?_
        refine y_gfr (t := 548) rfl rfl (by decide) rfl (by decide) ?_
        refine y_iload rfl rfl ?_
        refine y_push rfl ?_
        refine y_iadd (v := (r + 10)) rfl rfl (by omega) ?_
        refine y_dup2 rfl rfl rfl ?_
        refine y_iald (v := (σ 548 (r + 10))) (n := 2108) rfl rfl (by decide) rfl (by omega) (yne (by omega) (yne (by omega) (yne (by omega) (yne (by omega) (yne (by omega) (yne (by omega) rfl)))))) ?_
        refine y_push rfl ?_
        refine y_iadd (v := ((σ 548 (r + 10)) + 1)) rfl rfl (by omega) ?_
        refine y_iast (n := 2108) rfl rfl (by decide) rfl (by omega) ?_
        refine y_aload rfl rfl rfl ?_
        refine y_gfr (t := 548) rfl rfl (by decide) rfl (by decide) ?_
        refine y_iload rfl rfl ?_
        refine y_push rfl ?_
        refine y_iadd (v := (r + 106)) rfl rfl (by omega) ?_
        refine y_push rfl ?_
        refine y_iast (n := 2108) rfl rfl (by decide) rfl (by omega) ?_
        refine y_iload rfl rfl ?_
        refine y_iret rfl rfl ⟨_, rfl, ?_⟩
        have hm : σ 548 (r + 10) < 3 := by omega
        refine Or.inl ⟨by omega, by omega, by omega, f2, mzs_ent he (by omega) hz (fun y a b c1 c2 c3 c4 c5 c6 c7 => ?_) ?_, yeq _ _ _ _, (wfr_s (wfr_s (wfr_s (wfr_s (wfr_s (wfr_s (wfr_s (wfr_s (wfr_0 _ _) (by omega)) (by omega)) (by omega)) (by omega)) (by omega)) (by omega)) (by omega)) (by omega))⟩
        · rw [← f2] at c2 c3 c4 c5 c6 c7; rw [yne (by omega) rfl, yne (by omega) rfl, yne (by omega) rfl, yne (by omega) rfl, yne (by omega) rfl, yne (by omega) rfl, yne (by omega) rfl, yne (by omega) rfl]
        · rw [← f2]
          refine ⟨?_, ?_, ?_, ?_, ?_, ?_, ?_⟩
          · rw [yne (by omega) rfl, yeq]
          · rw [yne (by omega) rfl, yne (by omega) rfl, yne (by omega) rfl, yne (by omega) rfl, yne (by omega) rfl, yne (by omega) rfl, yne (by omega) rfl, yeq]
          · rw [yne (by omega) rfl, yne (by omega) rfl, yne (by omega) rfl, yne (by omega) rfl, yne (by omega) rfl, yne (by omega) rfl, yeq]
          · rw [yne (by omega) rfl, yne (by omega) rfl, yne (by omega) rfl, yne (by omega) rfl, yne (by omega) rfl, yeq]
          · rw [yne (by omega) rfl, yne (by omega) rfl, yne (by omega) rfl, yne (by omega) rfl, yeq]
          · rw [yne (by omega) rfl, yne (by omega) rfl, yne (by omega) rfl, yeq]
          · rw [yne (by omega) rfl, yne (by omega) rfl, yeq]
      · skip
        refine y_push rfl ?_
        refine y_iret rfl rfl ⟨_, rfl, ?_⟩
        exact Or.inr (Or.inr ⟨by omega, by omega, rfl, rfl⟩)
    · skip
      replace q18 := yb_0.mp q18
      refine y_push rfl ?_
      refine y_iret rfl rfl ⟨_, rfl, ?_⟩
      exact Or.inr (Or.inl ⟨by omega, rfl, rfl⟩)
theorem m_addSign {g : Launch × XG × va_G} {σ : YS} {r m sg : Int} {E D : YS} (hr : r = 0 ∨ r = 1581) (hz : mzs σ r E D) (he : eG E) (hd : dG E D) : YI g 28 [(2, 547), (0, r), (0, m), (0, sg)] σ (fun b σ' => ((0 ≤ m ∧ m < E 1 0) ∧ (0 ≤ sg ∧ sg < 14) ∧ E 3 m < 24 ∧ b = E 3 m + 1 ∧ mzs σ' r (appE E m sg) (appD E D m sg) ∧ σ' 548 (r + 106) = 0 ∧ wfr σ σ' r) ∨ (¬ ((0 ≤ m ∧ m < E 1 0) ∧ (0 ≤ sg ∧ sg < 14)) ∧ b = -2 ∧ σ = σ') ∨ (((0 ≤ m ∧ m < E 1 0) ∧ (0 ≤ sg ∧ sg < 14)) ∧ E 3 m = 24 ∧ b = -4 ∧ σ = σ')) := by
  refine y_start rfl rfl rfl ?_
  have ⟨⟨f1, f2, f3⟩, f5, f6, f7, f8⟩ := hz
  have ⟨e1, e2, e3⟩ := he
  refine y_aload rfl rfl rfl ?_
  refine y_iload rfl rfl ?_
  refine y_iload rfl rfl ?_
  refine y_vi (as := [(2, 547), (0, r), (0, m)]) (S := []) rfl rfl rfl rfl rfl rfl (by decide) rfl (m_isMan (r := r) hr f2 e2) ?_
  rintro _ _ ⟨rfl, rfl⟩
  refine y_ifeq rfl (fun q6 => ?_) (fun q6 => ?_)
  · skip
    replace q6 := yb_0.mp q6
    refine y_push rfl ?_
    refine y_iret rfl rfl ⟨_, rfl, ?_⟩
    exact Or.inr (Or.inl ⟨by omega, rfl, rfl⟩)
  · skip
    replace q6 := yb_1.mp q6
    refine y_iload rfl rfl ?_
    refine y_i2l rfl ?_
    refine y_lconst (v := 0) rfl rfl ?_
    refine y_ldc2 (v := 13) rfl rfl ?_
    refine y_si (as := [(1, sg), (1, 0), (1, 13)]) (S := []) rfl rfl rfl rfl rfl rfl m_lies ?_
    rintro _ _ ⟨rfl, rfl⟩
    refine y_ifne rfl (fun q18 => ?_) (fun q18 => ?_)
    · skip
      replace q18 := yb_1.mp q18
      have ⟨⟨b1, b2, b3, b4⟩, b5, b6, b7, b8⟩ := f6 m (by omega) (by omega)
      have ⟨t1, ⟨t2, t3⟩, t4⟩ := e3 m (by omega) (by omega)
      have d3 := (hd.2 m (by omega) (by omega)).2.2.1
      refine y_aload rfl rfl rfl ?_
      refine y_gfr (t := 548) rfl rfl (by decide) rfl (by decide) ?_
      refine y_iload rfl rfl ?_
      refine y_push rfl ?_
      refine y_iadd (v := (r + 26)) rfl rfl (by omega) ?_
      refine y_iload rfl rfl ?_
      refine y_iadd (v := ((r + 26) + m)) rfl rfl (by omega) ?_
      refine y_iald (v := (σ 548 ((r + 26) + m))) (n := 2108) rfl rfl (by decide) rfl (by omega) rfl ?_
      refine y_istore (L' := [some (2, 547), some (0, r), some (0, m), some (0, sg), some (0, (σ 548 ((r + 26) + m)))]) rfl rfl rfl rfl ?_
      refine y_iload rfl rfl ?_
      refine y_push rfl ?_
      refine y_icne rfl (fun q41 => ?_) (fun q41 => ?_)
      · skip
        refine y_aload rfl rfl rfl ?_
        refine y_gfr (t := 548) rfl rfl (by decide) rfl (by decide) ?_
        refine y_iload rfl rfl ?_
        refine y_push rfl ?_
        refine y_iadd (v := (r + 29)) rfl rfl (by omega) ?_
        refine y_push rfl ?_
        refine y_iload rfl rfl ?_
        refine y_imul (v := (24 * m)) rfl rfl (by omega) ?_
        refine y_iadd (v := ((r + 29) + (24 * m))) rfl rfl (by omega) ?_
        refine y_iload rfl rfl ?_
        refine y_iadd (v := (((r + 29) + (24 * m)) + (σ 548 ((r + 26) + m)))) rfl rfl (by omega) ?_
        refine y_iload rfl rfl ?_
        refine y_iast (n := 2108) rfl rfl (by decide) rfl (by omega) ?_
        refine y_aload rfl rfl rfl ?_
        refine y_gfr (t := 548) rfl rfl (by decide) rfl (by decide) ?_
        refine y_iload rfl rfl ?_
        refine y_push rfl ?_
        refine y_iadd (v := (r + 26)) rfl rfl (by omega) ?_
        refine y_iload rfl rfl ?_
        refine y_iadd (v := ((r + 26) + m)) rfl rfl (by omega) ?_
        refine y_dup2 rfl rfl rfl ?_
        refine y_iald (v := (σ 548 ((r + 26) + m))) (n := 2108) rfl rfl (by decide) rfl (by omega) (yne (by omega) rfl) ?_
        refine y_push rfl ?_
        refine y_iadd (v := ((σ 548 ((r + 26) + m)) + 1)) rfl rfl (by omega) ?_
        refine y_iast (n := 2108) rfl rfl (by decide) rfl (by omega) ?_
        refine y_aload rfl rfl rfl ?_
        refine y_gfr (t := 548) rfl rfl (by decide) rfl (by decide) ?_
        refine y_iload rfl rfl ?_
        refine y_push rfl ?_
        refine y_iadd (v := (r + 23)) rfl rfl (by omega) ?_
        refine y_iload rfl rfl ?_
        refine y_iadd (v := ((r + 23) + m)) rfl rfl (by omega) ?_
        refine y_aload rfl rfl rfl ?_
        refine y_iload rfl rfl ?_
        refine y_push rfl ?_
        refine y_iadd (v := (r + 29)) rfl rfl (by omega) ?_
        refine y_push rfl ?_
        refine y_iload rfl rfl ?_
        refine y_imul (v := (24 * m)) rfl rfl (by omega) ?_
        refine y_iadd (v := ((r + 29) + (24 * m))) rfl rfl (by omega) ?_
        refine y_iload rfl rfl ?_
        refine y_push rfl ?_
        refine y_iadd (v := ((σ 548 ((r + 26) + m)) + 1)) rfl rfl (by omega) ?_
        have y1 : ∀ k, 0 ≤ k → k < E 3 m + 1 → (yset (yset σ 548 (((r + 29) + (24 * m)) + (σ 548 ((r + 26) + m))) sg) 548 ((r + 26) + m) ((σ 548 ((r + 26) + m)) + 1)) 548 (r + 29 + 24 * m + k) = (fun k => if k = E 3 m then sg else E (10 + m) k) k := fun k k1 k2 => by
          rw [yne (by omega) rfl, b5]
          dsimp only
          split
          · rename_i z; rw [z, yeq]
          · rw [yne (by omega) rfl]; exact b6 k k1 (by omega)
        have hf : mfl (appE E m sg) m = bflaw (fun k => if k = E 3 m then sg else E (10 + m) k) (E 3 m + 1).toNat := slpE_l (by omega)
        refine y_vi (as := [(2, 547), (0, ((r + 29) + (24 * m))), (0, ((σ 548 ((r + 26) + m)) + 1))]) (S := [(0, ((r + 23) + m)), (2, 548)]) rfl rfl rfl rfl rfl rfl (by decide) rfl (m_faultOf (f := (fun k => if k = E 3 m then sg else E (10 + m) k)) (n := σ 548 (r + 26 + m) + 1) (fun k k1 k2 => y1 k k1 (by omega)) (by omega) (by omega)) ?_
        rintro _ _ ⟨rfl, rfl⟩
        have hb : bflaw (fun k => if k = E 3 m then sg else E (10 + m) k) (σ 548 (r + 26 + m) + 1).toNat = mfl (appE E m sg) m := by rw [hf, b5]
        refine y_push rfl ?_
        refine y_icne rfl (fun q108 => ?_) (fun q108 => ?_)
        · skip
          refine y_aload rfl rfl rfl ?_
          refine y_gfr (t := 548) rfl rfl (by decide) rfl (by decide) ?_
          refine y_iload rfl rfl ?_
          refine y_push rfl ?_
          refine y_iadd (v := (r + 23)) rfl rfl (by omega) ?_
          refine y_iload rfl rfl ?_
          refine y_iadd (v := ((r + 23) + m)) rfl rfl (by omega) ?_
          refine y_iald (v := (σ 548 ((r + 23) + m))) (n := 2108) rfl rfl (by decide) rfl (by omega) (yne (by omega) (yne (by omega) rfl)) ?_
          refine y_iast (n := 2108) rfl rfl (by decide) rfl (by omega) ?_
          refine y_aload rfl rfl rfl ?_
          refine y_gfr (t := 548) rfl rfl (by decide) rfl (by decide) ?_
          refine y_iload rfl rfl ?_
          refine y_push rfl ?_
          refine y_iadd (v := (r + 106)) rfl rfl (by omega) ?_
          refine y_push rfl ?_
          refine y_iast (n := 2108) rfl rfl (by decide) rfl (by omega) ?_
          refine y_iload rfl rfl ?_
          refine y_push rfl ?_
          refine y_iadd (v := ((σ 548 ((r + 26) + m)) + 1)) rfl rfl (by omega) ?_
          refine y_iret rfl rfl ⟨_, rfl, ?_⟩
          have hz9 : ¬ mfl (appE E m sg) m = -1 := by omega
          refine Or.inl ⟨by omega, by omega, by omega, by omega, ?_, yeq _ _ _ _, (wfr_s (wfr_s (wfr_s (wfr_s (wfr_0 _ _) (by omega)) (by omega)) (by omega)) (by omega))⟩
          unfold appD; rw [if_neg hz9]
          refine mzs_slp he hz (by omega) (by omega) (fun y a b c1 c2 c3 c4 => by rw [yne (by omega) rfl, yne (by omega) rfl, yne (by omega) rfl, yne (by omega) rfl]) ?_ (fun k k1 k2 => ?_) ?_ ?_ ?_
          · rw [yne (by omega) rfl, yne (by omega) rfl, yeq, b5]
          · rw [yne (by omega) rfl, yne (by omega) rfl]; exact y1 k k1 k2
          · rw [yne (by omega) rfl, yne (by omega) rfl, yne (by omega) rfl, yne (by omega) rfl]; exact b4
          · rw [yne (by omega) rfl, yeq]; exact b7
          · rw [← hf]; omega
        · skip
          refine y_push rfl ?_
          refine y_goto rfl ?_
          refine y_iast (n := 2108) rfl rfl (by decide) rfl (by omega) ?_
          refine y_aload rfl rfl rfl ?_
          refine y_gfr (t := 548) rfl rfl (by decide) rfl (by decide) ?_
          refine y_iload rfl rfl ?_
          refine y_push rfl ?_
          refine y_iadd (v := (r + 106)) rfl rfl (by omega) ?_
          refine y_push rfl ?_
          refine y_iast (n := 2108) rfl rfl (by decide) rfl (by omega) ?_
          refine y_iload rfl rfl ?_
          refine y_push rfl ?_
          refine y_iadd (v := ((σ 548 ((r + 26) + m)) + 1)) rfl rfl (by omega) ?_
          refine y_iret rfl rfl ⟨_, rfl, ?_⟩
          have hz9 :  mfl (appE E m sg) m = -1 := by omega
          refine Or.inl ⟨by omega, by omega, by omega, by omega, ?_, yeq _ _ _ _, (wfr_s (wfr_s (wfr_s (wfr_s (wfr_0 _ _) (by omega)) (by omega)) (by omega)) (by omega))⟩
          unfold appD; rw [if_pos hz9]
          refine mzs_slp he hz (by omega) (by omega) (fun y a b c1 c2 c3 c4 => by rw [yne (by omega) rfl, yne (by omega) rfl, yne (by omega) rfl, yne (by omega) rfl]) ?_ (fun k k1 k2 => ?_) ?_ ?_ ?_
          · rw [yne (by omega) rfl, yne (by omega) rfl, yeq, b5]
          · rw [yne (by omega) rfl, yne (by omega) rfl]; exact y1 k k1 k2
          · rw [yne (by omega) rfl, yne (by omega) rfl, yne (by omega) rfl, yne (by omega) rfl]; exact b4
          · rw [yne (by omega) rfl, yeq]; exact Or.inl rfl
          · rw [yne (a := 548) (b := r + 23 + m) (by omega) rfl, yeq, ← hf]; omega
      · skip
        refine y_push rfl ?_
        refine y_iret rfl rfl ⟨_, rfl, ?_⟩
        exact Or.inr (Or.inr ⟨by omega, by omega, rfl, rfl⟩)
    · skip
      replace q18 := yb_0.mp q18
      refine y_push rfl ?_
      refine y_iret rfl rfl ⟨_, rfl, ?_⟩
      exact Or.inr (Or.inl ⟨by omega, rfl, rfl⟩)
theorem m_street {g : Launch × XG × va_G} {σ : YS} {Z : YZ} {I : Int → YZ} {M : YS} {N : Int} {n : Int} (hx : mW σ Z I M) (hg : wG Z I M N) (hN : N < 100000) : YI g 9 [(2, 547), (0, n)] σ (fun b σ' => b = (kstreet Z M n).1 ∧ mW σ' (kstreet Z M n).2.1 I (kstreet Z M n).2.2 ∧ cfr σ σ') := by
  refine y_start rfl rfl rfl ?_
  have ⟨⟨hz, hu, hur⟩, x2, x3, ⟨x4, x5⟩, x6, x7⟩ := hx
  have ⟨⟨he, hd, hn, hu2, h67, hk⟩, g2, g3, g4⟩ := hg
  have ⟨⟨f1, f2, f3⟩, f5, f6, f7, f8⟩ := hz
  have ⟨e1, e2, e3⟩ := he
  have x60 : σ 551 0 = M 3 0 := x6 0 (by omega) (by omega)
  have x61 : σ 551 1 = M 3 1 := x6 1 (by omega) (by omega)
  have x62 : σ 551 2 = M 3 2 := x6 2 (by omega) (by omega)
  have g40 := g4 0 (by omega) (by omega)
  have g41 := g4 1 (by omega) (by omega)
  have g42 := g4 2 (by omega) (by omega)
  have hu : σ 548 106 = Z 2 0 0 := hu
  have f1 : σ 548 (0 + 0) = Z 0 0 0 := f1
  have f10 : σ 548 0 = Z 0 0 0 := f1
  have f2 : σ 548 (0 + 10) = Z 0 1 0 := f2
  have f20 : σ 548 10 = Z 0 1 0 := f2
  have f30 : σ 548 105 = Z 1 5 0 := f3
  refine y_aload rfl rfl rfl ?_
  refine y_aload rfl rfl rfl ?_
  refine y_push rfl ?_
  refine y_iload rfl rfl ?_
  refine y_vi (as := [(2, 547), (0, 0), (0, n)]) (S := [(2, 547)]) rfl rfl rfl rfl rfl rfl (by decide) rfl (m_setStreet (E := Z 0) (D := Z 1) (Or.inl rfl)) ?_
  rintro b_ σ' (⟨hv, rfl, z1, z2, z3⟩ | ⟨hv, rfl, rfl⟩)
  · skip
    refine y_vi (as := [(2, 547), (0, (σ 548 (0 + 0)))]) (S := []) rfl rfl rfl rfl rfl rfl (by decide) rfl (m_met (by omega)) ?_
    rintro _ _ ⟨rfl, rfl⟩
    refine y_iret rfl rfl ⟨_, rfl, ?_⟩
    have hK : kstreet Z M n = (Z 0 0 0, ztell Z (begE (Z 0) n) (begD (Z 1)), M) := if_pos hv
    rw [hK]
    exact ⟨f1, mW_now hg hx (mz_tell z1 z2) z3, cfr_w z3⟩
  · skip
    refine y_vi (as := [(2, 547), (0, (-2))]) (S := []) rfl rfl rfl rfl rfl rfl (by decide) rfl (m_met2 (by omega)) ?_
    rintro _ _ ⟨rfl, rfl⟩
    refine y_iret rfl rfl ⟨_, rfl, ?_⟩
    have hK : kstreet Z M n = (_, Z, bump M 0) := if_neg hv
    rw [hK]
    exact ⟨rfl, mW_bump hg hx (by omega) rfl, cfr_s (cfr_0 _) (by omega)⟩
theorem m_water {g : Launch × XG × va_G} {σ : YS} {Z : YZ} {I : Int → YZ} {M : YS} {N : Int} {c v : Int} (hx : mW σ Z I M) (hg : wG Z I M N) (hN : N < 100000) : YI g 17 [(2, 547), (0, c), (0, v)] σ (fun b σ' => b = (kwater Z M c v).1 ∧ mW σ' (kwater Z M c v).2.1 I (kwater Z M c v).2.2 ∧ cfr σ σ') := by
  refine y_start rfl rfl rfl ?_
  have ⟨⟨hz, hu, hur⟩, x2, x3, ⟨x4, x5⟩, x6, x7⟩ := hx
  have ⟨⟨he, hd, hn, hu2, h67, hk⟩, g2, g3, g4⟩ := hg
  have ⟨⟨f1, f2, f3⟩, f5, f6, f7, f8⟩ := hz
  have ⟨e1, e2, e3⟩ := he
  have x60 : σ 551 0 = M 3 0 := x6 0 (by omega) (by omega)
  have x61 : σ 551 1 = M 3 1 := x6 1 (by omega) (by omega)
  have x62 : σ 551 2 = M 3 2 := x6 2 (by omega) (by omega)
  have g40 := g4 0 (by omega) (by omega)
  have g41 := g4 1 (by omega) (by omega)
  have g42 := g4 2 (by omega) (by omega)
  have hu : σ 548 106 = Z 2 0 0 := hu
  have f1 : σ 548 (0 + 0) = Z 0 0 0 := f1
  have f10 : σ 548 0 = Z 0 0 0 := f1
  have f2 : σ 548 (0 + 10) = Z 0 1 0 := f2
  have f20 : σ 548 10 = Z 0 1 0 := f2
  have f30 : σ 548 105 = Z 1 5 0 := f3
  refine y_aload rfl rfl rfl ?_
  refine y_aload rfl rfl rfl ?_
  refine y_push rfl ?_
  refine y_iload rfl rfl ?_
  refine y_iload rfl rfl ?_
  refine y_vi (as := [(2, 547), (0, 0), (0, c), (0, v)]) (S := [(2, 547)]) rfl rfl rfl rfl rfl rfl (by decide) rfl (m_setWater (E := Z 0) (D := Z 1) (Or.inl rfl) hz hg.1.1 hd) ?_
  rintro b_ σ' (⟨hv, hv2, rfl, z1, z2, z3⟩ | ⟨hv, rfl, rfl⟩)
  · skip
    have hd0 := hd.1 c (by omega) (by omega)
    refine y_vi (as := [(2, 547), (0, (Z 1 0 c))]) (S := []) rfl rfl rfl rfl rfl rfl (by decide) rfl (m_met (by omega)) ?_
    rintro _ _ ⟨rfl, rfl⟩
    refine y_iret rfl rfl ⟨_, rfl, ?_⟩
    have hK : kwater Z M c v = (Z 1 0 c, ztell Z (Z 0) (yset (Z 1) 0 c v), M) := if_pos ⟨hv, hv2⟩
    rw [hK]
    exact ⟨rfl, mW_now hg hx (mz_tell z1 z2) z3, cfr_w z3⟩
  · skip
    refine y_vi (as := [(2, 547), (0, (-2))]) (S := []) rfl rfl rfl rfl rfl rfl (by decide) rfl (m_met2 (by omega)) ?_
    rintro _ _ ⟨rfl, rfl⟩
    refine y_iret rfl rfl ⟨_, rfl, ?_⟩
    have hK : kwater Z M c v = (_, Z, bump M 0) := if_neg hv
    rw [hK]
    exact ⟨rfl, mW_bump hg hx (by omega) rfl, cfr_s (cfr_0 _) (by omega)⟩
theorem m_man {g : Launch × XG × va_G} {σ : YS} {Z : YZ} {I : Int → YZ} {M : YS} {N : Int} {k c : Int} (hx : mW σ Z I M) (hg : wG Z I M N) (hN : N < 100000) : YI g 22 [(2, 547), (0, k), (0, c)] σ (fun b σ' => b = (kman Z M k c).1 ∧ mW σ' (kman Z M k c).2.1 I (kman Z M k c).2.2 ∧ cfr σ σ') := by
  refine y_start rfl rfl rfl ?_
  have ⟨⟨hz, hu, hur⟩, x2, x3, ⟨x4, x5⟩, x6, x7⟩ := hx
  have ⟨⟨he, hd, hn, hu2, h67, hk⟩, g2, g3, g4⟩ := hg
  have ⟨⟨f1, f2, f3⟩, f5, f6, f7, f8⟩ := hz
  have ⟨e1, e2, e3⟩ := he
  have x60 : σ 551 0 = M 3 0 := x6 0 (by omega) (by omega)
  have x61 : σ 551 1 = M 3 1 := x6 1 (by omega) (by omega)
  have x62 : σ 551 2 = M 3 2 := x6 2 (by omega) (by omega)
  have g40 := g4 0 (by omega) (by omega)
  have g41 := g4 1 (by omega) (by omega)
  have g42 := g4 2 (by omega) (by omega)
  have hu : σ 548 106 = Z 2 0 0 := hu
  have f1 : σ 548 (0 + 0) = Z 0 0 0 := f1
  have f10 : σ 548 0 = Z 0 0 0 := f1
  have f2 : σ 548 (0 + 10) = Z 0 1 0 := f2
  have f20 : σ 548 10 = Z 0 1 0 := f2
  have f30 : σ 548 105 = Z 1 5 0 := f3
  refine y_aload rfl rfl rfl ?_
  refine y_aload rfl rfl rfl ?_
  refine y_push rfl ?_
  refine y_iload rfl rfl ?_
  refine y_iload rfl rfl ?_
  refine y_vi (as := [(2, 547), (0, 0), (0, k), (0, c)]) (S := [(2, 547)]) rfl rfl rfl rfl rfl rfl (by decide) rfl (m_addMan (E := Z 0) (D := Z 1) (Or.inl rfl) hz hg.1.1 hd) ?_
  rintro b_ σ' (⟨hv, hv2, hv3, rfl, z1, z2, z3⟩ | ⟨hv, rfl, rfl⟩ | ⟨hv, hv2, rfl, rfl⟩)
  · skip
    refine y_vi (as := [(2, 547), (0, (Z 0 1 0))]) (S := []) rfl rfl rfl rfl rfl rfl (by decide) rfl (m_met (by omega)) ?_
    rintro _ _ ⟨rfl, rfl⟩
    refine y_iret rfl rfl ⟨_, rfl, ?_⟩
    have hK : kman Z M k c = (Z 0 1 0, ztell Z (entE (Z 0) k) (entD (Z 0) (Z 1) c), M) := (if_neg (fun z => z ⟨hv, hv2⟩)).trans (if_neg (by omega))
    rw [hK]
    exact ⟨rfl, mW_now hg hx (mz_tell z1 z2) z3, cfr_w z3⟩
  · skip
    refine y_vi (as := [(2, 547), (0, (-2))]) (S := []) rfl rfl rfl rfl rfl rfl (by decide) rfl (m_met2 (by omega)) ?_
    rintro _ _ ⟨rfl, rfl⟩
    refine y_iret rfl rfl ⟨_, rfl, ?_⟩
    have hK : kman Z M k c = (_, Z, bump M 0) := if_pos hv
    rw [hK]
    exact ⟨rfl, mW_bump hg hx (by omega) rfl, cfr_s (cfr_0 _) (by omega)⟩
  · skip
    refine y_vi (as := [(2, 547), (0, (-4))]) (S := []) rfl rfl rfl rfl rfl rfl (by decide) rfl (m_met4 (by omega)) ?_
    rintro _ _ ⟨rfl, rfl⟩
    refine y_iret rfl rfl ⟨_, rfl, ?_⟩
    have hK : kman Z M k c = (_, Z, bump M 2) := (if_neg (fun z => z hv)).trans (if_pos hv2)
    rw [hK]
    exact ⟨rfl, mW_bump hg hx (by omega) rfl, cfr_s (cfr_0 _) (by omega)⟩
theorem m_write {g : Launch × XG × va_G} {σ : YS} {Z : YZ} {I : Int → YZ} {M : YS} {N : Int} {m sg : Int} (hx : mW σ Z I M) (hg : wG Z I M N) (hN : N < 100000) : YI g 27 [(2, 547), (0, m), (0, sg)] σ (fun b σ' => b = (kwrite Z M m sg).1 ∧ mW σ' (kwrite Z M m sg).2.1 I (kwrite Z M m sg).2.2 ∧ cfr σ σ') := by
  refine y_start rfl rfl rfl ?_
  have ⟨⟨hz, hu, hur⟩, x2, x3, ⟨x4, x5⟩, x6, x7⟩ := hx
  have ⟨⟨he, hd, hn, hu2, h67, hk⟩, g2, g3, g4⟩ := hg
  have ⟨⟨f1, f2, f3⟩, f5, f6, f7, f8⟩ := hz
  have ⟨e1, e2, e3⟩ := he
  have x60 : σ 551 0 = M 3 0 := x6 0 (by omega) (by omega)
  have x61 : σ 551 1 = M 3 1 := x6 1 (by omega) (by omega)
  have x62 : σ 551 2 = M 3 2 := x6 2 (by omega) (by omega)
  have g40 := g4 0 (by omega) (by omega)
  have g41 := g4 1 (by omega) (by omega)
  have g42 := g4 2 (by omega) (by omega)
  have hu : σ 548 106 = Z 2 0 0 := hu
  have f1 : σ 548 (0 + 0) = Z 0 0 0 := f1
  have f10 : σ 548 0 = Z 0 0 0 := f1
  have f2 : σ 548 (0 + 10) = Z 0 1 0 := f2
  have f20 : σ 548 10 = Z 0 1 0 := f2
  have f30 : σ 548 105 = Z 1 5 0 := f3
  refine y_aload rfl rfl rfl ?_
  refine y_aload rfl rfl rfl ?_
  refine y_push rfl ?_
  refine y_iload rfl rfl ?_
  refine y_iload rfl rfl ?_
  refine y_vi (as := [(2, 547), (0, 0), (0, m), (0, sg)]) (S := [(2, 547)]) rfl rfl rfl rfl rfl rfl (by decide) rfl (m_addSign (E := Z 0) (D := Z 1) (Or.inl rfl) hz hg.1.1 hd) ?_
  rintro b_ σ' (⟨hv, hv2, hv3, rfl, z1, z2, z3⟩ | ⟨hv, rfl, rfl⟩ | ⟨hv, hv2, rfl, rfl⟩)
  · skip
    have hd0 := (e3 m (by omega) (by omega)).2.1
    refine y_vi (as := [(2, 547), (0, (Z 0 3 m + 1))]) (S := []) rfl rfl rfl rfl rfl rfl (by decide) rfl (m_met (by omega)) ?_
    rintro _ _ ⟨rfl, rfl⟩
    refine y_iret rfl rfl ⟨_, rfl, ?_⟩
    have hK : kwrite Z M m sg = (Z 0 3 m + 1, ztell Z (appE (Z 0) m sg) (appD (Z 0) (Z 1) m sg), M) := (if_neg (fun z => z ⟨hv, hv2⟩)).trans (if_neg (by omega))
    rw [hK]
    exact ⟨rfl, mW_now hg hx (mz_tell z1 z2) z3, cfr_w z3⟩
  · skip
    refine y_vi (as := [(2, 547), (0, (-2))]) (S := []) rfl rfl rfl rfl rfl rfl (by decide) rfl (m_met2 (by omega)) ?_
    rintro _ _ ⟨rfl, rfl⟩
    refine y_iret rfl rfl ⟨_, rfl, ?_⟩
    have hK : kwrite Z M m sg = (_, Z, bump M 0) := if_pos hv
    rw [hK]
    exact ⟨rfl, mW_bump hg hx (by omega) rfl, cfr_s (cfr_0 _) (by omega)⟩
  · skip
    refine y_vi (as := [(2, 547), (0, (-4))]) (S := []) rfl rfl rfl rfl rfl rfl (by decide) rfl (m_met4 (by omega)) ?_
    rintro _ _ ⟨rfl, rfl⟩
    refine y_iret rfl rfl ⟨_, rfl, ?_⟩
    have hK : kwrite Z M m sg = (_, Z, bump M 2) := (if_neg (fun z => z hv)).trans (if_pos hv2)
    rw [hK]
    exact ⟨rfl, mW_bump hg hx (by omega) rfl, cfr_s (cfr_0 _) (by omega)⟩
theorem m_rub {g : Launch × XG × va_G} {σ : YS} {Z : YZ} {I : Int → YZ} {M : YS} {N : Int} {m : Int} (hx : mW σ Z I M) (hg : wG Z I M N) (hN : N < 100000) : YI g 32 [(2, 547), (0, m)] σ (fun b σ' => b = (krub Z M m).1 ∧ mW σ' (krub Z M m).2.1 I (krub Z M m).2.2 ∧ cfr σ σ') := by
  refine y_start rfl rfl rfl ?_
  have ⟨⟨hz, hu, hur⟩, x2, x3, ⟨x4, x5⟩, x6, x7⟩ := hx
  have ⟨⟨he, hd, hn, hu2, h67, hk⟩, g2, g3, g4⟩ := hg
  have ⟨⟨f1, f2, f3⟩, f5, f6, f7, f8⟩ := hz
  have ⟨e1, e2, e3⟩ := he
  have x60 : σ 551 0 = M 3 0 := x6 0 (by omega) (by omega)
  have x61 : σ 551 1 = M 3 1 := x6 1 (by omega) (by omega)
  have x62 : σ 551 2 = M 3 2 := x6 2 (by omega) (by omega)
  have g40 := g4 0 (by omega) (by omega)
  have g41 := g4 1 (by omega) (by omega)
  have g42 := g4 2 (by omega) (by omega)
  have hu : σ 548 106 = Z 2 0 0 := hu
  have f1 : σ 548 (0 + 0) = Z 0 0 0 := f1
  have f10 : σ 548 0 = Z 0 0 0 := f1
  have f2 : σ 548 (0 + 10) = Z 0 1 0 := f2
  have f20 : σ 548 10 = Z 0 1 0 := f2
  have f30 : σ 548 105 = Z 1 5 0 := f3
  refine y_aload rfl rfl rfl ?_
  refine y_push rfl ?_
  refine y_iload rfl rfl ?_
  refine y_vi (as := [(2, 547), (0, 0), (0, m)]) (S := []) rfl rfl rfl rfl rfl rfl (by decide) rfl (m_isMan (r := 0) (Or.inl rfl) f2 e2) ?_
  rintro _ _ ⟨rfl, rfl⟩
  refine y_ifne rfl (fun q6 => ?_) (fun q6 => ?_)
  · skip
    replace q6 := yb_1.mp q6
    have ⟨⟨b1, b2, b3, b4⟩, b5, b6, b7, b8⟩ := f6 m (by omega) (by omega)
    have ⟨t1, ⟨t2, t3⟩, t4⟩ := e3 m (by omega) (by omega)
    have d3 := hd.2 m (by omega) (by omega)
    have b5 : σ 548 (26 + m) = Z 0 3 m := b5
    have b70 : σ 548 (23 + m) = 0 ∨ σ 548 (23 + m) = 1 := b7
    have b80 : Z 1 4 m = 0 ↔ ¬ (σ 548 (23 + m) = 1 ∨ Z 0 3 m = 0 ∨ mfl (Z 0) m ≠ -1) := b8
    have b60 : ∀ k, 0 ≤ k → k < Z 0 3 m → σ 548 (29 + 24 * m + k) = msg (Z 0) m k := b6
    refine y_aload rfl rfl rfl ?_
    refine y_gfr (t := 548) rfl rfl (by decide) rfl (by decide) ?_
    refine y_push rfl ?_
    refine y_iload rfl rfl ?_
    refine y_iadd (v := (26 + m)) rfl rfl (by omega) ?_
    refine y_iald (v := (σ 548 (26 + m))) (n := 2108) rfl rfl (by decide) rfl (by omega) rfl ?_
    refine y_istore (L' := [some (2, 547), some (0, m), some (0, (σ 548 (26 + m)))]) rfl rfl rfl rfl ?_
    refine y_aload rfl rfl rfl ?_
    refine y_gfr (t := 548) rfl rfl (by decide) rfl (by decide) ?_
    refine y_push rfl ?_
    refine y_iload rfl rfl ?_
    refine y_iadd (v := (26 + m)) rfl rfl (by omega) ?_
    refine y_push rfl ?_
    refine y_iast (n := 2108) rfl rfl (by decide) rfl (by omega) ?_
    refine y_aload rfl rfl rfl ?_
    refine y_gfr (t := 548) rfl rfl (by decide) rfl (by decide) ?_
    refine y_push rfl ?_
    refine y_iload rfl rfl ?_
    refine y_iadd (v := (20 + m)) rfl rfl (by omega) ?_
    refine y_push rfl ?_
    refine y_iast (n := 2108) rfl rfl (by decide) rfl (by omega) ?_
    refine y_aload rfl rfl rfl ?_
    refine y_gfr (t := 548) rfl rfl (by decide) rfl (by decide) ?_
    refine y_push rfl ?_
    refine y_iload rfl rfl ?_
    refine y_iadd (v := (23 + m)) rfl rfl (by omega) ?_
    refine y_push rfl ?_
    refine y_iast (n := 2108) rfl rfl (by decide) rfl (by omega) ?_
    refine y_aload rfl rfl rfl ?_
    refine y_gfr (t := 548) rfl rfl (by decide) rfl (by decide) ?_
    refine y_push rfl ?_
    refine y_push rfl ?_
    refine y_iast (n := 2108) rfl rfl (by decide) rfl (by decide) ?_
    refine y_iload rfl rfl ?_
    refine y_iret rfl rfl ⟨_, rfl, ?_⟩
    have hK : krub Z M m = (Z 0 3 m, ztell Z (empE (Z 0) m) (empD (Z 1) m), M) := if_pos (by omega)
    rw [hK]
    have z3 : wfr σ (yset (yset (yset (yset σ 548 (26 + m) 0) 548 (20 + m) 0) 548 (23 + m) 0) 548 106 0) 0 := (wfr_s (wfr_s (wfr_s (wfr_s (wfr_0 _ _) (by omega)) (by omega)) (by omega)) (by omega))
    have z1 : mzs (yset (yset (yset (yset σ 548 (26 + m) 0) 548 (20 + m) 0) 548 (23 + m) 0) 548 106 0) 0 (empE (Z 0) m) (empD (Z 1) m) := mzs_slp hg.1.1 hz (by omega) (by omega) (fun y a b c1 c2 c3 c4 => by rw [yne (by omega) rfl, yne (by omega) rfl, yne (by omega) rfl, yne (by omega) rfl]) (yne (by omega) (yne (by omega) (yne (by omega) (by rw [show (0 : Int) + 26 + m = 26 + m by omega]; exact yeq _ _ _ _)))) (fun k a b => by omega) (yne (by omega) (yne (by omega) (by rw [show (0 : Int) + 20 + m = 20 + m by omega]; exact yeq _ _ _ _))) (Or.inl (yne (by omega) (by rw [show (0 : Int) + 23 + m = 23 + m by omega]; exact yeq _ _ _ _))) (by omega)
    exact ⟨b5, mW_now hg hx (mz_tell z1 (yeq _ _ _ _)) z3, cfr_w z3⟩
  · skip
    replace q6 := yb_0.mp q6
    refine y_aload rfl rfl rfl ?_
    refine y_vi (as := [(2, 547)]) (S := []) rfl rfl rfl rfl rfl rfl (by decide) rfl (m_bad (by omega)) ?_
    rintro _ _ ⟨rfl, rfl⟩
    refine y_iret rfl rfl ⟨_, rfl, ?_⟩
    have hK : krub Z M m = (_, Z, bump M 0) := if_neg (by omega)
    rw [hK]
    exact ⟨rfl, mW_bump hg hx (by omega) rfl, cfr_s (cfr_0 _) (by omega)⟩
theorem m_fault {g : Launch × XG × va_G} {σ : YS} {Z : YZ} {I : Int → YZ} {M : YS} {N : Int} {m : Int} (hx : mW σ Z I M) (hg : wG Z I M N) (hN : N < 100000) : YI g 36 [(2, 547), (0, m)] σ (fun b σ' => b = (kfault Z M m).1 ∧ mW σ' (kfault Z M m).2.1 I (kfault Z M m).2.2 ∧ cfr σ σ') := by
  refine y_start rfl rfl rfl ?_
  have ⟨⟨hz, hu, hur⟩, x2, x3, ⟨x4, x5⟩, x6, x7⟩ := hx
  have ⟨⟨he, hd, hn, hu2, h67, hk⟩, g2, g3, g4⟩ := hg
  have ⟨⟨f1, f2, f3⟩, f5, f6, f7, f8⟩ := hz
  have ⟨e1, e2, e3⟩ := he
  have x60 : σ 551 0 = M 3 0 := x6 0 (by omega) (by omega)
  have x61 : σ 551 1 = M 3 1 := x6 1 (by omega) (by omega)
  have x62 : σ 551 2 = M 3 2 := x6 2 (by omega) (by omega)
  have g40 := g4 0 (by omega) (by omega)
  have g41 := g4 1 (by omega) (by omega)
  have g42 := g4 2 (by omega) (by omega)
  have hu : σ 548 106 = Z 2 0 0 := hu
  have f1 : σ 548 (0 + 0) = Z 0 0 0 := f1
  have f10 : σ 548 0 = Z 0 0 0 := f1
  have f2 : σ 548 (0 + 10) = Z 0 1 0 := f2
  have f20 : σ 548 10 = Z 0 1 0 := f2
  have f30 : σ 548 105 = Z 1 5 0 := f3
  refine y_aload rfl rfl rfl ?_
  refine y_push rfl ?_
  refine y_iload rfl rfl ?_
  refine y_vi (as := [(2, 547), (0, 0), (0, m)]) (S := []) rfl rfl rfl rfl rfl rfl (by decide) rfl (m_isMan (r := 0) (Or.inl rfl) f2 e2) ?_
  rintro _ _ ⟨rfl, rfl⟩
  refine y_ifeq rfl (fun q6 => ?_) (fun q6 => ?_)
  · skip
    replace q6 := yb_0.mp q6
    refine y_aload rfl rfl rfl ?_
    refine y_vi (as := [(2, 547)]) (S := []) rfl rfl rfl rfl rfl rfl (by decide) rfl (m_badElse (by omega)) ?_
    rintro _ _ ⟨rfl, rfl⟩
    refine y_iret rfl rfl ⟨_, rfl, ?_⟩
    have hK : kfault Z M m = (_, Z, bump M 0) := if_neg (by omega)
    rw [hK]
    exact ⟨rfl, mW_bump hg hx (by omega) rfl, cfr_s (cfr_0 _) (by omega)⟩
  · skip
    replace q6 := yb_1.mp q6
    have ⟨⟨b1, b2, b3, b4⟩, b5, b6, b7, b8⟩ := f6 m (by omega) (by omega)
    have ⟨t1, ⟨t2, t3⟩, t4⟩ := e3 m (by omega) (by omega)
    have d3 := hd.2 m (by omega) (by omega)
    have b5 : σ 548 (26 + m) = Z 0 3 m := b5
    have b70 : σ 548 (23 + m) = 0 ∨ σ 548 (23 + m) = 1 := b7
    have b80 : Z 1 4 m = 0 ↔ ¬ (σ 548 (23 + m) = 1 ∨ Z 0 3 m = 0 ∨ mfl (Z 0) m ≠ -1) := b8
    have b60 : ∀ k, 0 ≤ k → k < Z 0 3 m → σ 548 (29 + 24 * m + k) = msg (Z 0) m k := b6
    refine y_aload rfl rfl rfl ?_
    refine y_push rfl ?_
    refine y_push rfl ?_
    refine y_iload rfl rfl ?_
    refine y_imul (v := (24 * m)) rfl rfl (by omega) ?_
    refine y_iadd (v := (29 + (24 * m))) rfl rfl (by omega) ?_
    refine y_aload rfl rfl rfl ?_
    refine y_gfr (t := 548) rfl rfl (by decide) rfl (by decide) ?_
    refine y_push rfl ?_
    refine y_iload rfl rfl ?_
    refine y_iadd (v := (26 + m)) rfl rfl (by omega) ?_
    refine y_iald (v := (σ 548 (26 + m))) (n := 2108) rfl rfl (by decide) rfl (by omega) rfl ?_
    refine y_vi (as := [(2, 547), (0, (29 + (24 * m))), (0, (σ 548 (26 + m)))]) (S := []) rfl rfl rfl rfl rfl rfl (by decide) rfl (m_faultOf (f := msg (Z 0) m) (n := σ 548 (26 + m)) (fun k k1 k2 => b60 k k1 (by omega)) (by omega) (by omega)) ?_
    rintro _ _ ⟨rfl, rfl⟩
    have hb : bflaw (msg (Z 0) m) (σ 548 (26 + m)).toNat = mfl (Z 0) m := by rw [b5]
    refine y_goto rfl ?_
    refine y_iret rfl rfl ⟨_, rfl, ?_⟩
    have hK : kfault Z M m = (mfl (Z 0) m, Z, M) := if_pos (by omega)
    rw [hK]
    exact ⟨hb, hx, cfr_0 _⟩
