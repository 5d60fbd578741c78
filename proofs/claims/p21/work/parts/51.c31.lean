theorem rm_slp {σ τ : YS} {m n : Int} {f : Int → Int} {E D : YS} (he : eG E) (hr : rm σ E D) (hm : 0 ≤ m ∧ m < E 1 0) (e : ∀ x y, x ≠ 562 → ¬ ((x = 557 ∨ x = 558 ∨ x = 559) ∧ y = m) → ¬ ((x = 560 ∨ x = 561) ∧ 25 * m ≤ y ∧ y ≤ 25 * m + 24) → τ x y = σ x y) (hn : τ 559 m = n) (hf : ∀ k, 0 ≤ k → k < n → τ 560 (25 * m + k) = f k) {p st : Int} (hp : τ 557 m = p) (hs : τ 558 m = st) (ha : st = 0 → ∀ k, 0 ≤ k → k < n → f k = 7 ∨ f k = 8 → τ 561 (25 * m + k) = bp f n.toNat k) : rm τ (slpE E m f n) (slpD D m p st) := by
  have hm0 := he.2.1
  obtain ⟨⟨h1, h2, h4⟩, h5, h6, h7⟩ := hr
  have d : ∀ r c, r ≠ 3 ∧ r ≠ 4 ∨ c ≠ m → slpD D m p st r c = D r c := fun r c z => by unfold slpD; rw [yne (by omega) rfl, yne (by omega) rfl]
  unfold rm
  rw [slpE_g (by omega) (by omega), slpE_g (r := 1) (by omega) (by omega), d 5 0 (by omega)]
  refine ⟨⟨by rw [e _ _ (by omega) (by omega) (by omega)]; exact h1, by rw [e _ _ (by omega) (by omega) (by omega)]; exact h2, by rw [e _ _ (by omega) (by omega) (by omega)]; exact h4⟩, fun c a b => by rw [d 0 c (by omega), e _ _ (by omega) (by omega) (by omega)]; exact h5 c a b, fun i a b => ?_, fun q a b => ?_⟩
  · obtain ⟨⟨g1, g2, g3, g4⟩, ⟨g5, g6⟩, g7, g8⟩ := h6 i a b
    by_cases z : i = m
    · subst z
      unfold rmi
      rw [slpE_3 a, slpE_g (by omega) (by omega), d 1 i (by omega), d 2 i (by omega)]
      refine ⟨⟨by rw [e _ _ (by omega) (by omega) (by omega)]; exact g1, by rw [e _ _ (by omega) (by omega) (by omega)]; exact g2, ?_, ?_⟩, ⟨hn, by rw [e _ _ (by omega) (by omega) (by omega)]; exact g6⟩, fun k x y => ?_, fun q k x y w => ?_⟩
      · unfold slpD; rw [yne (by omega) rfl, yeq]; exact hp
      · unfold slpD; rw [yeq]; exact hs
      · rw [hf k x y]; show f k = slpE E i f n (10 + i) k; rw [slpE_s]
      · have w : f k = 7 ∨ f k = 8 := by have : msg (slpE E i f n) i k = f k := by show slpE E i f n (10 + i) k = _; rw [slpE_s]
                                         rw [this] at w; exact w
        have q : st = 0 := by unfold slpD at q; rw [yeq] at q; exact q
        rw [ha q k x y w]
        show _ = bp (slpE E i f n (10 + i)) (slpE E i f n 3 i).toNat k
        rw [slpE_s, slpE_3 a]
    · have m1 : msg (slpE E m f n) i = msg E i := by funext k; exact slpE_g (by omega) (by omega)
      have h3 := (he.2.2 i a b).2.1
      unfold rmi mpa mlen
      rw [m1, slpE_g (r := 3) (by omega) (by omega), slpE_g (r := 2) (by omega) (by omega), d 1 i (by omega), d 2 i (by omega), d 3 i (by omega), d 4 i (by omega)]
      refine ⟨⟨?_, ?_, ?_, ?_⟩, ⟨?_, ?_⟩, fun k x y => ?_, fun q k x y w => ?_⟩
      · rw [e _ _ (by omega) (by omega) (by omega)]; exact g1
      · rw [e _ _ (by omega) (by omega) (by omega)]; exact g2
      · rw [e _ _ (by omega) (by omega) (by omega)]; exact g3
      · rw [e _ _ (by omega) (by omega) (by omega)]; exact g4
      · rw [e _ _ (by omega) (by omega) (by omega)]; exact g5
      · rw [e _ _ (by omega) (by omega) (by omega)]; exact g6
      · rw [e _ _ (by omega) (by omega) (by omega)]; exact g7 k x y
      · rw [e _ _ (by omega) (by omega) (by omega)]; exact g8 q k x y w
  · rw [e _ _ (by omega) (by omega) (by omega)]
    have : mth (slpE E m f n) q ↔ mth E q := by unfold mth; rw [slpE_g (by omega) (by omega)]
    rw [this]
    exact h7 q a b
theorem lm_ended2 {g : Launch × XG × va_G} {σ : YS}   : ∀ (nn : Nat) (k : Int) (d : Int), 3 - k < (nn : Int) → (0 ≤ k ∧ k ≤ 3) → (d = 0 ∨ d = 1) → YW g 132 43 [some (2, 547), some (0, d), some (0, k)] [] σ (fun rv σ' => ∃ b, rv = some (0, b) ∧ ((b = 0 ∨ b = 1) ∧ σ = σ')) := by
  intro nn
  induction nn with
  | zero =>
    intro k d hn h0 h1
    exfalso
    omega
  | succ nn ih =>
    intro k d hn h0 h1
    refine y_iload rfl rfl ?_
    refine y_push rfl ?_
    refine y_icge rfl (fun q45 => ?_) (fun q45 => ?_)
    · skip
      refine y_iload rfl rfl ?_
      refine y_zret rfl rfl (by omega) ⟨_, rfl, ?_⟩
      exact ⟨h1, rfl⟩
    · skip
      refine y_iload rfl rfl ?_
      refine y_ifeq rfl (fun q49 => ?_) (fun q49 => ?_)
      · skip
        refine y_push rfl ?_
        refine y_istore (L' := [some (2, 547), some (0, 0), some (0, k)]) rfl rfl rfl rfl ?_
        refine y_iinc (L' := [some (2, 547), some (0, 0), some (0, (k + 1))]) rfl rfl rfl rfl rfl (by omega) ?_
        refine y_goto rfl ?_
        exact ih (k + 1) _ (by omega) (by omega) (by omega)
      · skip
        refine y_aload rfl rfl rfl ?_
        refine y_gfr (t := 565) rfl rfl (by decide) rfl (by decide) ?_
        refine y_push rfl ?_
        refine y_iload rfl rfl ?_
        refine y_iadd (v := (9 + k)) rfl rfl (by omega) ?_
        refine y_iald (v := (σ 565 (9 + k))) (n := 15) rfl rfl (by decide) rfl (by omega) rfl ?_
        refine y_aload rfl rfl rfl ?_
        refine y_gfr (t := 555) rfl rfl (by decide) rfl (by decide) ?_
        refine y_iload rfl rfl ?_
        refine y_iald (v := (σ 555 k)) (n := 3) rfl rfl (by decide) rfl (by omega) rfl ?_
        refine y_icne rfl (fun q67 => ?_) (fun q67 => ?_)
        · skip
          refine y_push rfl ?_
          refine y_istore (L' := [some (2, 547), some (0, 0), some (0, k)]) rfl rfl rfl rfl ?_
          refine y_iinc (L' := [some (2, 547), some (0, 0), some (0, (k + 1))]) rfl rfl rfl rfl rfl (by omega) ?_
          refine y_goto rfl ?_
          exact ih (k + 1) _ (by omega) (by omega) (by omega)
        · skip
          refine y_aload rfl rfl rfl ?_
          refine y_gfr (t := 565) rfl rfl (by decide) rfl (by decide) ?_
          refine y_push rfl ?_
          refine y_iload rfl rfl ?_
          refine y_iadd (v := (12 + k)) rfl rfl (by omega) ?_
          refine y_iald (v := (σ 565 (12 + k))) (n := 15) rfl rfl (by decide) rfl (by omega) rfl ?_
          refine y_aload rfl rfl rfl ?_
          refine y_gfr (t := 556) rfl rfl (by decide) rfl (by decide) ?_
          refine y_iload rfl rfl ?_
          refine y_iald (v := (σ 556 k)) (n := 3) rfl rfl (by decide) rfl (by omega) rfl ?_
          refine y_icne rfl (fun q85 => ?_) (fun q85 => ?_)
          · skip
            refine y_push rfl ?_
            refine y_istore (L' := [some (2, 547), some (0, 0), some (0, k)]) rfl rfl rfl rfl ?_
            refine y_iinc (L' := [some (2, 547), some (0, 0), some (0, (k + 1))]) rfl rfl rfl rfl rfl (by omega) ?_
            refine y_goto rfl ?_
            exact ih (k + 1) _ (by omega) (by omega) (by omega)
          · skip
            refine y_push rfl ?_
            refine y_goto rfl ?_
            refine y_istore (L' := [some (2, 547), some (0, 1), some (0, k)]) rfl rfl rfl rfl ?_
            refine y_iinc (L' := [some (2, 547), some (0, 1), some (0, (k + 1))]) rfl rfl rfl rfl rfl (by omega) ?_
            refine y_goto rfl ?_
            exact ih (k + 1) _ (by omega) (by omega) (by omega)
theorem lm_ended1 {g : Launch × XG × va_G} {σ : YS}   : ∀ (nn : Nat) (k : Int) (d : Int), 9 - k < (nn : Int) → (0 ≤ k ∧ k ≤ 9) → (d = 0 ∨ d = 1) → YW g 132 4 [some (2, 547), some (0, d), some (0, k)] [] σ (fun rv σ' => ∃ b, rv = some (0, b) ∧ ((b = 0 ∨ b = 1) ∧ σ = σ')) := by
  intro nn
  induction nn with
  | zero =>
    intro k d hn h0 h1
    exfalso
    omega
  | succ nn ih =>
    intro k d hn h0 h1
    refine y_iload rfl rfl ?_
    refine y_push rfl ?_
    refine y_icge rfl (fun q7 => ?_) (fun q7 => ?_)
    · skip
      refine y_push rfl ?_
      refine y_istore (L' := [some (2, 547), some (0, d), some (0, 0)]) rfl rfl rfl rfl ?_
      exact lm_ended2 4 0 _ (by omega) (by omega) h1
    · skip
      refine y_iload rfl rfl ?_
      refine y_ifeq rfl (fun q11 => ?_) (fun q11 => ?_)
      · skip
        refine y_push rfl ?_
        refine y_istore (L' := [some (2, 547), some (0, 0), some (0, k)]) rfl rfl rfl rfl ?_
        refine y_iinc (L' := [some (2, 547), some (0, 0), some (0, (k + 1))]) rfl rfl rfl rfl rfl (by omega) ?_
        refine y_goto rfl ?_
        exact ih (k + 1) _ (by omega) (by omega) (by omega)
      · skip
        refine y_aload rfl rfl rfl ?_
        refine y_gfr (t := 565) rfl rfl (by decide) rfl (by decide) ?_
        refine y_iload rfl rfl ?_
        refine y_iald (v := (σ 565 k)) (n := 15) rfl rfl (by decide) rfl (by omega) rfl ?_
        refine y_aload rfl rfl rfl ?_
        refine y_gfr (t := 554) rfl rfl (by decide) rfl (by decide) ?_
        refine y_iload rfl rfl ?_
        refine y_iald (v := (σ 554 k)) (n := 9) rfl rfl (by decide) rfl (by omega) rfl ?_
        refine y_icne rfl (fun q26 => ?_) (fun q26 => ?_)
        · skip
          refine y_push rfl ?_
          refine y_istore (L' := [some (2, 547), some (0, 0), some (0, k)]) rfl rfl rfl rfl ?_
          refine y_iinc (L' := [some (2, 547), some (0, 0), some (0, (k + 1))]) rfl rfl rfl rfl rfl (by omega) ?_
          refine y_goto rfl ?_
          exact ih (k + 1) _ (by omega) (by omega) (by omega)
        · skip
          refine y_push rfl ?_
          refine y_goto rfl ?_
          refine y_istore (L' := [some (2, 547), some (0, 1), some (0, k)]) rfl rfl rfl rfl ?_
          refine y_iinc (L' := [some (2, 547), some (0, 1), some (0, (k + 1))]) rfl rfl rfl rfl rfl (by omega) ?_
          refine y_goto rfl ?_
          exact ih (k + 1) _ (by omega) (by omega) (by omega)
theorem m_isEnded {g : Launch × XG × va_G} {σ : YS}   : YI g 132 [(2, 547)] σ (fun b σ' => (b = 0 ∨ b = 1) ∧ σ = σ') := by
  refine y_start rfl rfl rfl ?_
  refine y_push rfl ?_
  refine y_istore (L' := [some (2, 547), some (0, 1), none]) rfl rfl rfl rfl ?_
  refine y_push rfl ?_
  refine y_istore (L' := [some (2, 547), some (0, 1), some (0, 0)]) rfl rfl rfl rfl ?_
  exact lm_ended1 10 0 1 (by omega) (by omega) (by omega)
theorem lm_keepEnd2 {g : Launch × XG × va_G} {σ : YS}   : ∀ (nn : Nat) (τ : YS) (k : Int), 3 - k < (nn : Int) → (0 ≤ k ∧ k ≤ 3) → (∀ x y, x ≠ 565 → τ x y = σ x y) → YW g 133 28 [some (2, 547), some (0, k)] [] τ (fun rv σ' => rv = none ∧ (∀ x y, x ≠ 565 → σ' x y = σ x y)) := by
  intro nn
  induction nn with
  | zero =>
    intro τ k hn h0 h1
    exfalso
    omega
  | succ nn ih =>
    intro τ k hn h0 h1
    refine y_iload rfl rfl ?_
    refine y_push rfl ?_
    refine y_icge rfl (fun q30 => ?_) (fun q30 => ?_)
    · skip
      refine y_ret rfl rfl ⟨rfl, ?_⟩
      exact h1
    · skip
      refine y_aload rfl rfl rfl ?_
      refine y_gfr (t := 565) rfl rfl (by decide) rfl (by decide) ?_
      refine y_push rfl ?_
      refine y_iload rfl rfl ?_
      refine y_iadd (v := (9 + k)) rfl rfl (by omega) ?_
      refine y_aload rfl rfl rfl ?_
      refine y_gfr (t := 555) rfl rfl (by decide) rfl (by decide) ?_
      refine y_iload rfl rfl ?_
      refine y_iald (v := (τ 555 k)) (n := 3) rfl rfl (by decide) rfl (by omega) rfl ?_
      refine y_iast (n := 15) rfl rfl (by decide) rfl (by omega) ?_
      refine y_aload rfl rfl rfl ?_
      refine y_gfr (t := 565) rfl rfl (by decide) rfl (by decide) ?_
      refine y_push rfl ?_
      refine y_iload rfl rfl ?_
      refine y_iadd (v := (12 + k)) rfl rfl (by omega) ?_
      refine y_aload rfl rfl rfl ?_
      refine y_gfr (t := 556) rfl rfl (by decide) rfl (by decide) ?_
      refine y_iload rfl rfl ?_
      refine y_iald (v := (τ 556 k)) (n := 3) rfl rfl (by decide) rfl (by omega) (yne (by omega) rfl) ?_
      refine y_iast (n := 15) rfl rfl (by decide) rfl (by omega) ?_
      refine y_iinc (L' := [some (2, 547), some (0, (k + 1))]) rfl rfl rfl rfl rfl (by omega) ?_
      refine y_goto rfl ?_
      exact ih (yset (yset τ 565 (9 + k) (τ 555 k)) 565 (12 + k) (τ 556 k)) (k + 1) (by omega) (by omega) (fun x y a => by rw [yne (by omega) rfl, yne (by omega) rfl]; exact h1 x y a)
theorem lm_keepEnd1 {g : Launch × XG × va_G} {σ : YS}   : ∀ (nn : Nat) (τ : YS) (k : Int), 9 - k < (nn : Int) → (0 ≤ k ∧ k ≤ 9) → (∀ x y, x ≠ 565 → τ x y = σ x y) → YW g 133 2 [some (2, 547), some (0, k)] [] τ (fun rv σ' => rv = none ∧ (∀ x y, x ≠ 565 → σ' x y = σ x y)) := by
  intro nn
  induction nn with
  | zero =>
    intro τ k hn h0 h1
    exfalso
    omega
  | succ nn ih =>
    intro τ k hn h0 h1
    refine y_iload rfl rfl ?_
    refine y_push rfl ?_
    refine y_icge rfl (fun q5 => ?_) (fun q5 => ?_)
    · skip
      refine y_push rfl ?_
      refine y_istore (L' := [some (2, 547), some (0, 0)]) rfl rfl rfl rfl ?_
      exact lm_keepEnd2 4 τ 0 (by omega) (by omega) h1
    · skip
      refine y_aload rfl rfl rfl ?_
      refine y_gfr (t := 565) rfl rfl (by decide) rfl (by decide) ?_
      refine y_iload rfl rfl ?_
      refine y_aload rfl rfl rfl ?_
      refine y_gfr (t := 554) rfl rfl (by decide) rfl (by decide) ?_
      refine y_iload rfl rfl ?_
      refine y_iald (v := (τ 554 k)) (n := 9) rfl rfl (by decide) rfl (by omega) rfl ?_
      refine y_iast (n := 15) rfl rfl (by decide) rfl (by omega) ?_
      refine y_iinc (L' := [some (2, 547), some (0, (k + 1))]) rfl rfl rfl rfl rfl (by omega) ?_
      refine y_goto rfl ?_
      exact ih (yset τ 565 k (τ 554 k)) (k + 1) (by omega) (by omega) (fun x y a => by rw [yne (by omega) rfl]; exact h1 x y a)
theorem m_keepEnd {g : Launch × XG × va_G} {σ : YS}   : YU g 133 [(2, 547)] σ (fun σ' => ∀ x y, x ≠ 565 → σ' x y = σ x y) := by
  refine y_start rfl rfl rfl ?_
  refine y_push rfl ?_
  refine y_istore (L' := [some (2, 547), some (0, 0)]) rfl rfl rfl rfl ?_
  exact lm_keepEnd1 10 σ 0 (by omega) (by omega) (fun _ _ _ => rfl)
theorem lm_rubbed {g : Launch × XG × va_G} {σ : YS} {Z : YZ} {I : Int → YZ} {M : YS} {N : Int} {m i : Int}{e : Int} {s3 : YS} (hr3 : rm s3 (Z 0) (Z 1)) (hf3 : mfs σ s3) (hx : mW σ Z I M) (hg : wG Z I M N) (hN : N < 100000) (hm : 0 ≤ m ∧ m < Z 0 1 0) (hi : 0 ≤ i ∧ i < Z 0 3 m) : ∀ (nn : Nat) (τ : YS) (k : Int), Z 0 3 m - 1 - k < (nn : Int) → (i ≤ k ∧ k ≤ Z 0 3 m - 1) → ((∀ j, 0 ≤ j → j < i → τ 560 (25 * m + j) = msg (Z 0) m j) ∧ (∀ j, i ≤ j → j < k → τ 560 (25 * m + j) = msg (Z 0) m (j + 1)) ∧ ∀ j, k ≤ j → j < Z 0 3 m → τ 560 (25 * m + j) = msg (Z 0) m j) → (∀ x y, x ≠ 560 ∨ y < 25 * m ∨ 25 * m + 24 < y → τ x y = s3 x y) → YW g 134 29 [some (2, 547), some (0, m), some (0, i), some (0, e), some (0, k)] [] τ (fun rv σ' => ∃ b, rv = some (0, b) ∧ (mfs σ σ')) := by
  intro nn
  induction nn with
  | zero =>
    intro τ k hn h0 h1 h2
    exfalso
    omega
  | succ nn ih =>
    intro τ k hn h0 h1 h2
    have e2 := hg.1.1.2.1
    have ⟨⟨b1, b2, b3, b4⟩, ⟨b5, b6⟩, b7, b8⟩ := hr3.2.2.1 m (by omega) (by omega)
    have ⟨⟨t1, t2⟩, ⟨t3, t4⟩, t5⟩ := hg.1.1.2.2 m (by omega) (by omega)
    have ⟨dm1, dm2, dm3, dm4⟩ := hg.1.2.1.2 m (by omega) (by omega)
    have t59 : τ 559 m = Z 0 3 m := (h2 _ _ (by omega)).trans b5
    have t57 : τ 557 m = Z 1 3 m := (h2 _ _ (by omega)).trans b3
    have w23 : σ 548 (23 + m) = 0 ∨ σ 548 (23 + m) = 1 := (hx.1.1.2.2.1 m (by omega) (by omega)).2.2.2.1
    have q23 : τ 548 (23 + m) = σ 548 (23 + m) := (h2 _ _ (by omega)).trans (hf3 _ _ (by omega))
    have hn5 := hg.1.2.2.1
    refine y_iload rfl rfl ?_
    refine y_aload rfl rfl rfl ?_
    refine y_gfr (t := 559) rfl rfl (by decide) rfl (by decide) ?_
    refine y_iload rfl rfl ?_
    refine y_iald (v := (τ 559 m)) (n := 3) rfl rfl (by decide) rfl (by omega) rfl ?_
    refine y_push rfl ?_
    refine y_isub (v := ((τ 559 m) - 1)) rfl rfl (by omega) ?_
    refine y_icge rfl (fun q39 => ?_) (fun q39 => ?_)
    · skip
      refine y_aload rfl rfl rfl ?_
      refine y_gfr (t := 559) rfl rfl (by decide) rfl (by decide) ?_
      refine y_iload rfl rfl ?_
      refine y_dup2 rfl rfl rfl ?_
      refine y_iald (v := (τ 559 m)) (n := 3) rfl rfl (by decide) rfl (by omega) rfl ?_
      refine y_push rfl ?_
      refine y_isub (v := ((τ 559 m) - 1)) rfl rfl (by omega) ?_
      refine y_iast (n := 3) rfl rfl (by decide) rfl (by omega) ?_
      refine y_aload rfl rfl rfl ?_
      refine y_gfr (t := 557) rfl rfl (by decide) rfl (by decide) ?_
      refine y_iload rfl rfl ?_
      refine y_dup2 rfl rfl rfl ?_
      refine y_iald (v := (τ 557 m)) (n := 3) rfl rfl (by decide) rfl (by omega) (yne (by omega) rfl) ?_
      refine y_aload rfl rfl rfl ?_
      refine y_gfr (t := 557) rfl rfl (by decide) rfl (by decide) ?_
      refine y_iload rfl rfl ?_
      refine y_iald (v := (τ 557 m)) (n := 3) rfl rfl (by decide) rfl (by omega) (yne (by omega) rfl) ?_
      refine y_iload rfl rfl ?_
      refine y_icle rfl (fun q98 => ?_) (fun q98 => ?_)
      · skip
        refine y_push rfl ?_
        refine y_isub (v := ((τ 557 m) - 0)) rfl rfl (by omega) ?_
        refine y_iast (n := 3) rfl rfl (by decide) rfl (by omega) ?_
        refine y_aload rfl rfl rfl ?_
        refine y_iload rfl rfl ?_
        have y1 : ∀ j, 0 ≤ j → j < Z 0 3 m - 1 → (yset (yset τ 559 m ((τ 559 m) - 1)) 557 m ((τ 557 m) - 0)) 560 (25 * m + j) = wout (msg (Z 0) m) i j := fun j x y => by
          unfold wout
          rw [yne (by omega) rfl, yne (by omega) rfl]
          split
          · exact h1.1 j x (by omega)
          · exact h1.2.1 j (by omega) (by omega)
        refine y_vi (as := [(2, 547), (0, m)]) (S := []) rfl rfl rfl rfl rfl rfl (by decide) rfl (m_layAgainst (n := Z 0 3 m - 1) (f := wout (msg (Z 0) m) i) (by omega) (by rw [yne (by omega) rfl, yeq, t59]) (by omega) y1) ?_
        rintro b_ s4 ⟨a0, a3⟩
        have f4 : mfs σ s4 := fun x y a => by rw [a3 x y (by omega) (by omega), yne (by omega) rfl, yne (by omega) rfl, h2 x y (by omega)]; exact hf3 x y (by omega)
        have s59 : s4 559 m = Z 0 3 m - 1 := by rw [a3 _ _ (by omega) (by omega), yne (by omega) rfl, yeq, t59]
        have s57 : s4 557 m = ((τ 557 m) - 0) := by rw [a3 _ _ (by omega) (by omega), yeq]
        have s23 : s4 548 (23 + m) = σ 548 (23 + m) := f4 _ _ (by omega)
        have s0 : ∀ x y, x ≠ 562 → ¬ ((x = 557 ∨ x = 558 ∨ x = 559) ∧ y = m) → ¬ ((x = 560 ∨ x = 561) ∧ 25 * m ≤ y ∧ y ≤ 25 * m + 24) → s4 x y = s3 x y := fun x y a b c => by rw [a3 x y a (by omega), yne (by omega) rfl, yne (by omega) rfl]; exact h2 x y (by omega)
        have s60 : ∀ j, 0 ≤ j → j < Z 0 3 m - 1 → s4 560 (25 * m + j) = wout (msg (Z 0) m) i j := fun j x y => by rw [a3 _ _ (by omega) (by omega)]; exact y1 j x y
        refine y_ifne rfl (fun q113 => ?_) (fun q113 => ?_)
        · skip
          refine y_aload rfl rfl rfl ?_
          refine y_gfr (t := 558) rfl rfl (by decide) rfl (by decide) ?_
          refine y_iload rfl rfl ?_
          refine y_aload rfl rfl rfl ?_
          refine y_gfr (t := 559) rfl rfl (by decide) rfl (by decide) ?_
          refine y_iload rfl rfl ?_
          refine y_iald (v := (s4 559 m)) (n := 3) rfl rfl (by decide) rfl (by omega) rfl ?_
          refine y_ifne rfl (fun q129 => ?_) (fun q129 => ?_)
          · skip
            refine y_aload rfl rfl rfl ?_
            refine y_gfr (t := 548) rfl rfl (by decide) rfl (by decide) ?_
            refine y_push rfl ?_
            refine y_iload rfl rfl ?_
            refine y_iadd (v := (23 + m)) rfl rfl (by omega) ?_
            refine y_iald (v := (s4 548 (23 + m))) (n := 2108) rfl rfl (by decide) rfl (by omega) rfl ?_
            refine y_iast (n := 3) rfl rfl (by decide) rfl (by omega) ?_
            refine y_aload rfl rfl rfl ?_
            have ⟨a1, a2⟩ : bflaw (wout (msg (Z 0) m) i) (Z 0 3 m - 1).toNat = -1 ∧ ∀ k, 0 ≤ k → k < Z 0 3 m - 1 → wout (msg (Z 0) m) i k = 7 ∨ wout (msg (Z 0) m) i k = 8 → s4 561 (25 * m + k) = bp (wout (msg (Z 0) m) i) (Z 0 3 m - 1).toNat k := by
              rcases a0 with ⟨_, z1, z2⟩ | ⟨z, _⟩
              · exact ⟨z1, z2⟩
              · omega
            have hst : (s4 548 (23 + m)) = 0 ∧ 0 < Z 0 3 m - 1 ∨ (s4 548 (23 + m)) = 1 := by omega
            have r5 : rm (yset s4 558 m (s4 548 (23 + m))) (slpE (Z 0) m (wout (msg (Z 0) m) i) (Z 0 3 m - 1)) (slpD (Z 1) m (s4 557 m) (s4 548 (23 + m))) := rm_slp hg.1.1 hr3 hm (fun x y a b c => by rw [yne (by omega) rfl]; exact s0 x y a b c) (by rw [yne (by omega) rfl]; exact s59) (fun j x y => by rw [yne (by omega) rfl]; exact s60 j x y) (yne (by omega) rfl) (yeq _ _ _ _) (fun _ k x y z => by rw [yne (by omega) rfl]; exact a2 k x y z)
            have g5 := eG_slp (f := wout (msg (Z 0) m) i) (n := Z 0 3 m - 1) hg.1.1 hm (by omega) (fun k k1 k2 => by unfold wout; split; exact t5 k k1 (by omega); exact t5 (k + 1) (by omega) (by omega))
            have g6 := dG_slp (f := wout (msg (Z 0) m) i) (n := Z 0 3 m - 1) (p := s4 557 m) (st := (s4 548 (23 + m))) hg.1.2.1 hg.1.1 hm (by omega) (by omega)
            refine y_vi (as := [(2, 547)]) (S := []) rfl rfl rfl rfl rfl rfl (by decide) rfl (m_goToStop r5 g5 g6 (by unfold slpD; rw [yne (by omega) rfl, yne (by omega) rfl]; omega)) ?_
            rintro c_ s5 ⟨z1, z2, z3, z4⟩
            have f5 : mfs σ s5 := mfs_t (mfs_s f4 (by omega)) (rfr_m z3)
            refine y_push rfl ?_
            refine y_icne rfl (fun q151 => ?_) (fun q151 => ?_)
            · skip
              refine y_iload rfl rfl ?_
              refine y_ifeq rfl (fun q157 => ?_) (fun q157 => ?_)
              · skip
                refine y_push rfl ?_
                refine y_iret rfl rfl ⟨_, rfl, ?_⟩
                exact f5
              · skip
                refine y_aload rfl rfl rfl ?_
                refine y_vi (as := [(2, 547)]) (S := []) rfl rfl rfl rfl rfl rfl (by decide) rfl m_isEnded ?_
                rintro d_ _ ⟨hd_, rfl⟩
                refine y_ifeq rfl (fun q164 => ?_) (fun q164 => ?_)
                · skip
                  refine y_push rfl ?_
                  refine y_iret rfl rfl ⟨_, rfl, ?_⟩
                  exact f5
                · skip
                  refine y_push rfl ?_
                  refine y_goto rfl ?_
                  refine y_iret rfl rfl ⟨_, rfl, ?_⟩
                  exact f5
            · skip
              refine y_push rfl ?_
              refine y_iret rfl rfl ⟨_, rfl, ?_⟩
              exact f5
          · skip
            refine y_push rfl ?_
            refine y_goto rfl ?_
            refine y_iast (n := 3) rfl rfl (by decide) rfl (by omega) ?_
            refine y_aload rfl rfl rfl ?_
            have ⟨a1, a2⟩ : bflaw (wout (msg (Z 0) m) i) (Z 0 3 m - 1).toNat = -1 ∧ ∀ k, 0 ≤ k → k < Z 0 3 m - 1 → wout (msg (Z 0) m) i k = 7 ∨ wout (msg (Z 0) m) i k = 8 → s4 561 (25 * m + k) = bp (wout (msg (Z 0) m) i) (Z 0 3 m - 1).toNat k := by
              rcases a0 with ⟨_, z1, z2⟩ | ⟨z, _⟩
              · exact ⟨z1, z2⟩
              · omega
            have hst : 1 = 0 ∧ 0 < Z 0 3 m - 1 ∨ 1 = 1 := by omega
            have r5 : rm (yset s4 558 m 1) (slpE (Z 0) m (wout (msg (Z 0) m) i) (Z 0 3 m - 1)) (slpD (Z 1) m (s4 557 m) 1) := rm_slp hg.1.1 hr3 hm (fun x y a b c => by rw [yne (by omega) rfl]; exact s0 x y a b c) (by rw [yne (by omega) rfl]; exact s59) (fun j x y => by rw [yne (by omega) rfl]; exact s60 j x y) (yne (by omega) rfl) (yeq _ _ _ _) (fun _ k x y z => by rw [yne (by omega) rfl]; exact a2 k x y z)
            have g5 := eG_slp (f := wout (msg (Z 0) m) i) (n := Z 0 3 m - 1) hg.1.1 hm (by omega) (fun k k1 k2 => by unfold wout; split; exact t5 k k1 (by omega); exact t5 (k + 1) (by omega) (by omega))
            have g6 := dG_slp (f := wout (msg (Z 0) m) i) (n := Z 0 3 m - 1) (p := s4 557 m) (st := 1) hg.1.2.1 hg.1.1 hm (by omega) (by omega)
            refine y_vi (as := [(2, 547)]) (S := []) rfl rfl rfl rfl rfl rfl (by decide) rfl (m_goToStop r5 g5 g6 (by unfold slpD; rw [yne (by omega) rfl, yne (by omega) rfl]; omega)) ?_
            rintro c_ s5 ⟨z1, z2, z3, z4⟩
            have f5 : mfs σ s5 := mfs_t (mfs_s f4 (by omega)) (rfr_m z3)
            refine y_push rfl ?_
            refine y_icne rfl (fun q151 => ?_) (fun q151 => ?_)
            · skip
              refine y_iload rfl rfl ?_
              refine y_ifeq rfl (fun q157 => ?_) (fun q157 => ?_)
              · skip
                refine y_push rfl ?_
                refine y_iret rfl rfl ⟨_, rfl, ?_⟩
                exact f5
              · skip
                refine y_aload rfl rfl rfl ?_
                refine y_vi (as := [(2, 547)]) (S := []) rfl rfl rfl rfl rfl rfl (by decide) rfl m_isEnded ?_
                rintro d_ _ ⟨hd_, rfl⟩
                refine y_ifeq rfl (fun q164 => ?_) (fun q164 => ?_)
                · skip
                  refine y_push rfl ?_
                  refine y_iret rfl rfl ⟨_, rfl, ?_⟩
                  exact f5
                · skip
                  refine y_push rfl ?_
                  refine y_goto rfl ?_
                  refine y_iret rfl rfl ⟨_, rfl, ?_⟩
                  exact f5
            · skip
              refine y_push rfl ?_
              refine y_iret rfl rfl ⟨_, rfl, ?_⟩
              exact f5
        · skip
          refine y_push rfl ?_
          refine y_iret rfl rfl ⟨_, rfl, ?_⟩
          exact f4
      · skip
        refine y_push rfl ?_
        refine y_goto rfl ?_
        refine y_isub (v := ((τ 557 m) - 1)) rfl rfl (by omega) ?_
        refine y_iast (n := 3) rfl rfl (by decide) rfl (by omega) ?_
        refine y_aload rfl rfl rfl ?_
        refine y_iload rfl rfl ?_
        have y1 : ∀ j, 0 ≤ j → j < Z 0 3 m - 1 → (yset (yset τ 559 m ((τ 559 m) - 1)) 557 m ((τ 557 m) - 1)) 560 (25 * m + j) = wout (msg (Z 0) m) i j := fun j x y => by
          unfold wout
          rw [yne (by omega) rfl, yne (by omega) rfl]
          split
          · exact h1.1 j x (by omega)
          · exact h1.2.1 j (by omega) (by omega)
        refine y_vi (as := [(2, 547), (0, m)]) (S := []) rfl rfl rfl rfl rfl rfl (by decide) rfl (m_layAgainst (n := Z 0 3 m - 1) (f := wout (msg (Z 0) m) i) (by omega) (by rw [yne (by omega) rfl, yeq, t59]) (by omega) y1) ?_
        rintro b_ s4 ⟨a0, a3⟩
        have f4 : mfs σ s4 := fun x y a => by rw [a3 x y (by omega) (by omega), yne (by omega) rfl, yne (by omega) rfl, h2 x y (by omega)]; exact hf3 x y (by omega)
        have s59 : s4 559 m = Z 0 3 m - 1 := by rw [a3 _ _ (by omega) (by omega), yne (by omega) rfl, yeq, t59]
        have s57 : s4 557 m = ((τ 557 m) - 1) := by rw [a3 _ _ (by omega) (by omega), yeq]
        have s23 : s4 548 (23 + m) = σ 548 (23 + m) := f4 _ _ (by omega)
        have s0 : ∀ x y, x ≠ 562 → ¬ ((x = 557 ∨ x = 558 ∨ x = 559) ∧ y = m) → ¬ ((x = 560 ∨ x = 561) ∧ 25 * m ≤ y ∧ y ≤ 25 * m + 24) → s4 x y = s3 x y := fun x y a b c => by rw [a3 x y a (by omega), yne (by omega) rfl, yne (by omega) rfl]; exact h2 x y (by omega)
        have s60 : ∀ j, 0 ≤ j → j < Z 0 3 m - 1 → s4 560 (25 * m + j) = wout (msg (Z 0) m) i j := fun j x y => by rw [a3 _ _ (by omega) (by omega)]; exact y1 j x y
        refine y_ifne rfl (fun q113 => ?_) (fun q113 => ?_)
        · skip
          refine y_aload rfl rfl rfl ?_
          refine y_gfr (t := 558) rfl rfl (by decide) rfl (by decide) ?_
          refine y_iload rfl rfl ?_
          refine y_aload rfl rfl rfl ?_
          refine y_gfr (t := 559) rfl rfl (by decide) rfl (by decide) ?_
          refine y_iload rfl rfl ?_
          refine y_iald (v := (s4 559 m)) (n := 3) rfl rfl (by decide) rfl (by omega) rfl ?_
          refine y_ifne rfl (fun q129 => ?_) (fun q129 => ?_)
          · skip
            refine y_aload rfl rfl rfl ?_
            refine y_gfr (t := 548) rfl rfl (by decide) rfl (by decide) ?_
            refine y_push rfl ?_
            refine y_iload rfl rfl ?_
            refine y_iadd (v := (23 + m)) rfl rfl (by omega) ?_
            refine y_iald (v := (s4 548 (23 + m))) (n := 2108) rfl rfl (by decide) rfl (by omega) rfl ?_
            refine y_iast (n := 3) rfl rfl (by decide) rfl (by omega) ?_
            refine y_aload rfl rfl rfl ?_
            have ⟨a1, a2⟩ : bflaw (wout (msg (Z 0) m) i) (Z 0 3 m - 1).toNat = -1 ∧ ∀ k, 0 ≤ k → k < Z 0 3 m - 1 → wout (msg (Z 0) m) i k = 7 ∨ wout (msg (Z 0) m) i k = 8 → s4 561 (25 * m + k) = bp (wout (msg (Z 0) m) i) (Z 0 3 m - 1).toNat k := by
              rcases a0 with ⟨_, z1, z2⟩ | ⟨z, _⟩
              · exact ⟨z1, z2⟩
              · omega
            have hst : (s4 548 (23 + m)) = 0 ∧ 0 < Z 0 3 m - 1 ∨ (s4 548 (23 + m)) = 1 := by omega
            have r5 : rm (yset s4 558 m (s4 548 (23 + m))) (slpE (Z 0) m (wout (msg (Z 0) m) i) (Z 0 3 m - 1)) (slpD (Z 1) m (s4 557 m) (s4 548 (23 + m))) := rm_slp hg.1.1 hr3 hm (fun x y a b c => by rw [yne (by omega) rfl]; exact s0 x y a b c) (by rw [yne (by omega) rfl]; exact s59) (fun j x y => by rw [yne (by omega) rfl]; exact s60 j x y) (yne (by omega) rfl) (yeq _ _ _ _) (fun _ k x y z => by rw [yne (by omega) rfl]; exact a2 k x y z)
            have g5 := eG_slp (f := wout (msg (Z 0) m) i) (n := Z 0 3 m - 1) hg.1.1 hm (by omega) (fun k k1 k2 => by unfold wout; split; exact t5 k k1 (by omega); exact t5 (k + 1) (by omega) (by omega))
            have g6 := dG_slp (f := wout (msg (Z 0) m) i) (n := Z 0 3 m - 1) (p := s4 557 m) (st := (s4 548 (23 + m))) hg.1.2.1 hg.1.1 hm (by omega) (by omega)
            refine y_vi (as := [(2, 547)]) (S := []) rfl rfl rfl rfl rfl rfl (by decide) rfl (m_goToStop r5 g5 g6 (by unfold slpD; rw [yne (by omega) rfl, yne (by omega) rfl]; omega)) ?_
            rintro c_ s5 ⟨z1, z2, z3, z4⟩
            have f5 : mfs σ s5 := mfs_t (mfs_s f4 (by omega)) (rfr_m z3)
            refine y_push rfl ?_
            refine y_icne rfl (fun q151 => ?_) (fun q151 => ?_)
            · skip
              refine y_iload rfl rfl ?_
              refine y_ifeq rfl (fun q157 => ?_) (fun q157 => ?_)
              · skip
                refine y_push rfl ?_
                refine y_iret rfl rfl ⟨_, rfl, ?_⟩
                exact f5
              · skip
                refine y_aload rfl rfl rfl ?_
                refine y_vi (as := [(2, 547)]) (S := []) rfl rfl rfl rfl rfl rfl (by decide) rfl m_isEnded ?_
                rintro d_ _ ⟨hd_, rfl⟩
                refine y_ifeq rfl (fun q164 => ?_) (fun q164 => ?_)
                · skip
                  refine y_push rfl ?_
                  refine y_iret rfl rfl ⟨_, rfl, ?_⟩
                  exact f5
                · skip
                  refine y_push rfl ?_
                  refine y_goto rfl ?_
                  refine y_iret rfl rfl ⟨_, rfl, ?_⟩
                  exact f5
            · skip
              refine y_push rfl ?_
              refine y_iret rfl rfl ⟨_, rfl, ?_⟩
              exact f5
          · skip
            refine y_push rfl ?_
            refine y_goto rfl ?_
            refine y_iast (n := 3) rfl rfl (by decide) rfl (by omega) ?_
            refine y_aload rfl rfl rfl ?_
            have ⟨a1, a2⟩ : bflaw (wout (msg (Z 0) m) i) (Z 0 3 m - 1).toNat = -1 ∧ ∀ k, 0 ≤ k → k < Z 0 3 m - 1 → wout (msg (Z 0) m) i k = 7 ∨ wout (msg (Z 0) m) i k = 8 → s4 561 (25 * m + k) = bp (wout (msg (Z 0) m) i) (Z 0 3 m - 1).toNat k := by
              rcases a0 with ⟨_, z1, z2⟩ | ⟨z, _⟩
              · exact ⟨z1, z2⟩
              · omega
            have hst : 1 = 0 ∧ 0 < Z 0 3 m - 1 ∨ 1 = 1 := by omega
            have r5 : rm (yset s4 558 m 1) (slpE (Z 0) m (wout (msg (Z 0) m) i) (Z 0 3 m - 1)) (slpD (Z 1) m (s4 557 m) 1) := rm_slp hg.1.1 hr3 hm (fun x y a b c => by rw [yne (by omega) rfl]; exact s0 x y a b c) (by rw [yne (by omega) rfl]; exact s59) (fun j x y => by rw [yne (by omega) rfl]; exact s60 j x y) (yne (by omega) rfl) (yeq _ _ _ _) (fun _ k x y z => by rw [yne (by omega) rfl]; exact a2 k x y z)
            have g5 := eG_slp (f := wout (msg (Z 0) m) i) (n := Z 0 3 m - 1) hg.1.1 hm (by omega) (fun k k1 k2 => by unfold wout; split; exact t5 k k1 (by omega); exact t5 (k + 1) (by omega) (by omega))
            have g6 := dG_slp (f := wout (msg (Z 0) m) i) (n := Z 0 3 m - 1) (p := s4 557 m) (st := 1) hg.1.2.1 hg.1.1 hm (by omega) (by omega)
            refine y_vi (as := [(2, 547)]) (S := []) rfl rfl rfl rfl rfl rfl (by decide) rfl (m_goToStop r5 g5 g6 (by unfold slpD; rw [yne (by omega) rfl, yne (by omega) rfl]; omega)) ?_
            rintro c_ s5 ⟨z1, z2, z3, z4⟩
            have f5 : mfs σ s5 := mfs_t (mfs_s f4 (by omega)) (rfr_m z3)
            refine y_push rfl ?_
            refine y_icne rfl (fun q151 => ?_) (fun q151 => ?_)
            · skip
              refine y_iload rfl rfl ?_
              refine y_ifeq rfl (fun q157 => ?_) (fun q157 => ?_)
              · skip
                refine y_push rfl ?_
                refine y_iret rfl rfl ⟨_, rfl, ?_⟩
                exact f5
              · skip
                refine y_aload rfl rfl rfl ?_
                refine y_vi (as := [(2, 547)]) (S := []) rfl rfl rfl rfl rfl rfl (by decide) rfl m_isEnded ?_
                rintro d_ _ ⟨hd_, rfl⟩
                refine y_ifeq rfl (fun q164 => ?_) (fun q164 => ?_)
                · skip
                  refine y_push rfl ?_
                  refine y_iret rfl rfl ⟨_, rfl, ?_⟩
                  exact f5
                · skip
                  refine y_push rfl ?_
                  refine y_goto rfl ?_
                  refine y_iret rfl rfl ⟨_, rfl, ?_⟩
                  exact f5
            · skip
              refine y_push rfl ?_
              refine y_iret rfl rfl ⟨_, rfl, ?_⟩
              exact f5
        · skip
          refine y_push rfl ?_
          refine y_iret rfl rfl ⟨_, rfl, ?_⟩
          exact f4
    · skip
      refine y_aload rfl rfl rfl ?_
      refine y_gfr (t := 560) rfl rfl (by decide) rfl (by decide) ?_
      refine y_push rfl ?_
      refine y_iload rfl rfl ?_
      refine y_imul (v := (25 * m)) rfl rfl (by omega) ?_
      refine y_iload rfl rfl ?_
      refine y_iadd (v := ((25 * m) + k)) rfl rfl (by omega) ?_
      refine y_aload rfl rfl rfl ?_
      refine y_gfr (t := 560) rfl rfl (by decide) rfl (by decide) ?_
      refine y_push rfl ?_
      refine y_iload rfl rfl ?_
      refine y_imul (v := (25 * m)) rfl rfl (by omega) ?_
      refine y_iload rfl rfl ?_
      refine y_iadd (v := ((25 * m) + k)) rfl rfl (by omega) ?_
      refine y_push rfl ?_
      refine y_iadd (v := (((25 * m) + k) + 1)) rfl rfl (by omega) ?_
      refine y_iald (v := (τ 560 (((25 * m) + k) + 1))) (n := 75) rfl rfl (by decide) rfl (by omega) rfl ?_
      refine y_iast (n := 75) rfl rfl (by decide) rfl (by omega) ?_
      refine y_iinc (L' := [some (2, 547), some (0, m), some (0, i), some (0, e), some (0, (k + 1))]) rfl rfl rfl rfl rfl (by omega) ?_
      refine y_goto rfl ?_
      refine ih (yset τ 560 ((25 * m) + k) (τ 560 (((25 * m) + k) + 1))) (k + 1) (by omega) (by omega) ⟨fun j x y => by rw [yne (by omega) rfl]; exact h1.1 j x y, fun j x y => ?_, fun j x y => by rw [yne (by omega) rfl]; exact h1.2.2 j (by omega) y⟩ (fun x y a => by rw [yne (by omega) rfl]; exact h2 x y a)
      by_cases e_ : j = k
      · subst e_; rw [yeq, show (25 * m + j + 1 : Int) = 25 * m + (j + 1) by omega]; exact h1.2.2 (j + 1) (by omega) (by omega)
      · rw [yne (by omega) rfl]; exact h1.2.1 j x (by omega)
theorem m_rubbedOf {g : Launch × XG × va_G} {σ : YS} {Z : YZ} {I : Int → YZ} {M : YS} {N : Int} {m i : Int} (hx : mW σ Z I M) (hg : wG Z I M N) (hN : N < 100000) (hm : 0 ≤ m ∧ m < Z 0 1 0) (hi : 0 ≤ i ∧ i < Z 0 3 m) : YI g 134 [(2, 547), (0, m), (0, i)] σ (fun b σ' => mfs σ σ') := by
  refine y_start rfl rfl rfl ?_
  have ⟨⟨hz, hu, hur⟩, x2, x3, ⟨x4, x5⟩, x6, x7⟩ := hx
  have ⟨⟨he, hd, hn, hu2, h67, hk⟩, g2, g3, g4⟩ := hg
  have ⟨⟨f1, f2, f3⟩, f5, f6, f7, f8⟩ := hz
  have ⟨e1, e2, e3⟩ := he
  have x60 : σ 551 0 = M 3 0 := x6 0 (by omega) (by omega)
  have x61 : σ 551 1 = M 3 1 := x6 1 (by omega) (by omega)
  have x62 : σ 551 2 = M 3 2 := x6 2 (by omega) (by omega)
  have g40 := g4 0 (by omega) (by omega)
  have g41 := g4 1 (by omega) (by omega)
  have g42 := g4 2 (by omega) (by omega)
  have hu : σ 548 106 = Z 2 0 0 := hu
  have f1 : σ 548 (0 + 0) = Z 0 0 0 := f1
  have f10 : σ 548 0 = Z 0 0 0 := f1
  have f2 : σ 548 (0 + 10) = Z 0 1 0 := f2
  have f20 : σ 548 10 = Z 0 1 0 := f2
  have f30 : σ 548 105 = Z 1 5 0 := f3
  refine y_aload rfl rfl rfl ?_
  refine y_vu (as := [(2, 547)]) (S := []) rfl rfl rfl rfl rfl rfl (by decide) rfl (m_layNow hz hg.1.1 hd h67.1) ?_
  rintro σ1 ⟨l1, l2⟩
  refine y_aload rfl rfl rfl ?_
  refine y_vi (as := [(2, 547)]) (S := []) rfl rfl rfl rfl rfl rfl (by decide) rfl (m_goToStop l1 hg.1.1 hd (by omega)) ?_
  rintro b_ s1 ⟨y1, y2, y3, y4⟩
  refine y_push rfl ?_
  refine y_iceq rfl (fun q9 => ?_) (fun q9 => ?_)
  · skip
    refine y_push rfl ?_
    refine y_istore (L' := [some (2, 547), some (0, m), some (0, i), some (0, 0), none]) rfl rfl rfl rfl ?_
    refine y_aload rfl rfl rfl ?_
    refine y_vu (as := [(2, 547)]) (S := []) rfl rfl rfl rfl rfl rfl (by decide) rfl m_keepEnd ?_
    rintro s2 k1
    refine y_aload rfl rfl rfl ?_
    have fa : mfs σ s2 := mfs_x (x0 := 565) (mfs_t l2 (rfr_m y3)) (by omega) k1
    refine y_vu (as := [(2, 547)]) (S := []) rfl rfl rfl rfl rfl rfl (by decide) rfl (m_layNow (mzs_cong hg.1.1 hz (fun y a b => fa 548 y (by omega))) hg.1.1 hd h67.1) ?_
    rintro s3 ⟨n1, n2⟩
    refine y_iload rfl rfl ?_
    refine y_istore (L' := [some (2, 547), some (0, m), some (0, i), some (0, 0), some (0, i)]) rfl rfl rfl rfl ?_
    have ⟨_, ⟨t3, t4⟩, _⟩ := e3 m (by omega) (by omega)
    refine lm_rubbed n1 (mfs_t fa n2) hx hg hN hm hi 25 s3 i (by omega) (by omega) ⟨fun j x y => ?_, fun j x y => by omega, fun j x y => ?_⟩ (fun x y _ => rfl)
    · exact (n1.2.2.1 m hm.1 hm.2).2.2.1 j x (by omega)
    · exact (n1.2.2.1 m hm.1 hm.2).2.2.1 j (by omega) y
  · skip
    refine y_push rfl ?_
    refine y_goto rfl ?_
    refine y_istore (L' := [some (2, 547), some (0, m), some (0, i), some (0, 1), none]) rfl rfl rfl rfl ?_
    refine y_aload rfl rfl rfl ?_
    refine y_vu (as := [(2, 547)]) (S := []) rfl rfl rfl rfl rfl rfl (by decide) rfl m_keepEnd ?_
    rintro s2 k1
    refine y_aload rfl rfl rfl ?_
    have fa : mfs σ s2 := mfs_x (x0 := 565) (mfs_t l2 (rfr_m y3)) (by omega) k1
    refine y_vu (as := [(2, 547)]) (S := []) rfl rfl rfl rfl rfl rfl (by decide) rfl (m_layNow (mzs_cong hg.1.1 hz (fun y a b => fa 548 y (by omega))) hg.1.1 hd h67.1) ?_
    rintro s3 ⟨n1, n2⟩
    refine y_iload rfl rfl ?_
    refine y_istore (L' := [some (2, 547), some (0, m), some (0, i), some (0, 1), some (0, i)]) rfl rfl rfl rfl ?_
    have ⟨_, ⟨t3, t4⟩, _⟩ := e3 m (by omega) (by omega)
    refine lm_rubbed n1 (mfs_t fa n2) hx hg hN hm hi 25 s3 i (by omega) (by omega) ⟨fun j x y => ?_, fun j x y => by omega, fun j x y => ?_⟩ (fun x y _ => rfl)
    · exact (n1.2.2.1 m hm.1 hm.2).2.2.1 j x (by omega)
    · exact (n1.2.2.1 m hm.1 hm.2).2.2.1 j (by omega) y
theorem m_isSign {g : Launch × XG × va_G} {σ : YS} {Z : YZ} {I : Int → YZ} {M : YS} {N : Int} {m i : Int} (hx : mW σ Z I M) (hg : wG Z I M N) (hN : N < 100000) : YI g 80 [(2, 547), (0, m), (0, i)] σ (fun b σ' => σ = σ' ∧ yb ((0 ≤ m ∧ m < Z 0 1 0) ∧ 0 ≤ i ∧ i < Z 0 3 m) = b) := by
  refine y_start rfl rfl rfl ?_
  have ⟨⟨hz, hu, hur⟩, x2, x3, ⟨x4, x5⟩, x6, x7⟩ := hx
  have ⟨⟨he, hd, hn, hu2, h67, hk⟩, g2, g3, g4⟩ := hg
  have ⟨⟨f1, f2, f3⟩, f5, f6, f7, f8⟩ := hz
  have ⟨e1, e2, e3⟩ := he
  have x60 : σ 551 0 = M 3 0 := x6 0 (by omega) (by omega)
  have x61 : σ 551 1 = M 3 1 := x6 1 (by omega) (by omega)
  have x62 : σ 551 2 = M 3 2 := x6 2 (by omega) (by omega)
  have g40 := g4 0 (by omega) (by omega)
  have g41 := g4 1 (by omega) (by omega)
  have g42 := g4 2 (by omega) (by omega)
  have hu : σ 548 106 = Z 2 0 0 := hu
  have f1 : σ 548 (0 + 0) = Z 0 0 0 := f1
  have f10 : σ 548 0 = Z 0 0 0 := f1
  have f2 : σ 548 (0 + 10) = Z 0 1 0 := f2
  have f20 : σ 548 10 = Z 0 1 0 := f2
  have f30 : σ 548 105 = Z 1 5 0 := f3
  refine y_aload rfl rfl rfl ?_
  refine y_push rfl ?_
  refine y_iload rfl rfl ?_
  refine y_vi (as := [(2, 547), (0, 0), (0, m)]) (S := []) rfl rfl rfl rfl rfl rfl (by decide) rfl (m_isMan (r := 0) (Or.inl rfl) f2 e2) ?_
  rintro _ _ ⟨rfl, rfl⟩
  refine y_ifeq rfl (fun q6 => ?_) (fun q6 => ?_)
  · skip
    replace q6 := yb_0.mp q6
    refine y_push rfl ?_
    refine y_zret rfl rfl (by decide) ⟨_, rfl, ?_⟩
    exact ⟨rfl, by unfold yb; (repeat' split) <;> omega⟩
  · skip
    replace q6 := yb_1.mp q6
    have ⟨_, ⟨t3, t4⟩, _⟩ := e3 m (by omega) (by omega)
    have w26 : σ 548 (26 + m) = Z 0 3 m := (f6 m (by omega) (by omega)).2.1
    refine y_iload rfl rfl ?_
    refine y_i2l rfl ?_
    refine y_lconst (v := 0) rfl rfl ?_
    refine y_aload rfl rfl rfl ?_
    refine y_gfr (t := 548) rfl rfl (by decide) rfl (by decide) ?_
    refine y_push rfl ?_
    refine y_iload rfl rfl ?_
    refine y_iadd (v := (26 + m)) rfl rfl (by omega) ?_
    refine y_iald (v := (σ 548 (26 + m))) (n := 2108) rfl rfl (by decide) rfl (by omega) rfl ?_
    refine y_push rfl ?_
    refine y_isub (v := ((σ 548 (26 + m)) - 1)) rfl rfl (by omega) ?_
    refine y_i2l rfl ?_
    refine y_si (as := [(1, i), (1, 0), (1, ((σ 548 (26 + m)) - 1))]) (S := []) rfl rfl rfl rfl rfl rfl m_lies ?_
    rintro _ _ ⟨rfl, rfl⟩
    refine y_ifeq rfl (fun q27 => ?_) (fun q27 => ?_)
    · skip
      replace q27 := yb_0.mp q27
      refine y_push rfl ?_
      refine y_zret rfl rfl (by decide) ⟨_, rfl, ?_⟩
      exact ⟨rfl, by unfold yb; (repeat' split) <;> omega⟩
    · skip
      replace q27 := yb_1.mp q27
      refine y_push rfl ?_
      refine y_goto rfl ?_
      refine y_zret rfl rfl (by decide) ⟨_, rfl, ?_⟩
      exact ⟨rfl, by unfold yb; (repeat' split) <;> omega⟩
theorem m_rubbed {g : Launch × XG × va_G} {σ : YS} {Z : YZ} {I : Int → YZ} {M : YS} {N : Int} {m i : Int} (hx : mW σ Z I M) (hg : wG Z I M N) (hN : N < 100000) : YI g 79 [(2, 547), (0, m), (0, i)] σ (fun b σ' => (mW σ' Z I (if (0 ≤ m ∧ m < Z 0 1 0) ∧ 0 ≤ i ∧ i < Z 0 3 m then M else bump M 0)) ∧ cfr σ σ') := by
  refine y_start rfl rfl rfl ?_
  have ⟨⟨hz, hu, hur⟩, x2, x3, ⟨x4, x5⟩, x6, x7⟩ := hx
  have ⟨⟨he, hd, hn, hu2, h67, hk⟩, g2, g3, g4⟩ := hg
  have ⟨⟨f1, f2, f3⟩, f5, f6, f7, f8⟩ := hz
  have ⟨e1, e2, e3⟩ := he
  have x60 : σ 551 0 = M 3 0 := x6 0 (by omega) (by omega)
  have x61 : σ 551 1 = M 3 1 := x6 1 (by omega) (by omega)
  have x62 : σ 551 2 = M 3 2 := x6 2 (by omega) (by omega)
  have g40 := g4 0 (by omega) (by omega)
  have g41 := g4 1 (by omega) (by omega)
  have g42 := g4 2 (by omega) (by omega)
  have hu : σ 548 106 = Z 2 0 0 := hu
  have f1 : σ 548 (0 + 0) = Z 0 0 0 := f1
  have f10 : σ 548 0 = Z 0 0 0 := f1
  have f2 : σ 548 (0 + 10) = Z 0 1 0 := f2
  have f20 : σ 548 10 = Z 0 1 0 := f2
  have f30 : σ 548 105 = Z 1 5 0 := f3
  refine y_aload rfl rfl rfl ?_
  refine y_iload rfl rfl ?_
  refine y_iload rfl rfl ?_
  refine y_vi (as := [(2, 547), (0, m), (0, i)]) (S := []) rfl rfl rfl rfl rfl rfl (by decide) rfl (m_isSign hx hg hN) ?_
  rintro _ _ ⟨rfl, rfl⟩
  refine y_ifeq rfl (fun q6 => ?_) (fun q6 => ?_)
  · skip
    replace q6 := yb_0.mp q6
    refine y_aload rfl rfl rfl ?_
    refine y_vi (as := [(2, 547)]) (S := []) rfl rfl rfl rfl rfl rfl (by decide) rfl (m_bad (by omega)) ?_
    rintro _ _ ⟨rfl, rfl⟩
    refine y_iret rfl rfl ⟨_, rfl, ?_⟩
    exact ⟨by rw [if_neg (by omega)]; exact mW_bump hg hx (by omega) rfl, cfr_s (cfr_0 _) (by omega)⟩
  · skip
    replace q6 := yb_1.mp q6
    refine y_aload rfl rfl rfl ?_
    refine y_iload rfl rfl ?_
    refine y_iload rfl rfl ?_
    refine y_vi (as := [(2, 547), (0, m), (0, i)]) (S := []) rfl rfl rfl rfl rfl rfl (by decide) rfl (m_rubbedOf hx hg hN (by omega) (by omega)) ?_
    rintro c_ s1 y1
    refine y_goto rfl ?_
    refine y_iret rfl rfl ⟨_, rfl, ?_⟩
    exact ⟨by rw [if_pos (by omega)]; exact mW_mfs hg hx y1, fun x y a => y1 x y (by omega)⟩
theorem lm_danger {g : Launch × XG × va_G} {σ : YS} {Z : YZ} {I : Int → YZ} {M : YS} {N : Int} {m : Int} (hx : mW σ Z I M) (hg : wG Z I M N) (hN : N < 100000) (hm : 0 ≤ m ∧ m < Z 0 1 0) : ∀ (nn : Nat) (τ : YS) (k : Int) (d : Int), Z 0 3 m - k < (nn : Int) → (0 ≤ k ∧ k ≤ Z 0 3 m) → (mfs σ τ) → (0 ≤ d ∧ d ≤ k) → YW g 82 18 [some (2, 547), some (0, m), some (0, d), some (0, k)] [] τ (fun rv σ' => ∃ b, rv = some (0, b) ∧ ((mW σ' Z I (if 0 ≤ m ∧ m < Z 0 1 0 then M else bump M 0)) ∧ cfr σ σ')) := by
  intro nn
  induction nn with
  | zero =>
    intro τ k d hn h0 h1 h2
    exfalso
    omega
  | succ nn ih =>
    intro τ k d hn h0 h1 h2
    have ⟨_, ⟨t3, t4⟩, _⟩ := hg.1.1.2.2 m (by omega) (by omega)
    have e2 := hg.1.1.2.1
    have w26 : τ 548 (26 + m) = Z 0 3 m := (h1 _ _ (by omega)).trans (hx.1.1.2.2.1 m (by omega) (by omega)).2.1
    refine y_iload rfl rfl ?_
    refine y_aload rfl rfl rfl ?_
    refine y_gfr (t := 548) rfl rfl (by decide) rfl (by decide) ?_
    refine y_push rfl ?_
    refine y_iload rfl rfl ?_
    refine y_iadd (v := (26 + m)) rfl rfl (by omega) ?_
    refine y_iald (v := (τ 548 (26 + m))) (n := 2108) rfl rfl (by decide) rfl (by omega) rfl ?_
    refine y_icge rfl (fun q28 => ?_) (fun q28 => ?_)
    · skip
      refine y_iload rfl rfl ?_
      refine y_iret rfl rfl ⟨_, rfl, ?_⟩
      exact ⟨by rw [if_pos (by omega)]; exact mW_mfs hg hx h1, fun x y a => h1 x y (by omega)⟩
    · skip
      refine y_iload rfl rfl ?_
      refine y_aload rfl rfl rfl ?_
      refine y_iload rfl rfl ?_
      refine y_iload rfl rfl ?_
      refine y_vi (as := [(2, 547), (0, m), (0, k)]) (S := [(0, d)]) rfl rfl rfl rfl rfl rfl (by decide) rfl (m_rubbedOf (mW_mfs hg hx h1) hg hN (m := m) (i := k) (by omega) (by omega)) ?_
      rintro c_ s1 y1
      refine y_push rfl ?_
      refine y_iceq rfl (fun q39 => ?_) (fun q39 => ?_)
      · skip
        refine y_push rfl ?_
        refine y_iadd (v := (d + 0)) rfl rfl (by omega) ?_
        refine y_istore (L' := [some (2, 547), some (0, m), some (0, (d + 0)), some (0, k)]) rfl rfl rfl rfl ?_
        refine y_iinc (L' := [some (2, 547), some (0, m), some (0, (d + 0)), some (0, (k + 1))]) rfl rfl rfl rfl rfl (by omega) ?_
        refine y_goto rfl ?_
        exact ih s1 (k + 1) _ (by omega) (by omega) (mfs_t h1 y1) (by omega)
      · skip
        refine y_push rfl ?_
        refine y_goto rfl ?_
        refine y_iadd (v := (d + 1)) rfl rfl (by omega) ?_
        refine y_istore (L' := [some (2, 547), some (0, m), some (0, (d + 1)), some (0, k)]) rfl rfl rfl rfl ?_
        refine y_iinc (L' := [some (2, 547), some (0, m), some (0, (d + 1)), some (0, (k + 1))]) rfl rfl rfl rfl rfl (by omega) ?_
        refine y_goto rfl ?_
        exact ih s1 (k + 1) _ (by omega) (by omega) (mfs_t h1 y1) (by omega)
theorem m_danger {g : Launch × XG × va_G} {σ : YS} {Z : YZ} {I : Int → YZ} {M : YS} {N : Int} {m : Int} (hx : mW σ Z I M) (hg : wG Z I M N) (hN : N < 100000) : YI g 82 [(2, 547), (0, m)] σ (fun b σ' => (mW σ' Z I (if 0 ≤ m ∧ m < Z 0 1 0 then M else bump M 0)) ∧ cfr σ σ') := by
  refine y_start rfl rfl rfl ?_
  have ⟨⟨hz, hu, hur⟩, x2, x3, ⟨x4, x5⟩, x6, x7⟩ := hx
  have ⟨⟨he, hd, hn, hu2, h67, hk⟩, g2, g3, g4⟩ := hg
  have ⟨⟨f1, f2, f3⟩, f5, f6, f7, f8⟩ := hz
  have ⟨e1, e2, e3⟩ := he
  have x60 : σ 551 0 = M 3 0 := x6 0 (by omega) (by omega)
  have x61 : σ 551 1 = M 3 1 := x6 1 (by omega) (by omega)
  have x62 : σ 551 2 = M 3 2 := x6 2 (by omega) (by omega)
  have g40 := g4 0 (by omega) (by omega)
  have g41 := g4 1 (by omega) (by omega)
  have g42 := g4 2 (by omega) (by omega)
  have hu : σ 548 106 = Z 2 0 0 := hu
  have f1 : σ 548 (0 + 0) = Z 0 0 0 := f1
  have f10 : σ 548 0 = Z 0 0 0 := f1
  have f2 : σ 548 (0 + 10) = Z 0 1 0 := f2
  have f20 : σ 548 10 = Z 0 1 0 := f2
  have f30 : σ 548 105 = Z 1 5 0 := f3
  refine y_aload rfl rfl rfl ?_
  refine y_push rfl ?_
  refine y_iload rfl rfl ?_
  refine y_vi (as := [(2, 547), (0, 0), (0, m)]) (S := []) rfl rfl rfl rfl rfl rfl (by decide) rfl (m_isMan (r := 0) (Or.inl rfl) f2 e2) ?_
  rintro _ _ ⟨rfl, rfl⟩
  refine y_ifne rfl (fun q6 => ?_) (fun q6 => ?_)
  · skip
    replace q6 := yb_1.mp q6
    refine y_push rfl ?_
    refine y_istore (L' := [some (2, 547), some (0, m), some (0, 0), none]) rfl rfl rfl rfl ?_
    refine y_push rfl ?_
    refine y_istore (L' := [some (2, 547), some (0, m), some (0, 0), some (0, 0)]) rfl rfl rfl rfl ?_
    have ⟨_, ⟨t3, t4⟩, _⟩ := e3 m (by omega) (by omega)
    exact lm_danger hx hg hN (by omega) 25 σ 0 0 (by omega) (by omega) (mfs_0 _) (by omega)
  · skip
    replace q6 := yb_0.mp q6
    refine y_aload rfl rfl rfl ?_
    refine y_vi (as := [(2, 547)]) (S := []) rfl rfl rfl rfl rfl rfl (by decide) rfl (m_bad (by omega)) ?_
    rintro _ _ ⟨rfl, rfl⟩
    refine y_iret rfl rfl ⟨_, rfl, ?_⟩
    exact ⟨by rw [if_neg (by omega)]; exact mW_bump hg hx (by omega) rfl, cfr_s (cfr_0 _) (by omega)⟩
