theorem lm_keep2 {g : Launch × XG × va_G} {σ : YS} {t : Int} (ht : 0 ≤ t ∧ t ≤ 400) : ∀ (nn : Nat) (τ : YS) (k : Int), 3 - k < (nn : Int) → (0 ≤ k ∧ k ≤ 3) → (∀ x y, x ≠ 563 → τ x y = σ x y) → YW g 76 33 [some (2, 547), some (0, t), some (0, k)] [] τ (fun rv σ' => rv = none ∧ (∀ x y, x ≠ 563 → σ' x y = σ x y)) := by
  intro nn
  induction nn with
  | zero =>
    intro τ k hn h0 h1
    exfalso
    omega
  | succ nn ih =>
    intro τ k hn h0 h1
    refine y_iload rfl rfl ?_
    refine y_push rfl ?_
    refine y_icge rfl (fun q35 => ?_) (fun q35 => ?_)
    · skip
      refine y_ret rfl rfl ⟨rfl, ?_⟩
      exact h1
    · skip
      refine y_aload rfl rfl rfl ?_
      refine y_gfr (t := 563) rfl rfl (by decide) rfl (by decide) ?_
      refine y_push rfl ?_
      refine y_iload rfl rfl ?_
      refine y_imul (v := (21 * t)) rfl rfl (by omega) ?_
      refine y_push rfl ?_
      refine y_iadd (v := ((21 * t) + 9)) rfl rfl (by omega) ?_
      refine y_iload rfl rfl ?_
      refine y_iadd (v := (((21 * t) + 9) + k)) rfl rfl (by omega) ?_
      refine y_aload rfl rfl rfl ?_
      refine y_gfr (t := 555) rfl rfl (by decide) rfl (by decide) ?_
      refine y_iload rfl rfl ?_
      refine y_iald (v := (τ 555 k)) (n := 3) rfl rfl (by decide) rfl (by omega) rfl ?_
      refine y_iast (n := 8421) rfl rfl (by decide) rfl (by omega) ?_
      refine y_aload rfl rfl rfl ?_
      refine y_gfr (t := 563) rfl rfl (by decide) rfl (by decide) ?_
      refine y_push rfl ?_
      refine y_iload rfl rfl ?_
      refine y_imul (v := (21 * t)) rfl rfl (by omega) ?_
      refine y_push rfl ?_
      refine y_iadd (v := ((21 * t) + 12)) rfl rfl (by omega) ?_
      refine y_iload rfl rfl ?_
      refine y_iadd (v := (((21 * t) + 12) + k)) rfl rfl (by omega) ?_
      refine y_aload rfl rfl rfl ?_
      refine y_gfr (t := 556) rfl rfl (by decide) rfl (by decide) ?_
      refine y_iload rfl rfl ?_
      refine y_iald (v := (τ 556 k)) (n := 3) rfl rfl (by decide) rfl (by omega) (yne (by omega) rfl) ?_
      refine y_iast (n := 8421) rfl rfl (by decide) rfl (by omega) ?_
      refine y_aload rfl rfl rfl ?_
      refine y_gfr (t := 563) rfl rfl (by decide) rfl (by decide) ?_
      refine y_push rfl ?_
      refine y_iload rfl rfl ?_
      refine y_imul (v := (21 * t)) rfl rfl (by omega) ?_
      refine y_push rfl ?_
      refine y_iadd (v := ((21 * t) + 15)) rfl rfl (by omega) ?_
      refine y_iload rfl rfl ?_
      refine y_iadd (v := (((21 * t) + 15) + k)) rfl rfl (by omega) ?_
      refine y_aload rfl rfl rfl ?_
      refine y_gfr (t := 557) rfl rfl (by decide) rfl (by decide) ?_
      refine y_iload rfl rfl ?_
      refine y_iald (v := (τ 557 k)) (n := 3) rfl rfl (by decide) rfl (by omega) (yne (by omega) (yne (by omega) rfl)) ?_
      refine y_iast (n := 8421) rfl rfl (by decide) rfl (by omega) ?_
      refine y_aload rfl rfl rfl ?_
      refine y_gfr (t := 563) rfl rfl (by decide) rfl (by decide) ?_
      refine y_push rfl ?_
      refine y_iload rfl rfl ?_
      refine y_imul (v := (21 * t)) rfl rfl (by omega) ?_
      refine y_push rfl ?_
      refine y_iadd (v := ((21 * t) + 18)) rfl rfl (by omega) ?_
      refine y_iload rfl rfl ?_
      refine y_iadd (v := (((21 * t) + 18) + k)) rfl rfl (by omega) ?_
      refine y_aload rfl rfl rfl ?_
      refine y_gfr (t := 558) rfl rfl (by decide) rfl (by decide) ?_
      refine y_iload rfl rfl ?_
      refine y_iald (v := (τ 558 k)) (n := 3) rfl rfl (by decide) rfl (by omega) (yne (by omega) (yne (by omega) (yne (by omega) rfl))) ?_
      refine y_iast (n := 8421) rfl rfl (by decide) rfl (by omega) ?_
      refine y_iinc (L' := [some (2, 547), some (0, t), some (0, (k + 1))]) rfl rfl rfl rfl rfl (by omega) ?_
      refine y_goto rfl ?_
      exact ih (yset (yset (yset (yset τ 563 (((21 * t) + 9) + k) (τ 555 k)) 563 (((21 * t) + 12) + k) (τ 556 k)) 563 (((21 * t) + 15) + k) (τ 557 k)) 563 (((21 * t) + 18) + k) (τ 558 k)) (k + 1) (by omega) (by omega) (fun x y a => by rw [yne (by omega) rfl, yne (by omega) rfl, yne (by omega) rfl, yne (by omega) rfl]; exact h1 x y a)
theorem lm_keep1 {g : Launch × XG × va_G} {σ : YS} {t : Int} (ht : 0 ≤ t ∧ t ≤ 400) : ∀ (nn : Nat) (τ : YS) (k : Int), 9 - k < (nn : Int) → (0 ≤ k ∧ k ≤ 9) → (∀ x y, x ≠ 563 → τ x y = σ x y) → YW g 76 2 [some (2, 547), some (0, t), some (0, k)] [] τ (fun rv σ' => rv = none ∧ (∀ x y, x ≠ 563 → σ' x y = σ x y)) := by
  intro nn
  induction nn with
  | zero =>
    intro τ k hn h0 h1
    exfalso
    omega
  | succ nn ih =>
    intro τ k hn h0 h1
    refine y_iload rfl rfl ?_
    refine y_push rfl ?_
    refine y_icge rfl (fun q5 => ?_) (fun q5 => ?_)
    · skip
      refine y_push rfl ?_
      refine y_istore (L' := [some (2, 547), some (0, t), some (0, 0)]) rfl rfl rfl rfl ?_
      exact lm_keep2 ht 4 τ 0 (by omega) (by omega) h1
    · skip
      refine y_aload rfl rfl rfl ?_
      refine y_gfr (t := 563) rfl rfl (by decide) rfl (by decide) ?_
      refine y_push rfl ?_
      refine y_iload rfl rfl ?_
      refine y_imul (v := (21 * t)) rfl rfl (by omega) ?_
      refine y_iload rfl rfl ?_
      refine y_iadd (v := ((21 * t) + k)) rfl rfl (by omega) ?_
      refine y_aload rfl rfl rfl ?_
      refine y_gfr (t := 554) rfl rfl (by decide) rfl (by decide) ?_
      refine y_iload rfl rfl ?_
      refine y_iald (v := (τ 554 k)) (n := 9) rfl rfl (by decide) rfl (by omega) rfl ?_
      refine y_iast (n := 8421) rfl rfl (by decide) rfl (by omega) ?_
      refine y_iinc (L' := [some (2, 547), some (0, t), some (0, (k + 1))]) rfl rfl rfl rfl rfl (by omega) ?_
      refine y_goto rfl ?_
      exact ih (yset τ 563 ((21 * t) + k) (τ 554 k)) (k + 1) (by omega) (by omega) (fun x y a => by rw [yne (by omega) rfl]; exact h1 x y a)
theorem m_keepState {g : Launch × XG × va_G} {σ : YS} {t : Int} (ht : 0 ≤ t ∧ t ≤ 400) : YU g 76 [(2, 547), (0, t)] σ (fun σ' => ∀ x y, x ≠ 563 → σ' x y = σ x y) := by
  refine y_start rfl rfl rfl ?_
  refine y_push rfl ?_
  refine y_istore (L' := [some (2, 547), some (0, t), some (0, 0)]) rfl rfl rfl rfl ?_
  exact lm_keep1 ht 10 σ 0 (by omega) (by omega) (fun _ _ _ => rfl)
theorem lm_alike {g : Launch × XG × va_G} {σ : YS} {s t : Int} (hs : 0 ≤ s ∧ s < t) (ht : t ≤ 400) : ∀ (nn : Nat) (k : Int) (d : Int), 21 - k < (nn : Int) → (0 ≤ k ∧ k ≤ 21) → (d = 0 ∨ d = 1) → YW g 77 18 [some (2, 547), some (0, s), some (0, t), some (0, d), some (0, k)] [] σ (fun rv σ' => ∃ b, rv = some (0, b) ∧ ((b = 0 ∨ b = 1) ∧ σ = σ')) := by
  intro nn
  induction nn with
  | zero =>
    intro k d hn h0 h1
    exfalso
    omega
  | succ nn ih =>
    intro k d hn h0 h1
    refine y_iload rfl rfl ?_
    refine y_push rfl ?_
    refine y_icge rfl (fun q22 => ?_) (fun q22 => ?_)
    · skip
      refine y_iload rfl rfl ?_
      refine y_zret rfl rfl (by omega) ⟨_, rfl, ?_⟩
      exact ⟨h1, rfl⟩
    · skip
      refine y_iload rfl rfl ?_
      refine y_ifeq rfl (fun q26 => ?_) (fun q26 => ?_)
      · skip
        refine y_iload rfl rfl ?_
        refine y_zret rfl rfl (by omega) ⟨_, rfl, ?_⟩
        exact ⟨h1, rfl⟩
      · skip
        refine y_aload rfl rfl rfl ?_
        refine y_gfr (t := 563) rfl rfl (by decide) rfl (by decide) ?_
        refine y_push rfl ?_
        refine y_iload rfl rfl ?_
        refine y_imul (v := (21 * s)) rfl rfl (by omega) ?_
        refine y_iload rfl rfl ?_
        refine y_iadd (v := ((21 * s) + k)) rfl rfl (by omega) ?_
        refine y_iald (v := (σ 563 ((21 * s) + k))) (n := 8421) rfl rfl (by decide) rfl (by omega) rfl ?_
        refine y_aload rfl rfl rfl ?_
        refine y_gfr (t := 563) rfl rfl (by decide) rfl (by decide) ?_
        refine y_push rfl ?_
        refine y_iload rfl rfl ?_
        refine y_imul (v := (21 * t)) rfl rfl (by omega) ?_
        refine y_iload rfl rfl ?_
        refine y_iadd (v := ((21 * t) + k)) rfl rfl (by omega) ?_
        refine y_iald (v := (σ 563 ((21 * t) + k))) (n := 8421) rfl rfl (by decide) rfl (by omega) rfl ?_
        refine y_icne rfl (fun q53 => ?_) (fun q53 => ?_)
        · skip
          refine y_push rfl ?_
          refine y_istore (L' := [some (2, 547), some (0, s), some (0, t), some (0, 0), some (0, k)]) rfl rfl rfl rfl ?_
          refine y_iinc (L' := [some (2, 547), some (0, s), some (0, t), some (0, 0), some (0, (k + 1))]) rfl rfl rfl rfl rfl (by omega) ?_
          refine y_goto rfl ?_
          exact ih (k + 1) _ (by omega) (by omega) (by omega)
        · skip
          refine y_push rfl ?_
          refine y_goto rfl ?_
          refine y_istore (L' := [some (2, 547), some (0, s), some (0, t), some (0, 1), some (0, k)]) rfl rfl rfl rfl ?_
          refine y_iinc (L' := [some (2, 547), some (0, s), some (0, t), some (0, 1), some (0, (k + 1))]) rfl rfl rfl rfl rfl (by omega) ?_
          refine y_goto rfl ?_
          exact ih (k + 1) _ (by omega) (by omega) (by omega)
theorem m_isAlike {g : Launch × XG × va_G} {σ : YS} {s t : Int} (hs : 0 ≤ s ∧ s < t) (ht : t ≤ 400) : YI g 77 [(2, 547), (0, s), (0, t)] σ (fun b σ' => (b = 0 ∨ b = 1) ∧ σ = σ') := by
  refine y_start rfl rfl rfl ?_
  refine y_iload rfl rfl ?_
  refine y_iload rfl rfl ?_
  refine y_isub (v := (t - s)) rfl rfl (by omega) ?_
  refine y_push rfl ?_
  refine y_irem (v := ((t - s) % 14)) rfl rfl (by omega) ?_
  refine y_ifne rfl (fun q6 => ?_) (fun q6 => ?_)
  · skip
    refine y_push rfl ?_
    refine y_istore (L' := [some (2, 547), some (0, s), some (0, t), some (0, 0), none]) rfl rfl rfl rfl ?_
    refine y_push rfl ?_
    refine y_istore (L' := [some (2, 547), some (0, s), some (0, t), some (0, 0), some (0, 0)]) rfl rfl rfl rfl ?_
    exact lm_alike hs ht 22 0 _ (by omega) (by omega) (by omega)
  · skip
    refine y_push rfl ?_
    refine y_goto rfl ?_
    refine y_istore (L' := [some (2, 547), some (0, s), some (0, t), some (0, 1), none]) rfl rfl rfl rfl ?_
    refine y_push rfl ?_
    refine y_istore (L' := [some (2, 547), some (0, s), some (0, t), some (0, 1), some (0, 0)]) rfl rfl rfl rfl ?_
    exact lm_alike hs ht 22 0 _ (by omega) (by omega) (by omega)
theorem lm_again3 {g : Launch × XG × va_G} {σ : YS} {Z : YZ} {I : Int → YZ} {M : YS} {N : Int} {q t s : Int} (hx : mW σ Z I M) (hg : wG Z I M N) (hN : N < 100000) (hq : 0 ≤ q ∧ q ≤ 2) (hs : 0 ≤ s ∧ s < t) (ht : t ≤ 400) : ∀ (nn : Nat) (τ : YS) (k : Int) (d : Int), t - k < (nn : Int) → (s ≤ k ∧ k ≤ t) → (mfs σ τ) → YW g 75 75 [some (2, 547), some (0, q), some (0, t), some (0, s), some (0, d), some (0, k)] [] τ (fun rv σ' => ∃ b, rv = some (0, b) ∧ ((mW σ' Z I (if 0 ≤ q ∧ q ≤ 2 then M else bump M 0)) ∧ cfr σ σ')) := by
  intro nn
  induction nn with
  | zero =>
    intro τ k d hn h0 h1
    exfalso
    omega
  | succ nn ih =>
    intro τ k d hn h0 h1
    refine y_iload rfl rfl ?_
    refine y_iload rfl rfl ?_
    refine y_icge rfl (fun q78 => ?_) (fun q78 => ?_)
    · skip
      refine y_iload rfl rfl ?_
      refine y_ifne rfl (fun q100 => ?_) (fun q100 => ?_)
      · skip
        refine y_iload rfl rfl ?_
        refine y_push rfl ?_
        refine y_icne rfl (fun q109 => ?_) (fun q109 => ?_)
        · skip
          refine y_iload rfl rfl ?_
          refine y_iret rfl rfl ⟨_, rfl, ?_⟩
          exact ⟨by rw [if_pos (by omega)]; exact mW_mfs hg hx h1, fun x y a => h1 x y (by omega)⟩
        · skip
          refine y_iload rfl rfl ?_
          refine y_goto rfl ?_
          refine y_iret rfl rfl ⟨_, rfl, ?_⟩
          exact ⟨by rw [if_pos (by omega)]; exact mW_mfs hg hx h1, fun x y a => h1 x y (by omega)⟩
      · skip
        refine y_iload rfl rfl ?_
        refine y_goto rfl ?_
        refine y_iret rfl rfl ⟨_, rfl, ?_⟩
        exact ⟨by rw [if_pos (by omega)]; exact mW_mfs hg hx h1, fun x y a => h1 x y (by omega)⟩
    · skip
      refine y_iload rfl rfl ?_
      refine y_aload rfl rfl rfl ?_
      refine y_gfr (t := 564) rfl rfl (by decide) rfl (by decide) ?_
      refine y_iload rfl rfl ?_
      refine y_iald (v := (τ 564 k)) (n := 401) rfl rfl (by decide) rfl (by omega) rfl ?_
      refine y_iand (v := (yand d (τ 564 k))) rfl rfl ?_
      refine y_istore (L' := [some (2, 547), some (0, q), some (0, t), some (0, s), some (0, (yand d (τ 564 k))), some (0, k)]) rfl rfl rfl rfl ?_
      refine y_iinc (L' := [some (2, 547), some (0, q), some (0, t), some (0, s), some (0, (yand d (τ 564 k))), some (0, (k + 1))]) rfl rfl rfl rfl rfl (by omega) ?_
      refine y_goto rfl ?_
      exact ih τ (k + 1) _ (by omega) (by omega) h1
theorem lm_again2 {g : Launch × XG × va_G} {σ : YS} {Z : YZ} {I : Int → YZ} {M : YS} {N : Int}  {q t : Int} {nn0 : Nat} (ihO : ∀ (τ : YS) (t : Int), 401 - t < (nn0 : Int) → (1 ≤ t ∧ t ≤ 401) → rm τ (Z 0) (msteps (Z 0) (Z 1) (t - 1).toNat) → mfs σ τ → YW g 75 28 [some (2, 547), some (0, q), some (0, t), none, none, none] [] τ (fun rv σ' => ∃ b, rv = some (0, b) ∧ ((mW σ' Z I (if 0 ≤ q ∧ q ≤ 2 then M else bump M 0)) ∧ cfr σ σ'))) (hx : mW σ Z I M) (hg : wG Z I M N) (hN : N < 100000) (hq : 0 ≤ q ∧ q ≤ 2) (ht : 1 ≤ t ∧ t ≤ 400) (hnn : 401 - t < (nn0 : Int) + 1) : ∀ (nn : Nat) (τ : YS) (s : Int), t - s < (nn : Int) → (0 ≤ s ∧ s ≤ t) → (rm τ (Z 0) (msteps (Z 0) (Z 1) t.toNat)) → (mfs σ τ) → YW g 75 54 [some (2, 547), some (0, q), some (0, t), some (0, s), none, none] [] τ (fun rv σ' => ∃ b, rv = some (0, b) ∧ ((mW σ' Z I (if 0 ≤ q ∧ q ≤ 2 then M else bump M 0)) ∧ cfr σ σ')) := by
  intro nn
  induction nn with
  | zero =>
    intro τ s hn h0 h1 h2
    exfalso
    omega
  | succ nn ih =>
    intro τ s hn h0 h1 h2
    refine y_iload rfl rfl ?_
    refine y_iload rfl rfl ?_
    refine y_icge rfl (fun q56 => ?_) (fun q56 => ?_)
    · skip
      refine y_iinc (L' := [some (2, 547), some (0, q), some (0, (t + 1)), some (0, s), none, none]) rfl rfl rfl rfl rfl (by omega) ?_
      refine y_goto rfl ?_
      refine y_forget (M := [some (2, 547), some (0, q), some (0, (t + 1)), none, none, none]) ⟨Or.inr rfl, Or.inr rfl, Or.inr rfl, Or.inl rfl, Or.inl rfl, Or.inl rfl, trivial⟩ ?_
      exact ihO τ (t + 1) (by omega) (by omega) (by rw [show t + 1 - 1 = t by omega]; exact h1) h2
    · skip
      refine y_aload rfl rfl rfl ?_
      refine y_iload rfl rfl ?_
      refine y_iload rfl rfl ?_
      refine y_vi (as := [(2, 547), (0, s), (0, t)]) (S := []) rfl rfl rfl rfl rfl rfl (by decide) rfl (m_isAlike (by omega) (by omega)) ?_
      rintro b_ _ ⟨hb, rfl⟩
      refine y_ifeq rfl (fun q65 => ?_) (fun q65 => ?_)
      · skip
        refine y_iinc (L' := [some (2, 547), some (0, q), some (0, t), some (0, (s + 1)), none, none]) rfl rfl rfl rfl rfl (by omega) ?_
        refine y_goto rfl ?_
        exact ih τ (s + 1) (by omega) (by omega) h1 h2
      · skip
        refine y_push rfl ?_
        refine y_istore (L' := [some (2, 547), some (0, q), some (0, t), some (0, s), some (0, 7), none]) rfl rfl rfl rfl ?_
        refine y_iload rfl rfl ?_
        refine y_istore (L' := [some (2, 547), some (0, q), some (0, t), some (0, s), some (0, 7), some (0, s)]) rfl rfl rfl rfl ?_
        exact lm_again3 hx hg hN hq (by omega) (by omega) 402 τ s 7 (by omega) (by omega) h2
theorem rm_other {σ σ' : YS} {E D : YS} {x0 : Int} (h : rm σ E D) (hx : 562 ≤ x0) (e : ∀ x y, x ≠ x0 → σ' x y = σ x y) : rm σ' E D := by
  obtain ⟨⟨h1, h2, h4⟩, h5, h6, h7⟩ := h
  refine ⟨⟨by rw [e _ _ (by omega)]; exact h1, by rw [e _ _ (by omega)]; exact h2, by rw [e _ _ (by omega)]; exact h4⟩, fun c a b => by rw [e _ _ (by omega)]; exact h5 c a b, fun i a b => ?_, fun q a b => by rw [e _ _ (by omega)]; exact h7 q a b⟩
  obtain ⟨⟨g1, g2, g3, g4⟩, ⟨g5, g6⟩, g7, g8⟩ := h6 i a b
  exact ⟨⟨by rw [e _ _ (by omega)]; exact g1, by rw [e _ _ (by omega)]; exact g2, by rw [e _ _ (by omega)]; exact g3, by rw [e _ _ (by omega)]; exact g4⟩, ⟨by rw [e _ _ (by omega)]; exact g5, by rw [e _ _ (by omega)]; exact g6⟩, fun k a b => by rw [e _ _ (by omega)]; exact g7 k a b, fun z k a b c => by rw [e _ _ (by omega)]; exact g8 z k a b c⟩
theorem mfs_x {σ σ' σ'' : YS} {x0 : Int} (h : mfs σ σ') (hx : 552 ≤ x0) (e : ∀ x y, x ≠ x0 → σ'' x y = σ' x y) : mfs σ σ'' := fun x y a => by rw [e x y (by omega)]; exact h x y a
theorem lm_again1 {g : Launch × XG × va_G} {σ : YS} {Z : YZ} {I : Int → YZ} {M : YS} {N : Int} {q : Int} (hx : mW σ Z I M) (hg : wG Z I M N) (hN : N < 100000) (hq : 0 ≤ q ∧ q ≤ 2) : ∀ (nn : Nat) (τ : YS) (t : Int), 401 - t < (nn : Int) → (1 ≤ t ∧ t ≤ 401) → (rm τ (Z 0) (msteps (Z 0) (Z 1) (t - 1).toNat)) → (mfs σ τ) → YW g 75 28 [some (2, 547), some (0, q), some (0, t), none, none, none] [] τ (fun rv σ' => ∃ b, rv = some (0, b) ∧ ((mW σ' Z I (if 0 ≤ q ∧ q ≤ 2 then M else bump M 0)) ∧ cfr σ σ')) := by
  intro nn
  induction nn with
  | zero =>
    intro τ t hn h0 h1 h2
    exfalso
    omega
  | succ nn ih =>
    intro τ t hn h0 h1 h2
    refine y_iload rfl rfl ?_
    refine y_push rfl ?_
    refine y_icgt rfl (fun q32 => ?_) (fun q32 => ?_)
    · skip
      refine y_push rfl ?_
      refine y_iret rfl rfl ⟨_, rfl, ?_⟩
      exact ⟨by rw [if_pos (by omega)]; exact mW_mfs hg hx h2, fun x y a => h2 x y (by omega)⟩
    · skip
      refine y_aload rfl rfl rfl ?_
      refine y_gfr (t := 564) rfl rfl (by decide) rfl (by decide) ?_
      refine y_iload rfl rfl ?_
      refine y_push rfl ?_
      refine y_isub (v := (t - 1)) rfl rfl (by omega) ?_
      refine y_aload rfl rfl rfl ?_
      refine y_vi (as := [(2, 547)]) (S := [(0, (t - 1)), (2, 564)]) rfl rfl rfl rfl rfl rfl (by decide) rfl (m_goStep h1 hg.1.1 (dG_steps hg.1.2.1 hg.1.1 _) (by rw [msteps_5]; have := hg.1.2.2.1; omega)) ?_
      rintro _ σ1 ⟨y1, rfl, y2⟩
      refine y_iast (n := 401) rfl rfl (by decide) rfl (by omega) ?_
      refine y_aload rfl rfl rfl ?_
      refine y_iload rfl rfl ?_
      refine y_vu (as := [(2, 547), (0, t)]) (S := []) rfl rfl rfl rfl rfl rfl (by decide) rfl (m_keepState (by omega)) ?_
      rintro σ2 z1
      refine y_push rfl ?_
      refine y_istore (L' := [some (2, 547), some (0, q), some (0, t), some (0, 0), none, none]) rfl rfl rfl rfl ?_
      have r2 : rm σ2 (Z 0) (msteps (Z 0) (Z 1) t.toNat) := by
        rw [show t.toNat = (t - 1).toNat + 1 by omega]
        exact rm_other (x0 := 563) (rm_other (x0 := 564) y1 (by omega) (fun x y a => yne (by omega) rfl)) (by omega) z1
      exact lm_again2 (fun τ t => ih τ t) hx hg hN hq (by omega) (by omega) 402 σ2 0 (by omega) (by omega) r2 (mfs_x (x0 := 563) (mfs_x (x0 := 564) (mfs_t h2 (rfr_m y2)) (by omega) (fun x y a => yne (by omega) rfl)) (by omega) z1)
theorem m_again {g : Launch × XG × va_G} {σ : YS} {Z : YZ} {I : Int → YZ} {M : YS} {N : Int} {q : Int} (hx : mW σ Z I M) (hg : wG Z I M N) (hN : N < 100000) : YI g 75 [(2, 547), (0, q)] σ (fun b σ' => (mW σ' Z I (if 0 ≤ q ∧ q ≤ 2 then M else bump M 0)) ∧ cfr σ σ') := by
  refine y_start rfl rfl rfl ?_
  have ⟨⟨hz, hu, hur⟩, x2, x3, ⟨x4, x5⟩, x6, x7⟩ := hx
  have ⟨⟨he, hd, hn, hu2, h67, hk⟩, g2, g3, g4⟩ := hg
  have ⟨⟨f1, f2, f3⟩, f5, f6, f7, f8⟩ := hz
  have ⟨e1, e2, e3⟩ := he
  have x60 : σ 551 0 = M 3 0 := x6 0 (by omega) (by omega)
  have x61 : σ 551 1 = M 3 1 := x6 1 (by omega) (by omega)
  have x62 : σ 551 2 = M 3 2 := x6 2 (by omega) (by omega)
  have g40 := g4 0 (by omega) (by omega)
  have g41 := g4 1 (by omega) (by omega)
  have g42 := g4 2 (by omega) (by omega)
  have hu : σ 548 106 = Z 2 0 0 := hu
  have f1 : σ 548 (0 + 0) = Z 0 0 0 := f1
  have f10 : σ 548 0 = Z 0 0 0 := f1
  have f2 : σ 548 (0 + 10) = Z 0 1 0 := f2
  have f20 : σ 548 10 = Z 0 1 0 := f2
  have f30 : σ 548 105 = Z 1 5 0 := f3
  refine y_iload rfl rfl ?_
  refine y_i2l rfl ?_
  refine y_lconst (v := 0) rfl rfl ?_
  refine y_ldc2 (v := 2) rfl rfl ?_
  refine y_si (as := [(1, q), (1, 0), (1, 2)]) (S := []) rfl rfl rfl rfl rfl rfl m_lies ?_
  rintro _ _ ⟨rfl, rfl⟩
  refine y_ifne rfl (fun q9 => ?_) (fun q9 => ?_)
  · skip
    replace q9 := yb_1.mp q9
    refine y_aload rfl rfl rfl ?_
    refine y_vu (as := [(2, 547)]) (S := []) rfl rfl rfl rfl rfl rfl (by decide) rfl (m_layNow hz hg.1.1 hd h67.1) ?_
    rintro σ1 ⟨l1, l2⟩
    refine y_aload rfl rfl rfl ?_
    refine y_push rfl ?_
    refine y_vu (as := [(2, 547), (0, 0)]) (S := []) rfl rfl rfl rfl rfl rfl (by decide) rfl (m_keepState (by omega)) ?_
    rintro σ2 z1
    refine y_push rfl ?_
    refine y_istore (L' := [some (2, 547), some (0, q), some (0, 1), none, none, none]) rfl rfl rfl rfl ?_
    exact lm_again1 hx hg hN (by omega) 401 σ2 1 (by omega) (by omega) (rm_other (x0 := 563) l1 (by omega) z1) (mfs_x (x0 := 563) l2 (by omega) z1)
  · skip
    replace q9 := yb_0.mp q9
    refine y_aload rfl rfl rfl ?_
    refine y_vi (as := [(2, 547)]) (S := []) rfl rfl rfl rfl rfl rfl (by decide) rfl (m_badElse (by omega)) ?_
    rintro _ _ ⟨rfl, rfl⟩
    refine y_iret rfl rfl ⟨_, rfl, ?_⟩
    exact ⟨by rw [if_neg (by omega)]; exact mW_bump hg hx (by omega) rfl, cfr_s (cfr_0 _) (by omega)⟩
