theorem l_undo2 {g : Launch × XG × va_G} {σ : YS} {Z : YZ} {I : Int → YZ} {M : YS} {N : Int}  (hx : mW σ Z I M) (hg : wG Z I M N) (hN : N < 100000) (hu0 : 0 < Z 2 0 0) : ∀ (nn : Nat) (τ : YS) (k : Int), 12 - k < (nn : Int) → (0 ≤ k ∧ k ≤ 12) → (∀ x y, x ≠ 548 ∨ y = 0 ∨ (10 ≤ y ∧ y ≤ 13) ∨ (26 ≤ y ∧ y ≠ 106) → τ x y = σ x y) → (∀ c, 0 ≤ c → c < 9 → τ 548 (1 + c) = σ 548 (107 + 21 * (σ 548 106 - 1) + c)) → (∀ c, 0 ≤ c → c < k → τ 548 (14 + c) = σ 548 (107 + 21 * (σ 548 106 - 1) + 9 + c)) → (τ 548 106 = σ 548 106 - 1) → (wfr σ τ 0) → YW g 61 74 [some (2, 547), some (0, (107 + (21 * ((σ 548 106) - 1)))), some (0, k)] [] τ (fun rv σ' => ∃ b, rv = some (0, b) ∧ (b = (kundo Z M).1 ∧ mW σ' (kundo Z M).2.1 I (kundo Z M).2.2 ∧ cfr σ σ')) := by
  intro nn
  induction nn with
  | zero =>
    intro τ k hn h0 h1 h2 h3 h4 h5
    exfalso
    omega
  | succ nn ih =>
    intro τ k hn h0 h1 h2 h3 h4 h5
    have ⟨⟨hz, hu, hur⟩, x2, x3, ⟨x4, x5⟩, x6, x7⟩ := hx
    have ⟨⟨he, hd, hn, hu2, h67, hk⟩, g2, g3, g4⟩ := hg
    have ⟨⟨f1, f2, f3⟩, f5, f6, f7, f8⟩ := hz
    have ⟨e1, e2, e3⟩ := he
    have x60 : σ 551 0 = M 3 0 := x6 0 (by omega) (by omega)
    have x61 : σ 551 1 = M 3 1 := x6 1 (by omega) (by omega)
    have x62 : σ 551 2 = M 3 2 := x6 2 (by omega) (by omega)
    have g40 := g4 0 (by omega) (by omega)
    have g41 := g4 1 (by omega) (by omega)
    have g42 := g4 2 (by omega) (by omega)
    have hu : σ 548 106 = Z 2 0 0 := hu
    have f1 : σ 548 (0 + 0) = Z 0 0 0 := f1
    have f10 : σ 548 0 = Z 0 0 0 := f1
    have f2 : σ 548 (0 + 10) = Z 0 1 0 := f2
    have f20 : σ 548 10 = Z 0 1 0 := f2
    have f30 : σ 548 105 = Z 1 5 0 := f3
    have f50 : ∀ c, 0 ≤ c → c < 9 → σ 548 (1 + c) = Z 1 0 c := f5
    have f80 : ∀ j, 0 ≤ j → j < 4 → σ 548 (101 + j) = Z 0 7 j := f8
    refine y_iload rfl rfl ?_
    refine y_push rfl ?_
    refine y_icge rfl (fun q77 => ?_) (fun q77 => ?_)
    · skip
      have t105 : τ 548 105 = Z 1 5 0 := (h1 _ _ (by omega)).trans f3
      have h3 : ∀ c, 0 ≤ c → c < 12 → τ 548 (14 + c) = σ 548 (107 + 21 * (σ 548 106 - 1) + 9 + c) := fun c a b => h3 c a (by omega)
      refine y_aload rfl rfl rfl ?_
      refine y_gfr (t := 548) rfl rfl (by decide) rfl (by decide) ?_
      refine y_push rfl ?_
      refine y_dup2 rfl rfl rfl ?_
      refine y_iald (v := (τ 548 105)) (n := 2108) rfl rfl (by decide) rfl (by decide) rfl ?_
      refine y_push rfl ?_
      refine y_isub (v := ((τ 548 105) - 1)) rfl rfl (by omega) ?_
      refine y_iast (n := 2108) rfl rfl (by decide) rfl (by decide) ?_
      refine y_push rfl ?_
      refine y_iret rfl rfl ⟨_, rfl, ?_⟩
      have h5w := h5
      have hK : kundo Z M = (1, zundo Z, M) := if_neg (by omega)
      rw [hK]
      dsimp only
      have h5 : yset (Z 3) 6 0 (Z 1 6 0) 5 0 = Z 1 5 0 - 1 := by rw [yne (by omega) rfl]; have := (hk 0 (by omega) (by omega)).2; have t : Z (3 + 0) = Z 3 := rfl; rw [t] at this; omega
      have z1 : ∀ r c, r ≠ 6 → zundo Z 1 r c = Z 3 r c := fun r c h => by show yset (Z 3) 6 0 (Z 1 6 0) r c = _; rw [yne (by omega) rfl]
      have t105 : τ 548 105 = Z 1 5 0 := (h1 _ _ (by omega)).trans f3
      have q : ∀ y, y ≠ 105 → yset τ 548 105 (τ 548 105 - 1) 548 y = τ 548 y := fun y z => yne (by omega) rfl
      have rw0 : mzr σ (0 + 107 + 21 * (Z 2 0 0 - 1 - 0)) (Z 0) (Z 3) := hur 0 (by omega) (by omega)
      refine ⟨rfl, mW_now hg hx ⟨⟨⟨?_, ?_, ?_⟩, fun c a b => ?_, fun i a b => ?_, fun i a b => ?_, fun j a b => ?_⟩, ?_, fun k a b => ?_⟩ (wfr_s h5w (by omega)), cfr_w (wfr_s h5w (by omega))⟩
      · rw [q _ (by omega), h1 _ _ (by omega)]; exact f1
      · rw [q _ (by omega), h1 _ _ (by omega)]; exact f2
      · show yset τ 548 105 (τ 548 105 - 1) 548 (0 + 105) = yset (Z 3) 6 0 (Z 1 6 0) 5 0
        rw [h5, show (0 : Int) + 105 = 105 from rfl, yeq, t105]
      · rw [q _ (by omega), show (0 : Int) + 1 + c = 1 + c by omega, h2 c a b, z1 _ _ (by omega), ← rw0.1 c a b, show (107 : Int) + 21 * (σ 548 106 - 1) + c = 0 + 107 + 21 * (Z 2 0 0 - 1 - 0) + c by omega]
      · have b : i < Z 0 1 0 := b
        have ⟨⟨b1, b2, b3, b4⟩, b5, b6, b7, b8⟩ := f6 i a b
        obtain ⟨⟨c1, c2, c3⟩, c4, c5⟩ := rw0.2 i a b
        have hsz := (e3 i a b).2.1
        have g : ∀ p, 0 ≤ p → p < 12 → τ 548 (14 + p) = σ 548 (0 + 107 + 21 * (Z 2 0 0 - 1 - 0) + 9 + p) := fun p x y => by rw [h3 p x y, show (107 : Int) + 21 * (σ 548 106 - 1) + 9 + p = 0 + 107 + 21 * (Z 2 0 0 - 1 - 0) + 9 + p by omega]
        have g0 := g i (by omega) (by omega)
        have g1 := g (3 + i) (by omega) (by omega)
        have g2 := g (6 + i) (by omega) (by omega)
        have g3 := g (9 + i) (by omega) (by omega)
        rw [show (14 : Int) + (3 + i) = 17 + i by omega] at g1
        rw [show (14 : Int) + (6 + i) = 20 + i by omega] at g2
        rw [show (14 : Int) + (9 + i) = 23 + i by omega] at g3
        refine ⟨⟨?_, ?_, ?_, ?_⟩, ?_, fun k x y => ?_, ?_, ?_⟩
        · rw [q _ (by omega), h1 _ _ (by omega)]; exact b1
        · rw [q _ (by omega), show (0 : Int) + 14 + i = 14 + i by omega, g0, z1 _ _ (by omega)]; exact c1
        · rw [q _ (by omega), show (0 : Int) + 17 + i = 17 + i by omega, g1, z1 _ _ (by omega)]; exact c2
        · rw [q _ (by omega), show (0 : Int) + 20 + i = 20 + i by omega, g2, z1 _ _ (by omega)]; exact c3
        · rw [q _ (by omega), h1 _ _ (by omega)]; exact b5
        · have y : k < Z 0 3 i := y
          rw [q _ (by omega), h1 _ _ (by omega)]; exact b6 k x y
        · rw [q _ (by omega), show (0 : Int) + 23 + i = 23 + i by omega, g3]; exact c4
        · rw [q _ (by omega), show (0 : Int) + 23 + i = 23 + i by omega, g3, z1 _ _ (by omega)]; exact c5
      · have a : Z 0 1 0 ≤ i := a
        rw [q _ (by omega), h1 _ _ (by omega)]; exact f7 i a b
      · rw [q _ (by omega), h1 _ _ (by omega)]; exact f8 j a b
      · rw [q _ (by omega)]; show τ 548 106 = Z 2 0 0 - 1; rw [h4, hu]
      · have b : k < Z 2 0 0 - 1 := b
        have := hur (k + 1) (by omega) (by omega)
        have zz : zundo Z (3 + k) = Z (3 + (k + 1)) := zundo_U a
        rw [zz]
        show mzr _ (0 + 107 + 21 * (Z 2 0 0 - 1 - 1 - k)) (Z 0) _
        rw [show (0 : Int) + 107 + 21 * (Z 2 0 0 - 1 - 1 - k) = 0 + 107 + 21 * (Z 2 0 0 - 1 - (k + 1)) by omega]
        exact mzr_cong (σ := σ) e2 this (fun y c d => by rw [q _ (by omega), h1 _ _ (by omega)])
    · skip
      refine y_aload rfl rfl rfl ?_
      refine y_gfr (t := 548) rfl rfl (by decide) rfl (by decide) ?_
      refine y_push rfl ?_
      refine y_iload rfl rfl ?_
      refine y_iadd (v := (14 + k)) rfl rfl (by omega) ?_
      refine y_aload rfl rfl rfl ?_
      refine y_gfr (t := 548) rfl rfl (by decide) rfl (by decide) ?_
      refine y_iload rfl rfl ?_
      refine y_push rfl ?_
      refine y_iadd (v := ((107 + (21 * ((σ 548 106) - 1))) + 9)) rfl rfl (by omega) ?_
      refine y_iload rfl rfl ?_
      refine y_iadd (v := (((107 + (21 * ((σ 548 106) - 1))) + 9) + k)) rfl rfl (by omega) ?_
      refine y_iald (v := (τ 548 (((107 + (21 * ((σ 548 106) - 1))) + 9) + k))) (n := 2108) rfl rfl (by decide) rfl (by omega) rfl ?_
      refine y_iast (n := 2108) rfl rfl (by decide) rfl (by omega) ?_
      refine y_iinc (L' := [some (2, 547), some (0, (107 + (21 * ((σ 548 106) - 1)))), some (0, (k + 1))]) rfl rfl rfl rfl rfl (by omega) ?_
      refine y_goto rfl ?_
      refine ih (yset τ 548 (14 + k) (τ 548 (((107 + (21 * ((σ 548 106) - 1))) + 9) + k))) (k + 1) (by omega) (by omega) (fun x y a => by rw [yne (by omega) rfl]; exact h1 x y a) (fun c a b => by rw [yne (by omega) rfl]; exact h2 c a b) (fun c a b => ?_) (by rw [yne (by omega) rfl]; exact h4) (wfr_s h5 (by omega))
      by_cases e : c = k
      · subst e; rw [yeq]; exact h1 _ _ (by omega)
      · rw [yne (by omega) rfl]; exact h3 c a (by omega)
theorem l_undo1 {g : Launch × XG × va_G} {σ : YS} {Z : YZ} {I : Int → YZ} {M : YS} {N : Int}  (hx : mW σ Z I M) (hg : wG Z I M N) (hN : N < 100000) (hu0 : 0 < Z 2 0 0) : ∀ (nn : Nat) (τ : YS) (k : Int), 9 - k < (nn : Int) → (0 ≤ k ∧ k ≤ 9) → (∀ x y, x ≠ 548 ∨ y = 0 ∨ (10 ≤ y ∧ y ≠ 106) → τ x y = σ x y) → (∀ c, 0 ≤ c → c < k → τ 548 (1 + c) = σ 548 (107 + 21 * (σ 548 106 - 1) + c)) → (τ 548 106 = σ 548 106 - 1) → (wfr σ τ 0) → YW g 61 44 [some (2, 547), some (0, (107 + (21 * ((σ 548 106) - 1)))), some (0, k)] [] τ (fun rv σ' => ∃ b, rv = some (0, b) ∧ (b = (kundo Z M).1 ∧ mW σ' (kundo Z M).2.1 I (kundo Z M).2.2 ∧ cfr σ σ')) := by
  intro nn
  induction nn with
  | zero =>
    intro τ k hn h0 h1 h2 h3 h4
    exfalso
    omega
  | succ nn ih =>
    intro τ k hn h0 h1 h2 h3 h4
    have ⟨⟨hz, hu, hur⟩, x2, x3, ⟨x4, x5⟩, x6, x7⟩ := hx
    have ⟨⟨he, hd, hn, hu2, h67, hk⟩, g2, g3, g4⟩ := hg
    have ⟨⟨f1, f2, f3⟩, f5, f6, f7, f8⟩ := hz
    have ⟨e1, e2, e3⟩ := he
    have x60 : σ 551 0 = M 3 0 := x6 0 (by omega) (by omega)
    have x61 : σ 551 1 = M 3 1 := x6 1 (by omega) (by omega)
    have x62 : σ 551 2 = M 3 2 := x6 2 (by omega) (by omega)
    have g40 := g4 0 (by omega) (by omega)
    have g41 := g4 1 (by omega) (by omega)
    have g42 := g4 2 (by omega) (by omega)
    have hu : σ 548 106 = Z 2 0 0 := hu
    have f1 : σ 548 (0 + 0) = Z 0 0 0 := f1
    have f10 : σ 548 0 = Z 0 0 0 := f1
    have f2 : σ 548 (0 + 10) = Z 0 1 0 := f2
    have f20 : σ 548 10 = Z 0 1 0 := f2
    have f30 : σ 548 105 = Z 1 5 0 := f3
    have f50 : ∀ c, 0 ≤ c → c < 9 → σ 548 (1 + c) = Z 1 0 c := f5
    have f80 : ∀ j, 0 ≤ j → j < 4 → σ 548 (101 + j) = Z 0 7 j := f8
    refine y_iload rfl rfl ?_
    refine y_push rfl ?_
    refine y_icge rfl (fun q47 => ?_) (fun q47 => ?_)
    · skip
      refine y_push rfl ?_
      refine y_istore (L' := [some (2, 547), some (0, (107 + (21 * ((σ 548 106) - 1)))), some (0, 0)]) rfl rfl rfl rfl ?_
      exact l_undo2 hx hg hN hu0 13 τ 0 (by omega) (by omega) (fun x y a => h1 x y (by omega)) (fun c a b => h2 c a (by omega)) (fun c a b => by omega) h3 h4
    · skip
      refine y_aload rfl rfl rfl ?_
      refine y_gfr (t := 548) rfl rfl (by decide) rfl (by decide) ?_
      refine y_push rfl ?_
      refine y_iload rfl rfl ?_
      refine y_iadd (v := (1 + k)) rfl rfl (by omega) ?_
      refine y_aload rfl rfl rfl ?_
      refine y_gfr (t := 548) rfl rfl (by decide) rfl (by decide) ?_
      refine y_iload rfl rfl ?_
      refine y_iload rfl rfl ?_
      refine y_iadd (v := ((107 + (21 * ((σ 548 106) - 1))) + k)) rfl rfl (by omega) ?_
      refine y_iald (v := (τ 548 ((107 + (21 * ((σ 548 106) - 1))) + k))) (n := 2108) rfl rfl (by decide) rfl (by omega) rfl ?_
      refine y_iast (n := 2108) rfl rfl (by decide) rfl (by omega) ?_
      refine y_iinc (L' := [some (2, 547), some (0, (107 + (21 * ((σ 548 106) - 1)))), some (0, (k + 1))]) rfl rfl rfl rfl rfl (by omega) ?_
      refine y_goto rfl ?_
      refine ih (yset τ 548 (1 + k) (τ 548 ((107 + (21 * ((σ 548 106) - 1))) + k))) (k + 1) (by omega) (by omega) (fun x y a => by rw [yne (by omega) rfl]; exact h1 x y a) (fun c a b => ?_) (by rw [yne (by omega) rfl]; exact h3) (wfr_s h4 (by omega))
      by_cases e : c = k
      · subst e; rw [yeq]; exact h1 _ _ (by omega)
      · rw [yne (by omega) rfl]; exact h2 c a (by omega)
theorem m_undo {g : Launch × XG × va_G} {σ : YS} {Z : YZ} {I : Int → YZ} {M : YS} {N : Int}  (hx : mW σ Z I M) (hg : wG Z I M N) (hN : N < 100000) : YI g 61 [(2, 547)] σ (fun b σ' => b = (kundo Z M).1 ∧ mW σ' (kundo Z M).2.1 I (kundo Z M).2.2 ∧ cfr σ σ') := by
  refine y_start rfl rfl rfl ?_
  have ⟨⟨hz, hu, hur⟩, x2, x3, ⟨x4, x5⟩, x6, x7⟩ := hx
  have ⟨⟨he, hd, hn, hu2, h67, hk⟩, g2, g3, g4⟩ := hg
  have ⟨⟨f1, f2, f3⟩, f5, f6, f7, f8⟩ := hz
  have ⟨e1, e2, e3⟩ := he
  have x60 : σ 551 0 = M 3 0 := x6 0 (by omega) (by omega)
  have x61 : σ 551 1 = M 3 1 := x6 1 (by omega) (by omega)
  have x62 : σ 551 2 = M 3 2 := x6 2 (by omega) (by omega)
  have g40 := g4 0 (by omega) (by omega)
  have g41 := g4 1 (by omega) (by omega)
  have g42 := g4 2 (by omega) (by omega)
  have hu : σ 548 106 = Z 2 0 0 := hu
  have f1 : σ 548 (0 + 0) = Z 0 0 0 := f1
  have f10 : σ 548 0 = Z 0 0 0 := f1
  have f2 : σ 548 (0 + 10) = Z 0 1 0 := f2
  have f20 : σ 548 10 = Z 0 1 0 := f2
  have f30 : σ 548 105 = Z 1 5 0 := f3
  have f50 : ∀ c, 0 ≤ c → c < 9 → σ 548 (1 + c) = Z 1 0 c := f5
  have f80 : ∀ j, 0 ≤ j → j < 4 → σ 548 (101 + j) = Z 0 7 j := f8
  refine y_aload rfl rfl rfl ?_
  refine y_gfr (t := 548) rfl rfl (by decide) rfl (by decide) ?_
  refine y_push rfl ?_
  refine y_iald (v := (σ 548 106)) (n := 2108) rfl rfl (by decide) rfl (by decide) rfl ?_
  refine y_ifne rfl (fun q7 => ?_) (fun q7 => ?_)
  · skip
    refine y_aload rfl rfl rfl ?_
    refine y_gfr (t := 548) rfl rfl (by decide) rfl (by decide) ?_
    refine y_push rfl ?_
    refine y_dup2 rfl rfl rfl ?_
    refine y_iald (v := (σ 548 106)) (n := 2108) rfl rfl (by decide) rfl (by decide) rfl ?_
    refine y_push rfl ?_
    refine y_isub (v := ((σ 548 106) - 1)) rfl rfl (by omega) ?_
    refine y_iast (n := 2108) rfl rfl (by decide) rfl (by decide) ?_
    refine y_push rfl ?_
    refine y_push rfl ?_
    refine y_aload rfl rfl rfl ?_
    refine y_gfr (t := 548) rfl rfl (by decide) rfl (by decide) ?_
    refine y_push rfl ?_
    refine y_iald (v := ((σ 548 106) - 1)) (n := 2108) rfl rfl (by decide) rfl (by decide) (yeq _ _ _ _) ?_
    refine y_imul (v := (21 * ((σ 548 106) - 1))) rfl rfl (by omega) ?_
    refine y_iadd (v := (107 + (21 * ((σ 548 106) - 1)))) rfl rfl (by omega) ?_
    refine y_istore (L' := [some (2, 547), some (0, (107 + (21 * ((σ 548 106) - 1)))), none]) rfl rfl rfl rfl ?_
    refine y_push rfl ?_
    refine y_istore (L' := [some (2, 547), some (0, (107 + (21 * ((σ 548 106) - 1)))), some (0, 0)]) rfl rfl rfl rfl ?_
    exact l_undo1 hx hg hN (by omega) 10 (yset σ 548 106 ((σ 548 106) - 1)) 0 (by omega) (by omega) (fun x y a => yne (by omega) rfl) (fun c a b => by omega) (yeq _ _ _ _) (wfr_s (wfr_0 _ _) (by omega))
  · skip
    refine y_aload rfl rfl rfl ?_
    refine y_push rfl ?_
    refine y_vi (as := [(2, 547), (0, (-3))]) (S := []) rfl rfl rfl rfl rfl rfl (by decide) rfl (m_met3 (by omega)) ?_
    rintro _ _ ⟨rfl, rfl⟩
    refine y_iret rfl rfl ⟨_, rfl, ?_⟩
    have hK : kundo Z M = (_, Z, bump M 1) := if_pos (by omega)
    rw [hK]
    exact ⟨rfl, mW_bump hg hx (by omega) rfl, cfr_s (cfr_0 _) (by omega)⟩
theorem lm_run {g : Launch × XG × va_G} {σ : YS} {Z : YZ} {I : Int → YZ} {M : YS} {N : Int} {m c q : Int} (hx : mW σ Z I M) (hg : wG Z I M N) (hN : N < 100000) (hm : (0 ≤ m ∧ m ≤ 400) ∧ (0 ≤ c ∧ c < Z 0 0 0) ∧ (0 ≤ q ∧ q ≤ 1) ∧ ¬ (q = 1 ∧ c ≠ 0)) : ∀ (nn : Nat) (τ : YS) (t : Int), m - t < (nn : Int) → (0 ≤ t ∧ t ≤ m) → (rm τ (Z 0) (msteps (Z 0) (Z 1) t.toNat)) → (mfs σ τ) → YW g 110 52 [some (2, 547), some (0, m), some (0, c), some (0, q), some (0, t)] [] τ (fun rv σ' => ∃ b, rv = some (0, b) ∧ (b = (krun Z M m c q).1 ∧ mW σ' (krun Z M m c q).2.1 I (krun Z M m c q).2.2 ∧ cfr σ σ')) := by
  intro nn
  induction nn with
  | zero =>
    intro τ t hn h0 h1 h2
    exfalso
    omega
  | succ nn ih =>
    intro τ t hn h0 h1 h2
    have e1 := hg.1.1.1
    refine y_iload rfl rfl ?_
    refine y_iload rfl rfl ?_
    refine y_icge rfl (fun q55 => ?_) (fun q55 => ?_)
    · skip
      refine y_iload rfl rfl ?_
      refine y_ifne rfl (fun q70 => ?_) (fun q70 => ?_)
      · skip
        refine y_aload rfl rfl rfl ?_
        refine y_vi (as := [(2, 547)]) (S := []) rfl rfl rfl rfl rfl rfl (by decide) rfl (m_going h1 hg.1.1) ?_
        rintro _ _ ⟨rfl, rfl⟩
        refine y_iret rfl rfl ⟨_, rfl, ?_⟩
        have hK : krun Z M m c q = (if q = 0 then msteps (Z 0) (Z 1) m.toNat 0 c else mgo (Z 0) (msteps (Z 0) (Z 1) m.toNat) (Z 0 1 0).toNat, Z, M) := if_pos hm
        rw [hK]
        have ht : t = m := by omega
        subst ht
        exact ⟨by dsimp only; rw [if_neg (by omega)], mW_mfs hg hx h2, fun x y a => h2 x y (by omega)⟩
      · skip
        refine y_aload rfl rfl rfl ?_
        refine y_gfr (t := 554) rfl rfl (by decide) rfl (by decide) ?_
        refine y_iload rfl rfl ?_
        refine y_iald (v := (τ 554 c)) (n := 9) rfl rfl (by decide) rfl (by omega) rfl ?_
        refine y_goto rfl ?_
        refine y_iret rfl rfl ⟨_, rfl, ?_⟩
        have hK : krun Z M m c q = (if q = 0 then msteps (Z 0) (Z 1) m.toNat 0 c else mgo (Z 0) (msteps (Z 0) (Z 1) m.toNat) (Z 0 1 0).toNat, Z, M) := if_pos hm
        rw [hK]
        have ht : t = m := by omega
        subst ht
        exact ⟨by dsimp only; rw [if_pos (by omega), ← h1.2.1 c (by omega) (by omega)], mW_mfs hg hx h2, fun x y a => h2 x y (by omega)⟩
    · skip
      refine y_aload rfl rfl rfl ?_
      refine y_vi (as := [(2, 547)]) (S := []) rfl rfl rfl rfl rfl rfl (by decide) rfl (m_goStep h1 hg.1.1 (dG_steps hg.1.2.1 hg.1.1 _) (by rw [msteps_5]; have := hg.1.2.2.1; omega)) ?_
      rintro _ σ2 ⟨y1, rfl, y2⟩
      refine y_pop rfl rfl ?_
      refine y_iinc (L' := [some (2, 547), some (0, m), some (0, c), some (0, q), some (0, (t + 1))]) rfl rfl rfl rfl rfl (by omega) ?_
      refine y_goto rfl ?_
      exact ih σ2 (t + 1) (by omega) (by omega) (by rw [show (t + 1).toNat = t.toNat + 1 by omega]; exact y1) (mfs_t h2 (rfr_m y2))
theorem m_run {g : Launch × XG × va_G} {σ : YS} {Z : YZ} {I : Int → YZ} {M : YS} {N : Int} {m c q : Int} (hx : mW σ Z I M) (hg : wG Z I M N) (hN : N < 100000) : YI g 110 [(2, 547), (0, m), (0, c), (0, q)] σ (fun b σ' => b = (krun Z M m c q).1 ∧ mW σ' (krun Z M m c q).2.1 I (krun Z M m c q).2.2 ∧ cfr σ σ') := by
  refine y_start rfl rfl rfl ?_
  have ⟨⟨hz, hu, hur⟩, x2, x3, ⟨x4, x5⟩, x6, x7⟩ := hx
  have ⟨⟨he, hd, hn, hu2, h67, hk⟩, g2, g3, g4⟩ := hg
  have ⟨⟨f1, f2, f3⟩, f5, f6, f7, f8⟩ := hz
  have ⟨e1, e2, e3⟩ := he
  have x60 : σ 551 0 = M 3 0 := x6 0 (by omega) (by omega)
  have x61 : σ 551 1 = M 3 1 := x6 1 (by omega) (by omega)
  have x62 : σ 551 2 = M 3 2 := x6 2 (by omega) (by omega)
  have g40 := g4 0 (by omega) (by omega)
  have g41 := g4 1 (by omega) (by omega)
  have g42 := g4 2 (by omega) (by omega)
  have hu : σ 548 106 = Z 2 0 0 := hu
  have f1 : σ 548 (0 + 0) = Z 0 0 0 := f1
  have f10 : σ 548 0 = Z 0 0 0 := f1
  have f2 : σ 548 (0 + 10) = Z 0 1 0 := f2
  have f20 : σ 548 10 = Z 0 1 0 := f2
  have f30 : σ 548 105 = Z 1 5 0 := f3
  refine y_iload rfl rfl ?_
  refine y_i2l rfl ?_
  refine y_lconst (v := 0) rfl rfl ?_
  refine y_ldc2 (v := 400) rfl rfl ?_
  refine y_si (as := [(1, m), (1, 0), (1, 400)]) (S := []) rfl rfl rfl rfl rfl rfl m_lies ?_
  rintro _ _ ⟨rfl, rfl⟩
  refine y_ifeq rfl (fun q9 => ?_) (fun q9 => ?_)
  · skip
    replace q9 := yb_0.mp q9
    refine y_aload rfl rfl rfl ?_
    refine y_vi (as := [(2, 547)]) (S := []) rfl rfl rfl rfl rfl rfl (by decide) rfl (m_badElse (by omega)) ?_
    rintro _ _ ⟨rfl, rfl⟩
    refine y_iret rfl rfl ⟨_, rfl, ?_⟩
    have hK : krun Z M m c q = (-10, Z, bump M 0) := if_neg (by omega)
    rw [hK]
    exact ⟨rfl, mW_bump hg hx (by omega) rfl, cfr_s (cfr_0 _) (by omega)⟩
  · skip
    replace q9 := yb_1.mp q9
    refine y_aload rfl rfl rfl ?_
    refine y_push rfl ?_
    refine y_iload rfl rfl ?_
    refine y_vi (as := [(2, 547), (0, 0), (0, c)]) (S := []) rfl rfl rfl rfl rfl rfl (by decide) rfl (m_isCell (r := 0) (Or.inl rfl) f1 (by omega)) ?_
    rintro _ _ ⟨rfl, rfl⟩
    refine y_ifeq rfl (fun q18 => ?_) (fun q18 => ?_)
    · skip
      replace q18 := yb_0.mp q18
      refine y_aload rfl rfl rfl ?_
      refine y_vi (as := [(2, 547)]) (S := []) rfl rfl rfl rfl rfl rfl (by decide) rfl (m_badElse (by omega)) ?_
      rintro _ _ ⟨rfl, rfl⟩
      refine y_iret rfl rfl ⟨_, rfl, ?_⟩
      have hK : krun Z M m c q = (-10, Z, bump M 0) := if_neg (by omega)
      rw [hK]
      exact ⟨rfl, mW_bump hg hx (by omega) rfl, cfr_s (cfr_0 _) (by omega)⟩
    · skip
      replace q18 := yb_1.mp q18
      refine y_iload rfl rfl ?_
      refine y_i2l rfl ?_
      refine y_lconst (v := 0) rfl rfl ?_
      refine y_lconst (v := 1) rfl rfl ?_
      refine y_si (as := [(1, q), (1, 0), (1, 1)]) (S := []) rfl rfl rfl rfl rfl rfl m_lies ?_
      rintro _ _ ⟨rfl, rfl⟩
      refine y_ifeq rfl (fun q28 => ?_) (fun q28 => ?_)
      · skip
        replace q28 := yb_0.mp q28
        refine y_aload rfl rfl rfl ?_
        refine y_vi (as := [(2, 547)]) (S := []) rfl rfl rfl rfl rfl rfl (by decide) rfl (m_badElse (by omega)) ?_
        rintro _ _ ⟨rfl, rfl⟩
        refine y_iret rfl rfl ⟨_, rfl, ?_⟩
        have hK : krun Z M m c q = (-10, Z, bump M 0) := if_neg (by omega)
        rw [hK]
        exact ⟨rfl, mW_bump hg hx (by omega) rfl, cfr_s (cfr_0 _) (by omega)⟩
      · skip
        replace q28 := yb_1.mp q28
        refine y_iload rfl rfl ?_
        refine y_push rfl ?_
        refine y_icne rfl (fun q33 => ?_) (fun q33 => ?_)
        · skip
          refine y_aload rfl rfl rfl ?_
          refine y_vu (as := [(2, 547)]) (S := []) rfl rfl rfl rfl rfl rfl (by decide) rfl (m_layNow hz hg.1.1 hd h67.1) ?_
          rintro σ1 ⟨l1, l2⟩
          refine y_push rfl ?_
          refine y_istore (L' := [some (2, 547), some (0, m), some (0, c), some (0, q), some (0, 0)]) rfl rfl rfl rfl ?_
          exact lm_run hx hg hN (by omega) (m.toNat + 1) σ1 0 (by omega) (by omega) l1 l2
        · skip
          refine y_iload rfl rfl ?_
          refine y_ifeq rfl (fun q37 => ?_) (fun q37 => ?_)
          · skip
            refine y_aload rfl rfl rfl ?_
            refine y_vu (as := [(2, 547)]) (S := []) rfl rfl rfl rfl rfl rfl (by decide) rfl (m_layNow hz hg.1.1 hd h67.1) ?_
            rintro σ1 ⟨l1, l2⟩
            refine y_push rfl ?_
            refine y_istore (L' := [some (2, 547), some (0, m), some (0, c), some (0, q), some (0, 0)]) rfl rfl rfl rfl ?_
            exact lm_run hx hg hN (by omega) (m.toNat + 1) σ1 0 (by omega) (by omega) l1 l2
          · skip
            refine y_aload rfl rfl rfl ?_
            refine y_vi (as := [(2, 547)]) (S := []) rfl rfl rfl rfl rfl rfl (by decide) rfl (m_badElse (by omega)) ?_
            rintro _ _ ⟨rfl, rfl⟩
            refine y_iret rfl rfl ⟨_, rfl, ?_⟩
            have hK : krun Z M m c q = (-10, Z, bump M 0) := if_neg (by omega)
            rw [hK]
            exact ⟨rfl, mW_bump hg hx (by omega) rfl, cfr_s (cfr_0 _) (by omega)⟩
theorem m_stops {g : Launch × XG × va_G} {σ : YS} {Z : YZ} {I : Int → YZ} {M : YS} {N : Int}  (hx : mW σ Z I M) (hg : wG Z I M N) (hN : N < 100000) : YI g 69 [(2, 547)] σ (fun b σ' => sets (Z 0) (Z 1) b ∧ mW σ' Z I M ∧ cfr σ σ') := by
  refine y_start rfl rfl rfl ?_
  have ⟨⟨hz, hu, hur⟩, x2, x3, ⟨x4, x5⟩, x6, x7⟩ := hx
  have ⟨⟨he, hd, hn, hu2, h67, hk⟩, g2, g3, g4⟩ := hg
  have ⟨⟨f1, f2, f3⟩, f5, f6, f7, f8⟩ := hz
  have ⟨e1, e2, e3⟩ := he
  have x60 : σ 551 0 = M 3 0 := x6 0 (by omega) (by omega)
  have x61 : σ 551 1 = M 3 1 := x6 1 (by omega) (by omega)
  have x62 : σ 551 2 = M 3 2 := x6 2 (by omega) (by omega)
  have g40 := g4 0 (by omega) (by omega)
  have g41 := g4 1 (by omega) (by omega)
  have g42 := g4 2 (by omega) (by omega)
  have hu : σ 548 106 = Z 2 0 0 := hu
  have f1 : σ 548 (0 + 0) = Z 0 0 0 := f1
  have f10 : σ 548 0 = Z 0 0 0 := f1
  have f2 : σ 548 (0 + 10) = Z 0 1 0 := f2
  have f20 : σ 548 10 = Z 0 1 0 := f2
  have f30 : σ 548 105 = Z 1 5 0 := f3
  refine y_aload rfl rfl rfl ?_
  refine y_vu (as := [(2, 547)]) (S := []) rfl rfl rfl rfl rfl rfl (by decide) rfl (m_layNow hz hg.1.1 hd h67.1) ?_
  rintro σ1 ⟨l1, l2⟩
  refine y_aload rfl rfl rfl ?_
  refine y_vi (as := [(2, 547)]) (S := []) rfl rfl rfl rfl rfl rfl (by decide) rfl (m_goToStop l1 hg.1.1 hd (by omega)) ?_
  rintro b_ σ2 ⟨y1, y2, y3, y4⟩
  refine y_iret rfl rfl ⟨_, rfl, ?_⟩
  have q := mfs_t l2 (rfr_m y3)
  exact ⟨y1, mW_mfs hg hx q, fun x y a => q x y (by omega)⟩
theorem m_mix {g : Launch × XG × va_G} {σ : YS} {v : Int} {h : Int} (hh : σ 547 24 = h) : YU g 108 [(2, 547), (1, v)] σ (fun σ' => yset σ 547 24 (ymix h v) = σ') := by
  refine y_start rfl rfl rfl ?_
  refine y_aload rfl rfl rfl ?_
  refine y_ldc2 (v := 31) rfl rfl ?_
  refine y_aload rfl rfl rfl ?_
  refine y_gfj (v := (σ 547 24)) rfl rfl (by decide) rfl rfl rfl rfl ?_
  refine y_lmul (v := (ylmul 31 (σ 547 24))) rfl rfl ?_
  refine y_lload rfl rfl ?_
  refine y_ladd (v := (yladd (ylmul 31 (σ 547 24)) v)) rfl rfl ?_
  refine y_pfj (j := 24) rfl rfl (by decide) rfl rfl rfl rfl rfl ?_
  refine y_ret rfl rfl ⟨rfl, ?_⟩
  subst hh
  exact rfl
