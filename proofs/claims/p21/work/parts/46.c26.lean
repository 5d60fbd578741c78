theorem l_minds3 {g : Launch × XG × va_G} {σ : YS} {Z : YZ} {I : Int → YZ} {M : YS} {N : Int} {w : Int} (hx : mW σ Z I M) (hg : wG Z I M N) (hN : N < 100000) (hw : (0 ≤ w ∧ w ≤ 19 ∧ w + 1 = min (Z 2 0 0 + 1) 20)) : ∀ (nn : Nat) (τ : YS) (k : Int), 12 - k < (nn : Int) → (0 ≤ k ∧ k ≤ 12) → (∀ y, y < 106 → τ 548 y = σ 548 y) → (∀ k, 0 ≤ k → k < w → mzr τ (107 + 21 * (w - 1 - k)) (Z 0) (Z (3 + k))) → (τ 548 106 = w) → (∀ c, 0 ≤ c → c < 9 → τ 548 (107 + 21 * w + c) = σ 548 (1 + c)) → (∀ c, 0 ≤ c → c < k → τ 548 (107 + 21 * w + 9 + c) = σ 548 (14 + c)) → (wfr σ τ 0) → YW g 54 105 [some (2, 547), some (0, (107 + (21 * w))), some (0, k)] [] τ (fun rv σ' => rv = none ∧ (mzs σ' 0 (Z 0) (Z 1) ∧ σ' 548 106 = min (Z 2 0 0 + 1) 20 ∧ (∀ k, 0 ≤ k → k < min (Z 2 0 0 + 1) 20 → mzr σ' (107 + 21 * (min (Z 2 0 0 + 1) 20 - 1 - k)) (Z 0) (upush (fun k => Z (3 + k)) (Z 1) k)) ∧ wfr σ σ' 0)) := by
  intro nn
  induction nn with
  | zero =>
    intro τ k hn h0 h1 h2 h3 h4 h5 h6
    exfalso
    omega
  | succ nn ih =>
    intro τ k hn h0 h1 h2 h3 h4 h5 h6
    have ⟨⟨hz, hu, hur⟩, x2, x3, ⟨x4, x5⟩, x6, x7⟩ := hx
    have ⟨⟨he, hd, hn, hu2, h67, hk⟩, g2, g3, g4⟩ := hg
    have ⟨⟨f1, f2, f3⟩, f5, f6, f7, f8⟩ := hz
    have ⟨e1, e2, e3⟩ := he
    have x60 : σ 551 0 = M 3 0 := x6 0 (by omega) (by omega)
    have x61 : σ 551 1 = M 3 1 := x6 1 (by omega) (by omega)
    have x62 : σ 551 2 = M 3 2 := x6 2 (by omega) (by omega)
    have g40 := g4 0 (by omega) (by omega)
    have g41 := g4 1 (by omega) (by omega)
    have g42 := g4 2 (by omega) (by omega)
    have hu : σ 548 106 = Z 2 0 0 := hu
    have f1 : σ 548 (0 + 0) = Z 0 0 0 := f1
    have f10 : σ 548 0 = Z 0 0 0 := f1
    have f2 : σ 548 (0 + 10) = Z 0 1 0 := f2
    have f20 : σ 548 10 = Z 0 1 0 := f2
    have f30 : σ 548 105 = Z 1 5 0 := f3
    have f50 : ∀ c, 0 ≤ c → c < 9 → σ 548 (1 + c) = Z 1 0 c := f5
    have f80 : ∀ j, 0 ≤ j → j < 4 → σ 548 (101 + j) = Z 0 7 j := f8
    refine y_iload rfl rfl ?_
    refine y_push rfl ?_
    refine y_icge rfl (fun q108 => ?_) (fun q108 => ?_)
    · skip
      refine y_aload rfl rfl rfl ?_
      refine y_gfr (t := 548) rfl rfl (by decide) rfl (by decide) ?_
      refine y_push rfl ?_
      refine y_dup2 rfl rfl rfl ?_
      refine y_iald (v := (τ 548 106)) (n := 2108) rfl rfl (by decide) rfl (by decide) rfl ?_
      refine y_push rfl ?_
      refine y_iadd (v := ((τ 548 106) + 1)) rfl rfl (by omega) ?_
      refine y_iast (n := 2108) rfl rfl (by decide) rfl (by decide) ?_
      refine y_ret rfl rfl ⟨rfl, ?_⟩
      have q6 : τ 548 106 = w := h3
      refine ⟨mzs_cong hg.1.1 hz (fun y a b => by rw [yne (by omega) rfl]; exact h1 y (by omega)), by rw [yeq, q6]; exact hw.2.2, fun k a b => ?_, wfr_s h6 (by omega)⟩
      refine mzr_cong (σ := τ) e2 ?_ (fun y a b => yne (by omega) rfl)
      unfold upush
      split
      · rename_i ek; subst ek
        rw [show (107 : Int) + 21 * (min (Z 2 0 0 + 1) 20 - 1 - 0) = 107 + 21 * w by omega]
        refine ⟨fun c x y => by rw [h4 c x y]; exact f50 c x y, fun i x y => ?_⟩
        have ⟨⟨b1, b2, b3, b4⟩, b5, b6, b7, b8⟩ := f6 i x y
        have r1 := h5 i (by omega) (by omega)
        have r2 := h5 (3 + i) (by omega) (by omega)
        have r3 := h5 (6 + i) (by omega) (by omega)
        have r4 := h5 (9 + i) (by omega) (by omega)
        rw [r1, r2, r3, r4, show (14 : Int) + (3 + i) = 0 + 17 + i by omega, show (14 : Int) + (6 + i) = 0 + 20 + i by omega, show (14 : Int) + (9 + i) = 0 + 23 + i by omega]
        exact ⟨⟨b2, b3, b4⟩, b7, b8⟩
      · have := h2 (k - 1) (by omega) (by omega)
        rw [show (107 : Int) + 21 * (min (Z 2 0 0 + 1) 20 - 1 - k) = 107 + 21 * (w - 1 - (k - 1)) by omega]
        exact this
    · skip
      refine y_aload rfl rfl rfl ?_
      refine y_gfr (t := 548) rfl rfl (by decide) rfl (by decide) ?_
      refine y_iload rfl rfl ?_
      refine y_push rfl ?_
      refine y_iadd (v := ((107 + (21 * w)) + 9)) rfl rfl (by omega) ?_
      refine y_iload rfl rfl ?_
      refine y_iadd (v := (((107 + (21 * w)) + 9) + k)) rfl rfl (by omega) ?_
      refine y_aload rfl rfl rfl ?_
      refine y_gfr (t := 548) rfl rfl (by decide) rfl (by decide) ?_
      refine y_push rfl ?_
      refine y_iload rfl rfl ?_
      refine y_iadd (v := (14 + k)) rfl rfl (by omega) ?_
      refine y_iald (v := (τ 548 (14 + k))) (n := 2108) rfl rfl (by decide) rfl (by omega) rfl ?_
      refine y_iast (n := 2108) rfl rfl (by decide) rfl (by omega) ?_
      refine y_iinc (L' := [some (2, 547), some (0, (107 + (21 * w))), some (0, (k + 1))]) rfl rfl rfl rfl rfl (by omega) ?_
      refine y_goto rfl ?_
      refine ih (yset τ 548 (((107 + (21 * w)) + 9) + k) (τ 548 (14 + k))) (k + 1) (by omega) (by omega) (fun y a => by rw [yne (by omega) rfl]; exact h1 y a) (fun q a b => mzr_cong hg.1.1.2.1 (h2 q a b) (fun y c d => yne (by omega) rfl)) (by rw [yne (by omega) rfl]; exact h3) (fun c a b => by rw [yne (by omega) rfl]; exact h4 c a b) (fun c a b => ?_) (wfr_s h6 (by omega))
      by_cases e : c = k
      · subst e; rw [yeq]; exact h1 _ (by omega)
      · rw [yne (by omega) rfl]; exact h5 c a (by omega)
theorem l_minds2 {g : Launch × XG × va_G} {σ : YS} {Z : YZ} {I : Int → YZ} {M : YS} {N : Int} {w : Int} (hx : mW σ Z I M) (hg : wG Z I M N) (hN : N < 100000) (hw : (0 ≤ w ∧ w ≤ 19 ∧ w + 1 = min (Z 2 0 0 + 1) 20)) : ∀ (nn : Nat) (τ : YS) (k : Int), 9 - k < (nn : Int) → (0 ≤ k ∧ k ≤ 9) → (∀ y, y < 106 → τ 548 y = σ 548 y) → (∀ k, 0 ≤ k → k < w → mzr τ (107 + 21 * (w - 1 - k)) (Z 0) (Z (3 + k))) → (τ 548 106 = w) → (∀ c, 0 ≤ c → c < k → τ 548 (107 + 21 * w + c) = σ 548 (1 + c)) → (wfr σ τ 0) → YW g 54 75 [some (2, 547), some (0, (107 + (21 * w))), some (0, k)] [] τ (fun rv σ' => rv = none ∧ (mzs σ' 0 (Z 0) (Z 1) ∧ σ' 548 106 = min (Z 2 0 0 + 1) 20 ∧ (∀ k, 0 ≤ k → k < min (Z 2 0 0 + 1) 20 → mzr σ' (107 + 21 * (min (Z 2 0 0 + 1) 20 - 1 - k)) (Z 0) (upush (fun k => Z (3 + k)) (Z 1) k)) ∧ wfr σ σ' 0)) := by
  intro nn
  induction nn with
  | zero =>
    intro τ k hn h0 h1 h2 h3 h4 h5
    exfalso
    omega
  | succ nn ih =>
    intro τ k hn h0 h1 h2 h3 h4 h5
    have ⟨⟨hz, hu, hur⟩, x2, x3, ⟨x4, x5⟩, x6, x7⟩ := hx
    have ⟨⟨he, hd, hn, hu2, h67, hk⟩, g2, g3, g4⟩ := hg
    have ⟨⟨f1, f2, f3⟩, f5, f6, f7, f8⟩ := hz
    have ⟨e1, e2, e3⟩ := he
    have x60 : σ 551 0 = M 3 0 := x6 0 (by omega) (by omega)
    have x61 : σ 551 1 = M 3 1 := x6 1 (by omega) (by omega)
    have x62 : σ 551 2 = M 3 2 := x6 2 (by omega) (by omega)
    have g40 := g4 0 (by omega) (by omega)
    have g41 := g4 1 (by omega) (by omega)
    have g42 := g4 2 (by omega) (by omega)
    have hu : σ 548 106 = Z 2 0 0 := hu
    have f1 : σ 548 (0 + 0) = Z 0 0 0 := f1
    have f10 : σ 548 0 = Z 0 0 0 := f1
    have f2 : σ 548 (0 + 10) = Z 0 1 0 := f2
    have f20 : σ 548 10 = Z 0 1 0 := f2
    have f30 : σ 548 105 = Z 1 5 0 := f3
    have f50 : ∀ c, 0 ≤ c → c < 9 → σ 548 (1 + c) = Z 1 0 c := f5
    have f80 : ∀ j, 0 ≤ j → j < 4 → σ 548 (101 + j) = Z 0 7 j := f8
    refine y_iload rfl rfl ?_
    refine y_push rfl ?_
    refine y_icge rfl (fun q78 => ?_) (fun q78 => ?_)
    · skip
      refine y_push rfl ?_
      refine y_istore (L' := [some (2, 547), some (0, (107 + (21 * w))), some (0, 0)]) rfl rfl rfl rfl ?_
      exact l_minds3 hx hg hN hw 13 τ 0 (by omega) (by omega) h1 h2 h3 (fun c a b => h4 c a (by omega)) (fun c a b => by omega) h5
    · skip
      refine y_aload rfl rfl rfl ?_
      refine y_gfr (t := 548) rfl rfl (by decide) rfl (by decide) ?_
      refine y_iload rfl rfl ?_
      refine y_iload rfl rfl ?_
      refine y_iadd (v := ((107 + (21 * w)) + k)) rfl rfl (by omega) ?_
      refine y_aload rfl rfl rfl ?_
      refine y_gfr (t := 548) rfl rfl (by decide) rfl (by decide) ?_
      refine y_push rfl ?_
      refine y_iload rfl rfl ?_
      refine y_iadd (v := (1 + k)) rfl rfl (by omega) ?_
      refine y_iald (v := (τ 548 (1 + k))) (n := 2108) rfl rfl (by decide) rfl (by omega) rfl ?_
      refine y_iast (n := 2108) rfl rfl (by decide) rfl (by omega) ?_
      refine y_iinc (L' := [some (2, 547), some (0, (107 + (21 * w))), some (0, (k + 1))]) rfl rfl rfl rfl rfl (by omega) ?_
      refine y_goto rfl ?_
      refine ih (yset τ 548 ((107 + (21 * w)) + k) (τ 548 (1 + k))) (k + 1) (by omega) (by omega) (fun y a => by rw [yne (by omega) rfl]; exact h1 y a) (fun q a b => mzr_cong hg.1.1.2.1 (h2 q a b) (fun y c d => yne (by omega) rfl)) (by rw [yne (by omega) rfl]; exact h3) (fun c a b => ?_) (wfr_s h5 (by omega))
      by_cases e : c = k
      · subst e; rw [yeq]; exact h1 _ (by omega)
      · rw [yne (by omega) rfl]; exact h4 c a (by omega)
theorem l_minds1 {g : Launch × XG × va_G} {σ : YS} {Z : YZ} {I : Int → YZ} {M : YS} {N : Int}  (hx : mW σ Z I M) (hg : wG Z I M N) (hN : N < 100000) (h20 : Z 2 0 0 = 20) : ∀ (nn : Nat) (τ : YS) (k : Int), 399 - k < (nn : Int) → (0 ≤ k ∧ k ≤ 399) → (∀ c, 0 ≤ c → c < k → τ 548 (107 + c) = σ 548 (107 + c + 21)) → (∀ y, (y < 107 ∨ 107 + k ≤ y) → τ 548 y = σ 548 y) → (wfr σ τ 0) → YW g 54 14 [some (2, 547), some (0, k), none] [] τ (fun rv σ' => rv = none ∧ (mzs σ' 0 (Z 0) (Z 1) ∧ σ' 548 106 = min (Z 2 0 0 + 1) 20 ∧ (∀ k, 0 ≤ k → k < min (Z 2 0 0 + 1) 20 → mzr σ' (107 + 21 * (min (Z 2 0 0 + 1) 20 - 1 - k)) (Z 0) (upush (fun k => Z (3 + k)) (Z 1) k)) ∧ wfr σ σ' 0)) := by
  intro nn
  induction nn with
  | zero =>
    intro τ k hn h0 h1 h2 h3
    exfalso
    omega
  | succ nn ih =>
    intro τ k hn h0 h1 h2 h3
    have ⟨⟨hz, hu, hur⟩, x2, x3, ⟨x4, x5⟩, x6, x7⟩ := hx
    have ⟨⟨he, hd, hn, hu2, h67, hk⟩, g2, g3, g4⟩ := hg
    have ⟨⟨f1, f2, f3⟩, f5, f6, f7, f8⟩ := hz
    have ⟨e1, e2, e3⟩ := he
    have x60 : σ 551 0 = M 3 0 := x6 0 (by omega) (by omega)
    have x61 : σ 551 1 = M 3 1 := x6 1 (by omega) (by omega)
    have x62 : σ 551 2 = M 3 2 := x6 2 (by omega) (by omega)
    have g40 := g4 0 (by omega) (by omega)
    have g41 := g4 1 (by omega) (by omega)
    have g42 := g4 2 (by omega) (by omega)
    have hu : σ 548 106 = Z 2 0 0 := hu
    have f1 : σ 548 (0 + 0) = Z 0 0 0 := f1
    have f10 : σ 548 0 = Z 0 0 0 := f1
    have f2 : σ 548 (0 + 10) = Z 0 1 0 := f2
    have f20 : σ 548 10 = Z 0 1 0 := f2
    have f30 : σ 548 105 = Z 1 5 0 := f3
    have f50 : ∀ c, 0 ≤ c → c < 9 → σ 548 (1 + c) = Z 1 0 c := f5
    have f80 : ∀ j, 0 ≤ j → j < 4 → σ 548 (101 + j) = Z 0 7 j := f8
    refine y_iload rfl rfl ?_
    refine y_push rfl ?_
    refine y_icge rfl (fun q18 => ?_) (fun q18 => ?_)
    · skip
      have t6 : τ 548 106 = 20 := by rw [h2 _ (by omega), hu]; omega
      refine y_aload rfl rfl rfl ?_
      refine y_gfr (t := 548) rfl rfl (by decide) rfl (by decide) ?_
      refine y_push rfl ?_
      refine y_dup2 rfl rfl rfl ?_
      refine y_iald (v := (τ 548 106)) (n := 2108) rfl rfl (by decide) rfl (by decide) rfl ?_
      refine y_push rfl ?_
      refine y_isub (v := ((τ 548 106) - 1)) rfl rfl (by omega) ?_
      refine y_iast (n := 2108) rfl rfl (by decide) rfl (by decide) ?_
      refine y_push rfl ?_
      refine y_push rfl ?_
      refine y_aload rfl rfl rfl ?_
      refine y_gfr (t := 548) rfl rfl (by decide) rfl (by decide) ?_
      refine y_push rfl ?_
      refine y_iald (v := ((τ 548 106) - 1)) (n := 2108) rfl rfl (by decide) rfl (by decide) (yeq _ _ _ _) ?_
      refine y_imul (v := (21 * ((τ 548 106) - 1))) rfl rfl (by omega) ?_
      refine y_iadd (v := (107 + (21 * ((τ 548 106) - 1)))) rfl rfl (by omega) ?_
      refine y_istore (L' := [some (2, 547), some (0, (107 + (21 * ((τ 548 106) - 1)))), none]) rfl rfl rfl rfl ?_
      refine y_push rfl ?_
      refine y_istore (L' := [some (2, 547), some (0, (107 + (21 * ((τ 548 106) - 1)))), some (0, 0)]) rfl rfl rfl rfl ?_
      have t6 : τ 548 106 = 20 := by rw [h2 _ (by omega), hu]; omega
      rw [show (107 : Int) + 21 * (τ 548 106 - 1) = 107 + 21 * 19 by omega]
      refine l_minds2 (w := 19) hx hg hN (by omega) 10 (yset τ 548 106 ((τ 548 106) - 1)) 0 (by omega) (by omega) (fun y a => by rw [yne (by omega) rfl]; exact h2 y (by omega)) (fun q a b => ?_) (by rw [yeq, t6]; rfl) (fun c a b => by omega) (wfr_s h3 (by omega))
      have r := hur q a (by omega)
      have sh : ∀ y, 107 + 21 * (19 - 1 - q) ≤ y → y ≤ 107 + 21 * (19 - 1 - q) + 20 → yset τ 548 106 (τ 548 106 - 1) 548 y = σ 548 (y + 21) := fun y c d => by
        rw [yne (by omega) rfl]
        have := h1 (y - 107) (by omega) (by omega)
        rw [show (107 : Int) + (y - 107) = y by omega] at this
        exact this
      obtain ⟨c1, c2⟩ := r
      refine ⟨fun c x y => ?_, fun i x y => ?_⟩
      · rw [sh _ (by omega) (by omega), show (107 : Int) + 21 * (19 - 1 - q) + c + 21 = 0 + 107 + 21 * (Z 2 0 0 - 1 - q) + c by omega]; exact c1 c x y
      · rw [sh (107 + 21 * (19 - 1 - q) + 9 + i) (by omega) (by omega), sh (107 + 21 * (19 - 1 - q) + 9 + (3 + i)) (by omega) (by omega), sh (107 + 21 * (19 - 1 - q) + 9 + (6 + i)) (by omega) (by omega), sh (107 + 21 * (19 - 1 - q) + 9 + (9 + i)) (by omega) (by omega)]
        rw [show (107 : Int) + 21 * (19 - 1 - q) + 9 + i + 21 = 0 + 107 + 21 * (Z 2 0 0 - 1 - q) + 9 + i by omega, show (107 : Int) + 21 * (19 - 1 - q) + 9 + (3 + i) + 21 = 0 + 107 + 21 * (Z 2 0 0 - 1 - q) + 9 + (3 + i) by omega, show (107 : Int) + 21 * (19 - 1 - q) + 9 + (6 + i) + 21 = 0 + 107 + 21 * (Z 2 0 0 - 1 - q) + 9 + (6 + i) by omega, show (107 : Int) + 21 * (19 - 1 - q) + 9 + (9 + i) + 21 = 0 + 107 + 21 * (Z 2 0 0 - 1 - q) + 9 + (9 + i) by omega]
        exact c2 i x y
    · skip
      refine y_aload rfl rfl rfl ?_
      refine y_gfr (t := 548) rfl rfl (by decide) rfl (by decide) ?_
      refine y_push rfl ?_
      refine y_iload rfl rfl ?_
      refine y_iadd (v := (107 + k)) rfl rfl (by omega) ?_
      refine y_aload rfl rfl rfl ?_
      refine y_gfr (t := 548) rfl rfl (by decide) rfl (by decide) ?_
      refine y_push rfl ?_
      refine y_iload rfl rfl ?_
      refine y_iadd (v := (107 + k)) rfl rfl (by omega) ?_
      refine y_push rfl ?_
      refine y_iadd (v := ((107 + k) + 21)) rfl rfl (by omega) ?_
      refine y_iald (v := (τ 548 ((107 + k) + 21))) (n := 2108) rfl rfl (by decide) rfl (by omega) rfl ?_
      refine y_iast (n := 2108) rfl rfl (by decide) rfl (by omega) ?_
      refine y_iinc (L' := [some (2, 547), some (0, (k + 1)), none]) rfl rfl rfl rfl rfl (by omega) ?_
      refine y_goto rfl ?_
      refine ih (yset τ 548 (107 + k) (τ 548 ((107 + k) + 21))) (k + 1) (by omega) (by omega) (fun c a b => ?_) (fun y a => by rw [yne (by omega) rfl]; exact h2 y (by omega)) (wfr_s h3 (by omega))
      by_cases e : c = k
      · subst e; rw [yeq]; exact h2 _ (by omega)
      · rw [yne (by omega) rfl]; exact h1 c a (by omega)
theorem m_minds {g : Launch × XG × va_G} {σ : YS} {Z : YZ} {I : Int → YZ} {M : YS} {N : Int}  (hx : mW σ Z I M) (hg : wG Z I M N) (hN : N < 100000) : YU g 54 [(2, 547)] σ (fun σ' => mzs σ' 0 (Z 0) (Z 1) ∧ σ' 548 106 = min (Z 2 0 0 + 1) 20 ∧ (∀ k, 0 ≤ k → k < min (Z 2 0 0 + 1) 20 → mzr σ' (107 + 21 * (min (Z 2 0 0 + 1) 20 - 1 - k)) (Z 0) (upush (fun k => Z (3 + k)) (Z 1) k)) ∧ wfr σ σ' 0) := by
  refine y_start rfl rfl rfl ?_
  have ⟨⟨hz, hu, hur⟩, x2, x3, ⟨x4, x5⟩, x6, x7⟩ := hx
  have ⟨⟨he, hd, hn, hu2, h67, hk⟩, g2, g3, g4⟩ := hg
  have ⟨⟨f1, f2, f3⟩, f5, f6, f7, f8⟩ := hz
  have ⟨e1, e2, e3⟩ := he
  have x60 : σ 551 0 = M 3 0 := x6 0 (by omega) (by omega)
  have x61 : σ 551 1 = M 3 1 := x6 1 (by omega) (by omega)
  have x62 : σ 551 2 = M 3 2 := x6 2 (by omega) (by omega)
  have g40 := g4 0 (by omega) (by omega)
  have g41 := g4 1 (by omega) (by omega)
  have g42 := g4 2 (by omega) (by omega)
  have hu : σ 548 106 = Z 2 0 0 := hu
  have f1 : σ 548 (0 + 0) = Z 0 0 0 := f1
  have f10 : σ 548 0 = Z 0 0 0 := f1
  have f2 : σ 548 (0 + 10) = Z 0 1 0 := f2
  have f20 : σ 548 10 = Z 0 1 0 := f2
  have f30 : σ 548 105 = Z 1 5 0 := f3
  have f50 : ∀ c, 0 ≤ c → c < 9 → σ 548 (1 + c) = Z 1 0 c := f5
  have f80 : ∀ j, 0 ≤ j → j < 4 → σ 548 (101 + j) = Z 0 7 j := f8
  refine y_aload rfl rfl rfl ?_
  refine y_gfr (t := 548) rfl rfl (by decide) rfl (by decide) ?_
  refine y_push rfl ?_
  refine y_iald (v := (σ 548 106)) (n := 2108) rfl rfl (by decide) rfl (by decide) rfl ?_
  refine y_push rfl ?_
  refine y_icne rfl (fun q9 => ?_) (fun q9 => ?_)
  · skip
    refine y_push rfl ?_
    refine y_push rfl ?_
    refine y_aload rfl rfl rfl ?_
    refine y_gfr (t := 548) rfl rfl (by decide) rfl (by decide) ?_
    refine y_push rfl ?_
    refine y_iald (v := (σ 548 106)) (n := 2108) rfl rfl (by decide) rfl (by decide) rfl ?_
    refine y_imul (v := (21 * (σ 548 106))) rfl rfl (by omega) ?_
    refine y_iadd (v := (107 + (21 * (σ 548 106)))) rfl rfl (by omega) ?_
    refine y_istore (L' := [some (2, 547), some (0, (107 + (21 * (σ 548 106)))), none]) rfl rfl rfl rfl ?_
    refine y_push rfl ?_
    refine y_istore (L' := [some (2, 547), some (0, (107 + (21 * (σ 548 106)))), some (0, 0)]) rfl rfl rfl rfl ?_
    rw [hu]
    exact l_minds2 (w := Z 2 0 0) hx hg hN (by omega) 10 σ 0 (by omega) (by omega) (fun y a => rfl) (fun q a b => by have := hur q a b; rw [show (0 : Int) + 107 = 107 by omega] at this; exact this) hu (fun c a b => by omega) (wfr_0 _ _)
  · skip
    refine y_push rfl ?_
    refine y_istore (L' := [some (2, 547), some (0, 0), none]) rfl rfl rfl rfl ?_
    exact l_minds1 hx hg hN (by omega) 400 σ 0 (by omega) (by omega) (fun c a b => by omega) (fun y a => rfl) (wfr_0 _ _)
