theorem yset_2 {σ : YS} {k j v w : Int} : yset (yset σ k j v) k j w = yset σ k j w := by
  funext a b
  by_cases e : a = k ∧ b = j
  · obtain ⟨rfl, rfl⟩ := e; rw [yeq, yeq]
  · rw [yne e rfl, yne e rfl, yne e rfl]
theorem lm_digest4 {g : Launch × XG × va_G} {σ : YS} {Z : YZ} {I : Int → YZ} {M : YS} {N : Int}  (hx : mW σ Z I M) (hg : wG Z I M N) (hN : N < 100000) : ∀ (nn : Nat) (k : Int) (h : Int), 4 - k < (nn : Int) → (0 ≤ k ∧ k ≤ 4) → (h = mixr (Z 0 7) k.toNat (mixms (Z 0) (Z 1) (Z 0 1 0).toNat (mixr (Z 1 0) (Z 0 0 0).toNat (mixr (khow Z M) 5 809)))) → YW g 107 202 [some (2, 547), some (0, k), none] [] (yset σ 547 24 h) (fun rv σ' => ∃ b, rv = some (1, b) ∧ (kdigest Z M = b ∧ mW σ' Z I M ∧ cfr σ σ')) := by
  intro nn
  induction nn with
  | zero =>
    intro k h hn h0 h1
    exfalso
    omega
  | succ nn ih =>
    intro k h hn h0 h1
    have ⟨⟨hz, hu, hur⟩, x2, x3, ⟨x4, x5⟩, x6, x7⟩ := hx
    have ⟨⟨he, hd, hn, hu2, h67, hk⟩, g2, g3, g4⟩ := hg
    have ⟨⟨f1, f2, f3⟩, f5, f6, f7, f8⟩ := hz
    have ⟨e1, e2, e3⟩ := he
    have x60 : σ 551 0 = M 3 0 := x6 0 (by omega) (by omega)
    have x61 : σ 551 1 = M 3 1 := x6 1 (by omega) (by omega)
    have x62 : σ 551 2 = M 3 2 := x6 2 (by omega) (by omega)
    have g40 := g4 0 (by omega) (by omega)
    have g41 := g4 1 (by omega) (by omega)
    have g42 := g4 2 (by omega) (by omega)
    have hu : σ 548 106 = Z 2 0 0 := hu
    have f1 : σ 548 (0 + 0) = Z 0 0 0 := f1
    have f10 : σ 548 0 = Z 0 0 0 := f1
    have f2 : σ 548 (0 + 10) = Z 0 1 0 := f2
    have f20 : σ 548 10 = Z 0 1 0 := f2
    have f30 : σ 548 105 = Z 1 5 0 := f3
    have f50 : ∀ c, 0 ≤ c → c < 9 → σ 548 (1 + c) = Z 1 0 c := f5
    have f80 : ∀ j, 0 ≤ j → j < 4 → σ 548 (101 + j) = Z 0 7 j := f8
    refine y_iload rfl rfl ?_
    refine y_push rfl ?_
    refine y_icge rfl (fun q204 => ?_) (fun q204 => ?_)
    · skip
      refine y_aload rfl rfl rfl ?_
      refine y_gfj (v := h) rfl rfl (by decide) rfl rfl rfl (yeq _ _ _ _) ?_
      refine y_jret rfl rfl ⟨_, rfl, ?_⟩
      exact ⟨by rw [h1, show k = 4 by omega]; rfl, mW_mfs hg hx (mfs_s (mfs_0 _) (by omega)), cfr_s (cfr_0 _) (by omega)⟩
    · skip
      refine y_aload rfl rfl rfl ?_
      refine y_aload rfl rfl rfl ?_
      refine y_gfr (t := 548) rfl rfl (by decide) rfl (by decide) ?_
      refine y_push rfl ?_
      refine y_iload rfl rfl ?_
      refine y_iadd (v := (101 + k)) rfl rfl (by omega) ?_
      refine y_iald (v := (σ 548 (101 + k))) (n := 2108) rfl rfl (by decide) rfl (by omega) (yne (by omega) rfl) ?_
      refine y_i2l rfl ?_
      refine y_vu (as := [(2, 547), (1, (σ 548 (101 + k)))]) (S := []) rfl rfl rfl rfl rfl rfl (by decide) rfl (m_mix (h := h) (yeq _ _ _ _)) ?_
      rintro _ rfl
      refine y_iinc (L' := [some (2, 547), some (0, (k + 1)), none]) rfl rfl rfl rfl rfl (by omega) ?_
      refine y_goto rfl ?_
      rw [show (yset (yset σ 547 24 h) 547 24 (ymix h (σ 548 (101 + k)))) = yset σ 547 24 (ymix h (σ 548 (101 + k))) from by simp only [yset_2]]
      refine ih (k + 1) _ (by omega) (by omega) ?_
      rw [mixr_s (by omega), ← h1, ← f80 k (by omega) (by omega)]
      rfl
theorem lm_digest3i {g : Launch × XG × va_G} {σ : YS} {Z : YZ} {I : Int → YZ} {M : YS} {N : Int}  {i H : Int} {nn0 : Nat} (ihO : ∀ (k h : Int), Z 0 1 0 - k < (nn0 : Int) → (0 ≤ k ∧ k ≤ Z 0 1 0) → (h = mixms (Z 0) (Z 1) k.toNat (mixr (Z 1 0) (Z 0 0 0).toNat (mixr (khow Z M) 5 809))) → YW g 107 63 [some (2, 547), some (0, k), none] [] (yset σ 547 24 h) (fun rv σ' => ∃ b, rv = some (1, b) ∧ (kdigest Z M = b ∧ mW σ' Z I M ∧ cfr σ σ'))) (hx : mW σ Z I M) (hg : wG Z I M N) (hN : N < 100000) (hi : 0 ≤ i ∧ i < Z 0 1 0) (hH : H = mixms (Z 0) (Z 1) i.toNat (mixr (Z 1 0) (Z 0 0 0).toNat (mixr (khow Z M) 5 809))) (hnn : Z 0 1 0 - i < (nn0 : Int) + 1) : ∀ (nn : Nat) (k : Int) (h : Int), Z 0 3 i - k < (nn : Int) → (0 ≤ k ∧ k ≤ Z 0 3 i) → (h = mixr (msg (Z 0) i) k.toNat (ymix (ymix (ymix (ymix (ymix (ymix H (Z 0 2 i)) (Z 1 1 i)) (Z 1 2 i)) (Z 1 3 i)) (Z 1 4 i)) (Z 0 3 i))) → YW g 107 156 [some (2, 547), some (0, i), some (0, k)] [] (yset σ 547 24 h) (fun rv σ' => ∃ b, rv = some (1, b) ∧ (kdigest Z M = b ∧ mW σ' Z I M ∧ cfr σ σ')) := by
  intro nn
  induction nn with
  | zero =>
    intro k h hn h0 h1
    exfalso
    omega
  | succ nn ih =>
    intro k h hn h0 h1
    have ⟨⟨hz, hu, hur⟩, x2, x3, ⟨x4, x5⟩, x6, x7⟩ := hx
    have ⟨⟨he, hd, hn, hu2, h67, hk⟩, g2, g3, g4⟩ := hg
    have ⟨⟨f1, f2, f3⟩, f5, f6, f7, f8⟩ := hz
    have ⟨e1, e2, e3⟩ := he
    have x60 : σ 551 0 = M 3 0 := x6 0 (by omega) (by omega)
    have x61 : σ 551 1 = M 3 1 := x6 1 (by omega) (by omega)
    have x62 : σ 551 2 = M 3 2 := x6 2 (by omega) (by omega)
    have g40 := g4 0 (by omega) (by omega)
    have g41 := g4 1 (by omega) (by omega)
    have g42 := g4 2 (by omega) (by omega)
    have hu : σ 548 106 = Z 2 0 0 := hu
    have f1 : σ 548 (0 + 0) = Z 0 0 0 := f1
    have f10 : σ 548 0 = Z 0 0 0 := f1
    have f2 : σ 548 (0 + 10) = Z 0 1 0 := f2
    have f20 : σ 548 10 = Z 0 1 0 := f2
    have f30 : σ 548 105 = Z 1 5 0 := f3
    have f50 : ∀ c, 0 ≤ c → c < 9 → σ 548 (1 + c) = Z 1 0 c := f5
    have f80 : ∀ j, 0 ≤ j → j < 4 → σ 548 (101 + j) = Z 0 7 j := f8
    have ⟨⟨b1, b2, b3, b4⟩, b5, b6, b7, b8⟩ := f6 i (by omega) (by omega)
    have ⟨t1, ⟨t2, t3⟩, t4⟩ := e3 i (by omega) (by omega)
    have d3 := hd.2 i (by omega) (by omega)
    have b5 : σ 548 (26 + i) = Z 0 3 i := b5
    have b70 : σ 548 (23 + i) = 0 ∨ σ 548 (23 + i) = 1 := b7
    have b80 : Z 1 4 i = 0 ↔ ¬ (σ 548 (23 + i) = 1 ∨ Z 0 3 i = 0 ∨ mfl (Z 0) i ≠ -1) := b8
    have b60 : ∀ k, 0 ≤ k → k < Z 0 3 i → σ 548 (29 + 24 * i + k) = msg (Z 0) i k := b6
    refine y_iload rfl rfl ?_
    refine y_aload rfl rfl rfl ?_
    refine y_gfr (t := 548) rfl rfl (by decide) rfl (by decide) ?_
    refine y_push rfl ?_
    refine y_iload rfl rfl ?_
    refine y_iadd (v := (26 + i)) rfl rfl (by omega) ?_
    refine y_iald (v := (σ 548 (26 + i))) (n := 2108) rfl rfl (by decide) rfl (by omega) (yne (by omega) rfl) ?_
    refine y_icge rfl (fun q166 => ?_) (fun q166 => ?_)
    · skip
      refine y_iinc (L' := [some (2, 547), some (0, (i + 1)), some (0, k)]) rfl rfl rfl rfl rfl (by omega) ?_
      refine y_goto rfl ?_
      refine y_forget (M := [some (2, 547), some (0, (i + 1)), none]) ⟨Or.inr rfl, Or.inr rfl, Or.inl rfl, trivial⟩ ?_
      refine ihO (i + 1) h (by omega) (by omega) ?_
      rw [show (i + 1).toNat = i.toNat + 1 by omega]
      show h = mixm (Z 0) (Z 1) (i.toNat : Int) (mixms (Z 0) (Z 1) i.toNat _)
      rw [← hH, show ((i.toNat : Nat) : Int) = i by omega, h1, show k = Z 0 3 i by omega]
      rfl
    · skip
      refine y_aload rfl rfl rfl ?_
      refine y_aload rfl rfl rfl ?_
      refine y_gfr (t := 548) rfl rfl (by decide) rfl (by decide) ?_
      refine y_push rfl ?_
      refine y_push rfl ?_
      refine y_iload rfl rfl ?_
      refine y_imul (v := (24 * i)) rfl rfl (by omega) ?_
      refine y_iadd (v := (29 + (24 * i))) rfl rfl (by omega) ?_
      refine y_iload rfl rfl ?_
      refine y_iadd (v := ((29 + (24 * i)) + k)) rfl rfl (by omega) ?_
      refine y_iald (v := (σ 548 ((29 + (24 * i)) + k))) (n := 2108) rfl rfl (by decide) rfl (by omega) (yne (by omega) rfl) ?_
      refine y_i2l rfl ?_
      refine y_vu (as := [(2, 547), (1, (σ 548 ((29 + (24 * i)) + k)))]) (S := []) rfl rfl rfl rfl rfl rfl (by decide) rfl (m_mix (h := h) (yeq _ _ _ _)) ?_
      rintro _ rfl
      refine y_iinc (L' := [some (2, 547), some (0, i), some (0, (k + 1))]) rfl rfl rfl rfl rfl (by omega) ?_
      refine y_goto rfl ?_
      rw [show (yset (yset σ 547 24 h) 547 24 (ymix h (σ 548 ((29 + (24 * i)) + k)))) = yset σ 547 24 (ymix h (σ 548 ((29 + (24 * i)) + k))) from by simp only [yset_2]]
      refine ih (k + 1) _ (by omega) (by omega) ?_
      rw [mixr_s (by omega), ← h1, ← b60 k (by omega) (by omega)]
      rfl
theorem lm_digest3 {g : Launch × XG × va_G} {σ : YS} {Z : YZ} {I : Int → YZ} {M : YS} {N : Int}  (hx : mW σ Z I M) (hg : wG Z I M N) (hN : N < 100000) : ∀ (nn : Nat) (i : Int) (h : Int), Z 0 1 0 - i < (nn : Int) → (0 ≤ i ∧ i ≤ Z 0 1 0) → (h = mixms (Z 0) (Z 1) i.toNat (mixr (Z 1 0) (Z 0 0 0).toNat (mixr (khow Z M) 5 809))) → YW g 107 63 [some (2, 547), some (0, i), none] [] (yset σ 547 24 h) (fun rv σ' => ∃ b, rv = some (1, b) ∧ (kdigest Z M = b ∧ mW σ' Z I M ∧ cfr σ σ')) := by
  intro nn
  induction nn with
  | zero =>
    intro i h hn h0 h1
    exfalso
    omega
  | succ nn ih =>
    intro i h hn h0 h1
    have ⟨⟨hz, hu, hur⟩, x2, x3, ⟨x4, x5⟩, x6, x7⟩ := hx
    have ⟨⟨he, hd, hn, hu2, h67, hk⟩, g2, g3, g4⟩ := hg
    have ⟨⟨f1, f2, f3⟩, f5, f6, f7, f8⟩ := hz
    have ⟨e1, e2, e3⟩ := he
    have x60 : σ 551 0 = M 3 0 := x6 0 (by omega) (by omega)
    have x61 : σ 551 1 = M 3 1 := x6 1 (by omega) (by omega)
    have x62 : σ 551 2 = M 3 2 := x6 2 (by omega) (by omega)
    have g40 := g4 0 (by omega) (by omega)
    have g41 := g4 1 (by omega) (by omega)
    have g42 := g4 2 (by omega) (by omega)
    have hu : σ 548 106 = Z 2 0 0 := hu
    have f1 : σ 548 (0 + 0) = Z 0 0 0 := f1
    have f10 : σ 548 0 = Z 0 0 0 := f1
    have f2 : σ 548 (0 + 10) = Z 0 1 0 := f2
    have f20 : σ 548 10 = Z 0 1 0 := f2
    have f30 : σ 548 105 = Z 1 5 0 := f3
    have f50 : ∀ c, 0 ≤ c → c < 9 → σ 548 (1 + c) = Z 1 0 c := f5
    have f80 : ∀ j, 0 ≤ j → j < 4 → σ 548 (101 + j) = Z 0 7 j := f8
    refine y_iload rfl rfl ?_
    refine y_aload rfl rfl rfl ?_
    refine y_gfr (t := 548) rfl rfl (by decide) rfl (by decide) ?_
    refine y_push rfl ?_
    refine y_iald (v := (σ 548 10)) (n := 2108) rfl rfl (by decide) rfl (by decide) (yne (by omega) rfl) ?_
    refine y_icge rfl (fun q71 => ?_) (fun q71 => ?_)
    · skip
      refine y_push rfl ?_
      refine y_istore (L' := [some (2, 547), some (0, 0), none]) rfl rfl rfl rfl ?_
      exact lm_digest4 hx hg hN 5 0 h (by omega) (by omega) (by rw [h1, show i = Z 0 1 0 by omega]; rfl)
    · skip
      have ⟨⟨b1, b2, b3, b4⟩, b5, b6, b7, b8⟩ := f6 i (by omega) (by omega)
      have ⟨t1, ⟨t2, t3⟩, t4⟩ := e3 i (by omega) (by omega)
      have d3 := hd.2 i (by omega) (by omega)
      have b5 : σ 548 (26 + i) = Z 0 3 i := b5
      have b70 : σ 548 (23 + i) = 0 ∨ σ 548 (23 + i) = 1 := b7
      have b80 : Z 1 4 i = 0 ↔ ¬ (σ 548 (23 + i) = 1 ∨ Z 0 3 i = 0 ∨ mfl (Z 0) i ≠ -1) := b8
      have b60 : ∀ k, 0 ≤ k → k < Z 0 3 i → σ 548 (29 + 24 * i + k) = msg (Z 0) i k := b6
      refine y_aload rfl rfl rfl ?_
      refine y_aload rfl rfl rfl ?_
      refine y_gfr (t := 548) rfl rfl (by decide) rfl (by decide) ?_
      refine y_push rfl ?_
      refine y_iload rfl rfl ?_
      refine y_iadd (v := (11 + i)) rfl rfl (by omega) ?_
      refine y_iald (v := (σ 548 (11 + i))) (n := 2108) rfl rfl (by decide) rfl (by omega) (yne (by omega) rfl) ?_
      refine y_i2l rfl ?_
      refine y_vu (as := [(2, 547), (1, (σ 548 (11 + i)))]) (S := []) rfl rfl rfl rfl rfl rfl (by decide) rfl (m_mix (h := h) (yeq _ _ _ _)) ?_
      rintro _ rfl
      refine y_aload rfl rfl rfl ?_
      refine y_aload rfl rfl rfl ?_
      refine y_gfr (t := 548) rfl rfl (by decide) rfl (by decide) ?_
      refine y_push rfl ?_
      refine y_iload rfl rfl ?_
      refine y_iadd (v := (14 + i)) rfl rfl (by omega) ?_
      refine y_iald (v := (σ 548 (14 + i))) (n := 2108) rfl rfl (by decide) rfl (by omega) (yne (by omega) (yne (by omega) rfl)) ?_
      refine y_i2l rfl ?_
      refine y_vu (as := [(2, 547), (1, (σ 548 (14 + i)))]) (S := []) rfl rfl rfl rfl rfl rfl (by decide) rfl (m_mix (h := (ymix h (σ 548 (11 + i)))) (yeq _ _ _ _)) ?_
      rintro _ rfl
      refine y_aload rfl rfl rfl ?_
      refine y_aload rfl rfl rfl ?_
      refine y_gfr (t := 548) rfl rfl (by decide) rfl (by decide) ?_
      refine y_push rfl ?_
      refine y_iload rfl rfl ?_
      refine y_iadd (v := (17 + i)) rfl rfl (by omega) ?_
      refine y_iald (v := (σ 548 (17 + i))) (n := 2108) rfl rfl (by decide) rfl (by omega) (yne (by omega) (yne (by omega) (yne (by omega) rfl))) ?_
      refine y_i2l rfl ?_
      refine y_vu (as := [(2, 547), (1, (σ 548 (17 + i)))]) (S := []) rfl rfl rfl rfl rfl rfl (by decide) rfl (m_mix (h := (ymix (ymix h (σ 548 (11 + i))) (σ 548 (14 + i)))) (yeq _ _ _ _)) ?_
      rintro _ rfl
      refine y_aload rfl rfl rfl ?_
      refine y_aload rfl rfl rfl ?_
      refine y_gfr (t := 548) rfl rfl (by decide) rfl (by decide) ?_
      refine y_push rfl ?_
      refine y_iload rfl rfl ?_
      refine y_iadd (v := (20 + i)) rfl rfl (by omega) ?_
      refine y_iald (v := (σ 548 (20 + i))) (n := 2108) rfl rfl (by decide) rfl (by omega) (yne (by omega) (yne (by omega) (yne (by omega) (yne (by omega) rfl)))) ?_
      refine y_i2l rfl ?_
      refine y_vu (as := [(2, 547), (1, (σ 548 (20 + i)))]) (S := []) rfl rfl rfl rfl rfl rfl (by decide) rfl (m_mix (h := (ymix (ymix (ymix h (σ 548 (11 + i))) (σ 548 (14 + i))) (σ 548 (17 + i)))) (yeq _ _ _ _)) ?_
      rintro _ rfl
      refine y_aload rfl rfl rfl ?_
      refine y_aload rfl rfl rfl ?_
      refine y_iload rfl rfl ?_
      refine y_vi (as := [(2, 547), (0, i)]) (S := [(2, 547)]) rfl rfl rfl rfl rfl rfl (by decide) rfl (m_stoppedOf (mzs_cong hg.1.1 hz (fun y a b => (mfs_s (mfs_s (mfs_s (mfs_s (mfs_s (mfs_0 _) (by omega)) (by omega)) (by omega)) (by omega)) (by omega)) 548 y (by omega))) hg.1.1 hd (m := i) (by omega)) ?_
      rintro _ _ ⟨rfl, rfl⟩
      refine y_i2l rfl ?_
      refine y_vu (as := [(2, 547), (1, (if i < Z 0 1 0 then Z 1 4 i else 1))]) (S := []) rfl rfl rfl rfl rfl rfl (by decide) rfl (m_mix (h := (ymix (ymix (ymix (ymix h (σ 548 (11 + i))) (σ 548 (14 + i))) (σ 548 (17 + i))) (σ 548 (20 + i)))) (yeq _ _ _ _)) ?_
      rintro _ rfl
      refine y_aload rfl rfl rfl ?_
      refine y_aload rfl rfl rfl ?_
      refine y_gfr (t := 548) rfl rfl (by decide) rfl (by decide) ?_
      refine y_push rfl ?_
      refine y_iload rfl rfl ?_
      refine y_iadd (v := (26 + i)) rfl rfl (by omega) ?_
      refine y_iald (v := (σ 548 (26 + i))) (n := 2108) rfl rfl (by decide) rfl (by omega) (yne (by omega) (yne (by omega) (yne (by omega) (yne (by omega) (yne (by omega) (yne (by omega) rfl)))))) ?_
      refine y_i2l rfl ?_
      refine y_vu (as := [(2, 547), (1, (σ 548 (26 + i)))]) (S := []) rfl rfl rfl rfl rfl rfl (by decide) rfl (m_mix (h := (ymix (ymix (ymix (ymix (ymix h (σ 548 (11 + i))) (σ 548 (14 + i))) (σ 548 (17 + i))) (σ 548 (20 + i))) (if i < Z 0 1 0 then Z 1 4 i else 1))) (yeq _ _ _ _)) ?_
      rintro _ rfl
      refine y_push rfl ?_
      refine y_istore (L' := [some (2, 547), some (0, i), some (0, 0)]) rfl rfl rfl rfl ?_
      rw [show (yset (yset (yset (yset (yset (yset (yset σ 547 24 h) 547 24 (ymix h (σ 548 (11 + i)))) 547 24 (ymix (ymix h (σ 548 (11 + i))) (σ 548 (14 + i)))) 547 24 (ymix (ymix (ymix h (σ 548 (11 + i))) (σ 548 (14 + i))) (σ 548 (17 + i)))) 547 24 (ymix (ymix (ymix (ymix h (σ 548 (11 + i))) (σ 548 (14 + i))) (σ 548 (17 + i))) (σ 548 (20 + i)))) 547 24 (ymix (ymix (ymix (ymix (ymix h (σ 548 (11 + i))) (σ 548 (14 + i))) (σ 548 (17 + i))) (σ 548 (20 + i))) (if i < Z 0 1 0 then Z 1 4 i else 1))) 547 24 (ymix (ymix (ymix (ymix (ymix (ymix h (σ 548 (11 + i))) (σ 548 (14 + i))) (σ 548 (17 + i))) (σ 548 (20 + i))) (if i < Z 0 1 0 then Z 1 4 i else 1)) (σ 548 (26 + i)))) = yset σ 547 24 (ymix (ymix (ymix (ymix (ymix (ymix h (σ 548 (11 + i))) (σ 548 (14 + i))) (σ 548 (17 + i))) (σ 548 (20 + i))) (if i < Z 0 1 0 then Z 1 4 i else 1)) (σ 548 (26 + i))) from by simp only [yset_2]]
      rw [if_pos (by omega)]
      have ⟨c1, c2, c3, c4⟩ := (f6 i (by omega) (by omega)).1
      have c5 : σ 548 (26 + i) = Z 0 3 i := b5
      have c1 : σ 548 (11 + i) = Z 0 2 i := c1
      have c2 : σ 548 (14 + i) = Z 1 1 i := c2
      have c3 : σ 548 (17 + i) = Z 1 2 i := c3
      have c4 : σ 548 (20 + i) = Z 1 3 i := c4
      rw [c1, c2, c3, c4, c5]
      exact lm_digest3i (H := h) (fun k h => ih k h) hx hg hN (by omega) h1 (by omega) 25 0 _ (by omega) (by omega) rfl
theorem lm_digest2 {g : Launch × XG × va_G} {σ : YS} {Z : YZ} {I : Int → YZ} {M : YS} {N : Int}  (hx : mW σ Z I M) (hg : wG Z I M N) (hN : N < 100000) : ∀ (nn : Nat) (k : Int) (h : Int), Z 0 0 0 - k < (nn : Int) → (0 ≤ k ∧ k ≤ Z 0 0 0) → (h = mixr (Z 1 0) k.toNat (mixr (khow Z M) 5 809)) → YW g 107 32 [some (2, 547), some (0, k), none] [] (yset σ 547 24 h) (fun rv σ' => ∃ b, rv = some (1, b) ∧ (kdigest Z M = b ∧ mW σ' Z I M ∧ cfr σ σ')) := by
  intro nn
  induction nn with
  | zero =>
    intro k h hn h0 h1
    exfalso
    omega
  | succ nn ih =>
    intro k h hn h0 h1
    have ⟨⟨hz, hu, hur⟩, x2, x3, ⟨x4, x5⟩, x6, x7⟩ := hx
    have ⟨⟨he, hd, hn, hu2, h67, hk⟩, g2, g3, g4⟩ := hg
    have ⟨⟨f1, f2, f3⟩, f5, f6, f7, f8⟩ := hz
    have ⟨e1, e2, e3⟩ := he
    have x60 : σ 551 0 = M 3 0 := x6 0 (by omega) (by omega)
    have x61 : σ 551 1 = M 3 1 := x6 1 (by omega) (by omega)
    have x62 : σ 551 2 = M 3 2 := x6 2 (by omega) (by omega)
    have g40 := g4 0 (by omega) (by omega)
    have g41 := g4 1 (by omega) (by omega)
    have g42 := g4 2 (by omega) (by omega)
    have hu : σ 548 106 = Z 2 0 0 := hu
    have f1 : σ 548 (0 + 0) = Z 0 0 0 := f1
    have f10 : σ 548 0 = Z 0 0 0 := f1
    have f2 : σ 548 (0 + 10) = Z 0 1 0 := f2
    have f20 : σ 548 10 = Z 0 1 0 := f2
    have f30 : σ 548 105 = Z 1 5 0 := f3
    have f50 : ∀ c, 0 ≤ c → c < 9 → σ 548 (1 + c) = Z 1 0 c := f5
    have f80 : ∀ j, 0 ≤ j → j < 4 → σ 548 (101 + j) = Z 0 7 j := f8
    refine y_iload rfl rfl ?_
    refine y_aload rfl rfl rfl ?_
    refine y_gfr (t := 548) rfl rfl (by decide) rfl (by decide) ?_
    refine y_push rfl ?_
    refine y_iald (v := (σ 548 0)) (n := 2108) rfl rfl (by decide) rfl (by decide) (yne (by omega) rfl) ?_
    refine y_icge rfl (fun q39 => ?_) (fun q39 => ?_)
    · skip
      refine y_push rfl ?_
      refine y_istore (L' := [some (2, 547), some (0, 0), none]) rfl rfl rfl rfl ?_
      exact lm_digest3 hx hg hN 4 0 h (by omega) (by omega) (by rw [h1, show k = Z 0 0 0 by omega]; rfl)
    · skip
      refine y_aload rfl rfl rfl ?_
      refine y_aload rfl rfl rfl ?_
      refine y_gfr (t := 548) rfl rfl (by decide) rfl (by decide) ?_
      refine y_push rfl ?_
      refine y_iload rfl rfl ?_
      refine y_iadd (v := (1 + k)) rfl rfl (by omega) ?_
      refine y_iald (v := (σ 548 (1 + k))) (n := 2108) rfl rfl (by decide) rfl (by omega) (yne (by omega) rfl) ?_
      refine y_i2l rfl ?_
      refine y_vu (as := [(2, 547), (1, (σ 548 (1 + k)))]) (S := []) rfl rfl rfl rfl rfl rfl (by decide) rfl (m_mix (h := h) (yeq _ _ _ _)) ?_
      rintro _ rfl
      refine y_iinc (L' := [some (2, 547), some (0, (k + 1)), none]) rfl rfl rfl rfl rfl (by omega) ?_
      refine y_goto rfl ?_
      rw [show (yset (yset σ 547 24 h) 547 24 (ymix h (σ 548 (1 + k)))) = yset σ 547 24 (ymix h (σ 548 (1 + k))) from by simp only [yset_2]]
      refine ih (k + 1) _ (by omega) (by omega) ?_
      rw [mixr_s (by omega), ← h1, ← f50 k (by omega) (by omega)]
      rfl
theorem lm_digest1 {g : Launch × XG × va_G} {σ : YS} {Z : YZ} {I : Int → YZ} {M : YS} {N : Int}  (hx : mW σ Z I M) (hg : wG Z I M N) (hN : N < 100000) : ∀ (nn : Nat) (k : Int) (h : Int), 5 - k < (nn : Int) → (0 ≤ k ∧ k ≤ 5) → (h = mixr (khow Z M) k.toNat 809) → YW g 107 9 [some (2, 547), some (0, k), none] [] (yset σ 547 24 h) (fun rv σ' => ∃ b, rv = some (1, b) ∧ (kdigest Z M = b ∧ mW σ' Z I M ∧ cfr σ σ')) := by
  intro nn
  induction nn with
  | zero =>
    intro k h hn h0 h1
    exfalso
    omega
  | succ nn ih =>
    intro k h hn h0 h1
    have ⟨⟨hz, hu, hur⟩, x2, x3, ⟨x4, x5⟩, x6, x7⟩ := hx
    have ⟨⟨he, hd, hn, hu2, h67, hk⟩, g2, g3, g4⟩ := hg
    have ⟨⟨f1, f2, f3⟩, f5, f6, f7, f8⟩ := hz
    have ⟨e1, e2, e3⟩ := he
    have x60 : σ 551 0 = M 3 0 := x6 0 (by omega) (by omega)
    have x61 : σ 551 1 = M 3 1 := x6 1 (by omega) (by omega)
    have x62 : σ 551 2 = M 3 2 := x6 2 (by omega) (by omega)
    have g40 := g4 0 (by omega) (by omega)
    have g41 := g4 1 (by omega) (by omega)
    have g42 := g4 2 (by omega) (by omega)
    have hu : σ 548 106 = Z 2 0 0 := hu
    have f1 : σ 548 (0 + 0) = Z 0 0 0 := f1
    have f10 : σ 548 0 = Z 0 0 0 := f1
    have f2 : σ 548 (0 + 10) = Z 0 1 0 := f2
    have f20 : σ 548 10 = Z 0 1 0 := f2
    have f30 : σ 548 105 = Z 1 5 0 := f3
    have f50 : ∀ c, 0 ≤ c → c < 9 → σ 548 (1 + c) = Z 1 0 c := f5
    have f80 : ∀ j, 0 ≤ j → j < 4 → σ 548 (101 + j) = Z 0 7 j := f8
    refine y_iload rfl rfl ?_
    refine y_push rfl ?_
    refine y_icge rfl (fun q11 => ?_) (fun q11 => ?_)
    · skip
      refine y_push rfl ?_
      refine y_istore (L' := [some (2, 547), some (0, 0), none]) rfl rfl rfl rfl ?_
      exact lm_digest2 hx hg hN 10 0 h (by omega) (by omega) (by rw [h1, show k = 5 by omega]; rfl)
    · skip
      refine y_aload rfl rfl rfl ?_
      refine y_aload rfl rfl rfl ?_
      refine y_iload rfl rfl ?_
      refine y_vi (as := [(2, 547), (0, k)]) (S := [(2, 547)]) rfl rfl rfl rfl rfl rfl (by decide) rfl (m_countOf (mW_mfs hg hx (mfs_s (mfs_0 _) (by omega))) hg hN (by omega)) ?_
      rintro _ _ ⟨rfl, rfl⟩
      refine y_i2l rfl ?_
      refine y_vu (as := [(2, 547), (1, (khow Z M k))]) (S := []) rfl rfl rfl rfl rfl rfl (by decide) rfl (m_mix (h := h) (yeq _ _ _ _)) ?_
      rintro _ rfl
      refine y_iinc (L' := [some (2, 547), some (0, (k + 1)), none]) rfl rfl rfl rfl rfl (by omega) ?_
      refine y_goto rfl ?_
      rw [show (yset (yset σ 547 24 h) 547 24 (ymix h (khow Z M k))) = yset σ 547 24 (ymix h (khow Z M k)) from by simp only [yset_2]]
      refine ih (k + 1) _ (by omega) (by omega) ?_
      rw [mixr_s (by omega), ← h1]
      rfl
theorem m_digest {g : Launch × XG × va_G} {σ : YS} {Z : YZ} {I : Int → YZ} {M : YS} {N : Int}  (hx : mW σ Z I M) (hg : wG Z I M N) (hN : N < 100000) : YJ g 107 [(2, 547)] σ (fun b σ' => kdigest Z M = b ∧ mW σ' Z I M ∧ cfr σ σ') := by
  refine y_start rfl rfl rfl ?_
  refine y_aload rfl rfl rfl ?_
  refine y_ldc2 (v := 809) rfl rfl ?_
  refine y_pfj (j := 24) rfl rfl (by decide) rfl rfl rfl rfl rfl ?_
  refine y_push rfl ?_
  refine y_istore (L' := [some (2, 547), some (0, 0), none]) rfl rfl rfl rfl ?_
  exact lm_digest1 hx hg hN 6 0 809 (by omega) (by omega) rfl
