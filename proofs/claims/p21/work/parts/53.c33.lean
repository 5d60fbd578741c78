theorem lm_thief3 {g : Launch × XG × va_G} {σ : YS} {Z : YZ} {I : Int → YZ} {M : YS} {N : Int} {m c : Int} {p sg : Int} {nn1 : Nat} (ihI : ∀ (τ : YS) (sg most fd : Int), 6 - sg < (nn1 : Int) → (0 ≤ sg ∧ sg ≤ 6) → mfs σ τ → YW g 84 62 [some (2, 547), some (0, m), some (0, c), some (0, most), some (0, fd), some (0, p), some (0, sg), none] [] τ (fun rv σ' => ∃ b, rv = some (0, b) ∧ ((mW σ' Z I (if ((0 ≤ m ∧ m < Z 0 1 0) ∧ 0 ≤ c ∧ c < Z 0 0 0) ∧ Z 0 3 m < 24 then M else bump M 0)) ∧ cfr σ σ'))) {s3 : YS} (hr3 : rm s3 (Z 0) (Z 1)) (hf3 : mfs σ s3) (hx : mW σ Z I M) (hg : wG Z I M N) (hN : N < 100000) (hm : (0 ≤ m ∧ m < Z 0 1 0) ∧ 0 ≤ c ∧ c < Z 0 0 0) (hl : Z 0 3 m < 24) (hp : 0 ≤ p ∧ p ≤ Z 0 3 m) (hsg : 0 ≤ sg ∧ sg ≤ 5) (hnn : 6 - sg < (nn1 : Int) + 1) : ∀ (nn : Nat) (τ : YS) (k : Int) (most : Int) (fd : Int), k - p < (nn : Int) → (p ≤ k ∧ k ≤ Z 0 3 m) → ((∀ j, 0 ≤ j → j ≤ k → j < Z 0 3 m → τ 560 (25 * m + j) = msg (Z 0) m j) ∧ (∀ j, k < j → j ≤ Z 0 3 m → τ 560 (25 * m + j) = msg (Z 0) m (j - 1))) → (∀ x y, x ≠ 560 ∨ y < 25 * m ∨ 25 * m + 24 < y → τ x y = s3 x y) → YW g 84 80 [some (2, 547), some (0, m), some (0, c), some (0, most), some (0, fd), some (0, p), some (0, sg), some (0, k)] [] τ (fun rv σ' => ∃ b, rv = some (0, b) ∧ ((mW σ' Z I (if ((0 ≤ m ∧ m < Z 0 1 0) ∧ 0 ≤ c ∧ c < Z 0 0 0) ∧ Z 0 3 m < 24 then M else bump M 0)) ∧ cfr σ σ')) := by
  intro nn
  induction nn with
  | zero =>
    intro τ k most fd hn h0 h1 h2
    exfalso
    omega
  | succ nn ih =>
    intro τ k most fd hn h0 h1 h2
    have e1 := hg.1.1.1
    have e2 := hg.1.1.2.1
    have ⟨⟨t1, t2⟩, ⟨t3, t4⟩, t5⟩ := hg.1.1.2.2 m (by omega) (by omega)
    have ⟨dm1, dm2, dm3, dm4⟩ := hg.1.2.1.2 m (by omega) (by omega)
    have hn5 := hg.1.2.2.1
    have ⟨⟨b1, b2, b3, b4⟩, ⟨b5, b6⟩, b7, b8⟩ := hr3.2.2.1 m (by omega) (by omega)
    have t59 : τ 559 m = Z 0 3 m := (h2 _ _ (by omega)).trans b5
    have t57 : τ 557 m = Z 1 3 m := (h2 _ _ (by omega)).trans b3
    have w23 : σ 548 (23 + m) = 0 ∨ σ 548 (23 + m) = 1 := (hx.1.1.2.2.1 m (by omega) (by omega)).2.2.2.1
    refine y_iload rfl rfl ?_
    refine y_iload rfl rfl ?_
    refine y_icle rfl (fun q84 => ?_) (fun q84 => ?_)
    · skip
      refine y_aload rfl rfl rfl ?_
      refine y_gfr (t := 560) rfl rfl (by decide) rfl (by decide) ?_
      refine y_push rfl ?_
      refine y_iload rfl rfl ?_
      refine y_imul (v := (25 * m)) rfl rfl (by omega) ?_
      refine y_iload rfl rfl ?_
      refine y_iadd (v := ((25 * m) + p)) rfl rfl (by omega) ?_
      refine y_iload rfl rfl ?_
      refine y_iast (n := 75) rfl rfl (by decide) rfl (by omega) ?_
      refine y_aload rfl rfl rfl ?_
      refine y_gfr (t := 559) rfl rfl (by decide) rfl (by decide) ?_
      refine y_iload rfl rfl ?_
      refine y_dup2 rfl rfl rfl ?_
      refine y_iald (v := (τ 559 m)) (n := 3) rfl rfl (by decide) rfl (by omega) (yne (by omega) rfl) ?_
      refine y_push rfl ?_
      refine y_iadd (v := ((τ 559 m) + 1)) rfl rfl (by omega) ?_
      refine y_iast (n := 3) rfl rfl (by decide) rfl (by omega) ?_
      refine y_aload rfl rfl rfl ?_
      refine y_gfr (t := 557) rfl rfl (by decide) rfl (by decide) ?_
      refine y_iload rfl rfl ?_
      refine y_dup2 rfl rfl rfl ?_
      refine y_iald (v := (τ 557 m)) (n := 3) rfl rfl (by decide) rfl (by omega) (yne (by omega) (yne (by omega) rfl)) ?_
      refine y_aload rfl rfl rfl ?_
      refine y_gfr (t := 557) rfl rfl (by decide) rfl (by decide) ?_
      refine y_iload rfl rfl ?_
      refine y_iald (v := (τ 557 m)) (n := 3) rfl rfl (by decide) rfl (by omega) (yne (by omega) (yne (by omega) rfl)) ?_
      refine y_iload rfl rfl ?_
      refine y_icle rfl (fun q158 => ?_) (fun q158 => ?_)
      · skip
        refine y_push rfl ?_
        refine y_iadd (v := ((τ 557 m) + 0)) rfl rfl (by omega) ?_
        refine y_iast (n := 3) rfl rfl (by decide) rfl (by omega) ?_
        refine y_aload rfl rfl rfl ?_
        refine y_gfr (t := 558) rfl rfl (by decide) rfl (by decide) ?_
        refine y_iload rfl rfl ?_
        refine y_aload rfl rfl rfl ?_
        refine y_iload rfl rfl ?_
        have y1 : ∀ j, 0 ≤ j → j < Z 0 3 m + 1 → (yset (yset (yset τ 560 ((25 * m) + p) sg) 559 m ((τ 559 m) + 1)) 557 m ((τ 557 m) + 0)) 560 (25 * m + j) = wwith (msg (Z 0) m) p sg j := fun j x y => by
          unfold wwith
          rw [yne (by omega) rfl, yne (by omega) rfl]
          split
          · rw [yne (by omega) rfl]; exact h1.1 j x (by omega) (by omega)
          split
          · rename_i z; rw [z, yeq]
          · rw [yne (by omega) rfl]; exact h1.2 j (by omega) (by omega)
        refine y_vi (as := [(2, 547), (0, m)]) (S := [(0, m), (2, 558)]) rfl rfl rfl rfl rfl rfl (by decide) rfl (m_layAgainst (n := Z 0 3 m + 1) (f := wwith (msg (Z 0) m) p sg) (by omega) (by rw [yne (by omega) rfl, yeq, t59]) (by omega) y1) ?_
        rintro b_ s4 ⟨a0, a3⟩
        have f4 : mfs σ s4 := fun x y a => by rw [a3 x y (by omega) (by omega), yne (by omega) rfl, yne (by omega) rfl, yne (by omega) rfl, h2 x y (by omega)]; exact hf3 x y (by omega)
        have s59 : s4 559 m = Z 0 3 m + 1 := by rw [a3 _ _ (by omega) (by omega), yne (by omega) rfl, yeq, t59]
        have s57 : s4 557 m = ((τ 557 m) + 0) := by rw [a3 _ _ (by omega) (by omega), yeq]
        have s23 : s4 548 (23 + m) = σ 548 (23 + m) := f4 _ _ (by omega)
        have s0 : ∀ x y, x ≠ 562 → ¬ ((x = 557 ∨ x = 558 ∨ x = 559) ∧ y = m) → ¬ ((x = 560 ∨ x = 561) ∧ 25 * m ≤ y ∧ y ≤ 25 * m + 24) → s4 x y = s3 x y := fun x y a b c => by rw [a3 x y a (by omega), yne (by omega) rfl, yne (by omega) rfl, yne (by omega) rfl]; exact h2 x y (by omega)
        have s60 : ∀ j, 0 ≤ j → j < Z 0 3 m + 1 → s4 560 (25 * m + j) = wwith (msg (Z 0) m) p sg j := fun j x y => by rw [a3 _ _ (by omega) (by omega)]; exact y1 j x y
        refine y_ifeq rfl (fun q178 => ?_) (fun q178 => ?_)
        · skip
          refine y_push rfl ?_
          refine y_iast (n := 3) rfl rfl (by decide) rfl (by omega) ?_
          refine y_aload rfl rfl rfl ?_
          have r5 : rm (yset s4 558 m 1) (slpE (Z 0) m (wwith (msg (Z 0) m) p sg) (Z 0 3 m + 1)) (slpD (Z 1) m (s4 557 m) 1) := rm_slp hg.1.1 hr3 hm.1 (fun x y a b c => by rw [yne (by omega) rfl]; exact s0 x y a b c) (by rw [yne (by omega) rfl]; exact s59) (fun j x y => by rw [yne (by omega) rfl]; exact s60 j x y) (yne (by omega) rfl) (yeq _ _ _ _) (fun z => by omega)
          have g5 := eG_slp (f := wwith (msg (Z 0) m) p sg) (n := Z 0 3 m + 1) hg.1.1 hm.1 (by omega) (fun k k1 k2 => by unfold wwith; split; exact t5 k k1 (by omega); split; omega; exact t5 (k - 1) (by omega) (by omega))
          have g6 := dG_slp (f := wwith (msg (Z 0) m) p sg) (n := Z 0 3 m + 1) (p := s4 557 m) (st := 1) hg.1.2.1 hg.1.1 hm.1 (by omega) (Or.inr rfl)
          refine y_vi (as := [(2, 547)]) (S := []) rfl rfl rfl rfl rfl rfl (by decide) rfl (m_goToStop r5 g5 g6 (by unfold slpD; rw [yne (by omega) rfl, yne (by omega) rfl]; omega)) ?_
          rintro c_ s5 ⟨z1, z2, z3, z4⟩
          have f5 : mfs σ s5 := mfs_t (mfs_s f4 (by omega)) (rfr_m z3)
          refine y_push rfl ?_
          refine y_iceq rfl (fun q200 => ?_) (fun q200 => ?_)
          · skip
            refine y_push rfl ?_
            refine y_istore (L' := [some (2, 547), some (0, m), some (0, c), some (0, most), some (0, fd), some (0, p), some (0, sg), some (0, 0)]) rfl rfl rfl rfl ?_
            refine y_iload rfl rfl ?_
            refine y_ifeq rfl (fun q212 => ?_) (fun q212 => ?_)
            · skip
              refine y_iload rfl rfl ?_
              refine y_istore (L' := [some (2, 547), some (0, m), some (0, c), some (0, most), some (0, fd), some (0, p), some (0, sg), some (0, 0)]) rfl rfl rfl rfl ?_
              refine y_iload rfl rfl ?_
              refine y_ifeq rfl (fun q242 => ?_) (fun q242 => ?_)
              · skip
                refine y_iload rfl rfl ?_
                refine y_istore (L' := [some (2, 547), some (0, m), some (0, c), some (0, most), some (0, fd), some (0, p), some (0, sg), some (0, 0)]) rfl rfl rfl rfl ?_
                refine y_iinc (L' := [some (2, 547), some (0, m), some (0, c), some (0, most), some (0, fd), some (0, p), some (0, (sg + 1)), some (0, 0)]) rfl rfl rfl rfl rfl (by omega) ?_
                refine y_goto rfl ?_
                refine y_forget (M := [some (2, 547), some (0, m), some (0, c), some (0, most), some (0, fd), some (0, p), some (0, (sg + 1)), none]) ⟨Or.inr rfl, Or.inr rfl, Or.inr rfl, Or.inr rfl, Or.inr rfl, Or.inr rfl, Or.inr rfl, Or.inl rfl, trivial⟩ ?_
                exact ihI s5 (sg + 1) _ _ (by omega) (by omega) f5
              · exfalso; omega
            · exfalso; omega
          · skip
            refine y_push rfl ?_
            refine y_goto rfl ?_
            refine y_istore (L' := [some (2, 547), some (0, m), some (0, c), some (0, most), some (0, fd), some (0, p), some (0, sg), some (0, 1)]) rfl rfl rfl rfl ?_
            refine y_iload rfl rfl ?_
            refine y_ifeq rfl (fun q212 => ?_) (fun q212 => ?_)
            · exfalso; omega
            · skip
              refine y_aload rfl rfl rfl ?_
              refine y_gfr (t := 554) rfl rfl (by decide) rfl (by decide) ?_
              refine y_iload rfl rfl ?_
              refine y_iald (v := (s5 554 c)) (n := 9) rfl rfl (by decide) rfl (by omega) rfl ?_
              refine y_iload rfl rfl ?_
              refine y_icle rfl (fun q222 => ?_) (fun q222 => ?_)
              · skip
                refine y_iload rfl rfl ?_
                refine y_istore (L' := [some (2, 547), some (0, m), some (0, c), some (0, most), some (0, fd), some (0, p), some (0, sg), some (0, 1)]) rfl rfl rfl rfl ?_
                refine y_iload rfl rfl ?_
                refine y_ifeq rfl (fun q242 => ?_) (fun q242 => ?_)
                · exfalso; omega
                · skip
                  refine y_aload rfl rfl rfl ?_
                  refine y_gfr (t := 554) rfl rfl (by decide) rfl (by decide) ?_
                  refine y_iload rfl rfl ?_
                  refine y_iald (v := (s5 554 c)) (n := 9) rfl rfl (by decide) rfl (by omega) rfl ?_
                  refine y_iload rfl rfl ?_
                  refine y_icle rfl (fun q252 => ?_) (fun q252 => ?_)
                  · skip
                    refine y_iload rfl rfl ?_
                    refine y_istore (L' := [some (2, 547), some (0, m), some (0, c), some (0, most), some (0, fd), some (0, p), some (0, sg), some (0, 1)]) rfl rfl rfl rfl ?_
                    refine y_iinc (L' := [some (2, 547), some (0, m), some (0, c), some (0, most), some (0, fd), some (0, p), some (0, (sg + 1)), some (0, 1)]) rfl rfl rfl rfl rfl (by omega) ?_
                    refine y_goto rfl ?_
                    refine y_forget (M := [some (2, 547), some (0, m), some (0, c), some (0, most), some (0, fd), some (0, p), some (0, (sg + 1)), none]) ⟨Or.inr rfl, Or.inr rfl, Or.inr rfl, Or.inr rfl, Or.inr rfl, Or.inr rfl, Or.inr rfl, Or.inl rfl, trivial⟩ ?_
                    exact ihI s5 (sg + 1) _ _ (by omega) (by omega) f5
                  · skip
                    refine y_aload rfl rfl rfl ?_
                    refine y_gfr (t := 554) rfl rfl (by decide) rfl (by decide) ?_
                    refine y_iload rfl rfl ?_
                    refine y_iald (v := (s5 554 c)) (n := 9) rfl rfl (by decide) rfl (by omega) rfl ?_
                    refine y_goto rfl ?_
                    refine y_istore (L' := [some (2, 547), some (0, m), some (0, c), some (0, (s5 554 c)), some (0, fd), some (0, p), some (0, sg), some (0, 1)]) rfl rfl rfl rfl ?_
                    refine y_iinc (L' := [some (2, 547), some (0, m), some (0, c), some (0, (s5 554 c)), some (0, fd), some (0, p), some (0, (sg + 1)), some (0, 1)]) rfl rfl rfl rfl rfl (by omega) ?_
                    refine y_goto rfl ?_
                    refine y_forget (M := [some (2, 547), some (0, m), some (0, c), some (0, (s5 554 c)), some (0, fd), some (0, p), some (0, (sg + 1)), none]) ⟨Or.inr rfl, Or.inr rfl, Or.inr rfl, Or.inr rfl, Or.inr rfl, Or.inr rfl, Or.inr rfl, Or.inl rfl, trivial⟩ ?_
                    exact ihI s5 (sg + 1) _ _ (by omega) (by omega) f5
              · skip
                refine y_push rfl ?_
                refine y_iload rfl rfl ?_
                refine y_imul (v := (10 * p)) rfl rfl (by omega) ?_
                refine y_iload rfl rfl ?_
                refine y_iadd (v := ((10 * p) + sg)) rfl rfl (by omega) ?_
                refine y_goto rfl ?_
                refine y_istore (L' := [some (2, 547), some (0, m), some (0, c), some (0, most), some (0, ((10 * p) + sg)), some (0, p), some (0, sg), some (0, 1)]) rfl rfl rfl rfl ?_
                refine y_iload rfl rfl ?_
                refine y_ifeq rfl (fun q242 => ?_) (fun q242 => ?_)
                · exfalso; omega
                · skip
                  refine y_aload rfl rfl rfl ?_
                  refine y_gfr (t := 554) rfl rfl (by decide) rfl (by decide) ?_
                  refine y_iload rfl rfl ?_
                  refine y_iald (v := (s5 554 c)) (n := 9) rfl rfl (by decide) rfl (by omega) rfl ?_
                  refine y_iload rfl rfl ?_
                  refine y_icle rfl (fun q252 => ?_) (fun q252 => ?_)
                  · skip
                    refine y_iload rfl rfl ?_
                    refine y_istore (L' := [some (2, 547), some (0, m), some (0, c), some (0, most), some (0, ((10 * p) + sg)), some (0, p), some (0, sg), some (0, 1)]) rfl rfl rfl rfl ?_
                    refine y_iinc (L' := [some (2, 547), some (0, m), some (0, c), some (0, most), some (0, ((10 * p) + sg)), some (0, p), some (0, (sg + 1)), some (0, 1)]) rfl rfl rfl rfl rfl (by omega) ?_
                    refine y_goto rfl ?_
                    refine y_forget (M := [some (2, 547), some (0, m), some (0, c), some (0, most), some (0, ((10 * p) + sg)), some (0, p), some (0, (sg + 1)), none]) ⟨Or.inr rfl, Or.inr rfl, Or.inr rfl, Or.inr rfl, Or.inr rfl, Or.inr rfl, Or.inr rfl, Or.inl rfl, trivial⟩ ?_
                    exact ihI s5 (sg + 1) _ _ (by omega) (by omega) f5
                  · skip
                    refine y_aload rfl rfl rfl ?_
                    refine y_gfr (t := 554) rfl rfl (by decide) rfl (by decide) ?_
                    refine y_iload rfl rfl ?_
                    refine y_iald (v := (s5 554 c)) (n := 9) rfl rfl (by decide) rfl (by omega) rfl ?_
                    refine y_goto rfl ?_
                    refine y_istore (L' := [some (2, 547), some (0, m), some (0, c), some (0, (s5 554 c)), some (0, ((10 * p) + sg)), some (0, p), some (0, sg), some (0, 1)]) rfl rfl rfl rfl ?_
                    refine y_iinc (L' := [some (2, 547), some (0, m), some (0, c), some (0, (s5 554 c)), some (0, ((10 * p) + sg)), some (0, p), some (0, (sg + 1)), some (0, 1)]) rfl rfl rfl rfl rfl (by omega) ?_
                    refine y_goto rfl ?_
                    refine y_forget (M := [some (2, 547), some (0, m), some (0, c), some (0, (s5 554 c)), some (0, ((10 * p) + sg)), some (0, p), some (0, (sg + 1)), none]) ⟨Or.inr rfl, Or.inr rfl, Or.inr rfl, Or.inr rfl, Or.inr rfl, Or.inr rfl, Or.inr rfl, Or.inl rfl, trivial⟩ ?_
                    exact ihI s5 (sg + 1) _ _ (by omega) (by omega) f5
        · skip
          refine y_aload rfl rfl rfl ?_
          refine y_gfr (t := 548) rfl rfl (by decide) rfl (by decide) ?_
          refine y_push rfl ?_
          refine y_iload rfl rfl ?_
          refine y_iadd (v := (23 + m)) rfl rfl (by omega) ?_
          refine y_iald (v := (s4 548 (23 + m))) (n := 2108) rfl rfl (by decide) rfl (by omega) rfl ?_
          refine y_goto rfl ?_
          refine y_iast (n := 3) rfl rfl (by decide) rfl (by omega) ?_
          refine y_aload rfl rfl rfl ?_
          have ⟨a1, a2⟩ : bflaw (wwith (msg (Z 0) m) p sg) (Z 0 3 m + 1).toNat = -1 ∧ ∀ k, 0 ≤ k → k < Z 0 3 m + 1 → wwith (msg (Z 0) m) p sg k = 7 ∨ wwith (msg (Z 0) m) p sg k = 8 → s4 561 (25 * m + k) = bp (wwith (msg (Z 0) m) p sg) (Z 0 3 m + 1).toNat k := by
            rcases a0 with ⟨_, z1, z2⟩ | ⟨z, _⟩
            · exact ⟨z1, z2⟩
            · omega
          have hst : (s4 548 (23 + m)) = 0 ∧ 0 < Z 0 3 m + 1 ∧ bflaw (wwith (msg (Z 0) m) p sg) (Z 0 3 m + 1).toNat = -1 ∨ (s4 548 (23 + m)) = 1 := by omega
          have r5 : rm (yset s4 558 m (s4 548 (23 + m))) (slpE (Z 0) m (wwith (msg (Z 0) m) p sg) (Z 0 3 m + 1)) (slpD (Z 1) m (s4 557 m) (s4 548 (23 + m))) := rm_slp hg.1.1 hr3 hm.1 (fun x y a b c => by rw [yne (by omega) rfl]; exact s0 x y a b c) (by rw [yne (by omega) rfl]; exact s59) (fun j x y => by rw [yne (by omega) rfl]; exact s60 j x y) (yne (by omega) rfl) (yeq _ _ _ _) (fun _ k x y z => by rw [yne (by omega) rfl]; exact a2 k x y z)
          have g5 := eG_slp (f := wwith (msg (Z 0) m) p sg) (n := Z 0 3 m + 1) hg.1.1 hm.1 (by omega) (fun k k1 k2 => by unfold wwith; split; exact t5 k k1 (by omega); split; omega; exact t5 (k - 1) (by omega) (by omega))
          have g6 := dG_slp (f := wwith (msg (Z 0) m) p sg) (n := Z 0 3 m + 1) (p := s4 557 m) (st := (s4 548 (23 + m))) hg.1.2.1 hg.1.1 hm.1 (by omega) hst
          refine y_vi (as := [(2, 547)]) (S := []) rfl rfl rfl rfl rfl rfl (by decide) rfl (m_goToStop r5 g5 g6 (by unfold slpD; rw [yne (by omega) rfl, yne (by omega) rfl]; omega)) ?_
          rintro c_ s5 ⟨z1, z2, z3, z4⟩
          have f5 : mfs σ s5 := mfs_t (mfs_s f4 (by omega)) (rfr_m z3)
          refine y_push rfl ?_
          refine y_iceq rfl (fun q200 => ?_) (fun q200 => ?_)
          · skip
            refine y_push rfl ?_
            refine y_istore (L' := [some (2, 547), some (0, m), some (0, c), some (0, most), some (0, fd), some (0, p), some (0, sg), some (0, 0)]) rfl rfl rfl rfl ?_
            refine y_iload rfl rfl ?_
            refine y_ifeq rfl (fun q212 => ?_) (fun q212 => ?_)
            · skip
              refine y_iload rfl rfl ?_
              refine y_istore (L' := [some (2, 547), some (0, m), some (0, c), some (0, most), some (0, fd), some (0, p), some (0, sg), some (0, 0)]) rfl rfl rfl rfl ?_
              refine y_iload rfl rfl ?_
              refine y_ifeq rfl (fun q242 => ?_) (fun q242 => ?_)
              · skip
                refine y_iload rfl rfl ?_
                refine y_istore (L' := [some (2, 547), some (0, m), some (0, c), some (0, most), some (0, fd), some (0, p), some (0, sg), some (0, 0)]) rfl rfl rfl rfl ?_
                refine y_iinc (L' := [some (2, 547), some (0, m), some (0, c), some (0, most), some (0, fd), some (0, p), some (0, (sg + 1)), some (0, 0)]) rfl rfl rfl rfl rfl (by omega) ?_
                refine y_goto rfl ?_
                refine y_forget (M := [some (2, 547), some (0, m), some (0, c), some (0, most), some (0, fd), some (0, p), some (0, (sg + 1)), none]) ⟨Or.inr rfl, Or.inr rfl, Or.inr rfl, Or.inr rfl, Or.inr rfl, Or.inr rfl, Or.inr rfl, Or.inl rfl, trivial⟩ ?_
                exact ihI s5 (sg + 1) _ _ (by omega) (by omega) f5
              · exfalso; omega
            · exfalso; omega
          · skip
            refine y_push rfl ?_
            refine y_goto rfl ?_
            refine y_istore (L' := [some (2, 547), some (0, m), some (0, c), some (0, most), some (0, fd), some (0, p), some (0, sg), some (0, 1)]) rfl rfl rfl rfl ?_
            refine y_iload rfl rfl ?_
            refine y_ifeq rfl (fun q212 => ?_) (fun q212 => ?_)
            · exfalso; omega
            · skip
              refine y_aload rfl rfl rfl ?_
              refine y_gfr (t := 554) rfl rfl (by decide) rfl (by decide) ?_
              refine y_iload rfl rfl ?_
              refine y_iald (v := (s5 554 c)) (n := 9) rfl rfl (by decide) rfl (by omega) rfl ?_
              refine y_iload rfl rfl ?_
              refine y_icle rfl (fun q222 => ?_) (fun q222 => ?_)
              · skip
                refine y_iload rfl rfl ?_
                refine y_istore (L' := [some (2, 547), some (0, m), some (0, c), some (0, most), some (0, fd), some (0, p), some (0, sg), some (0, 1)]) rfl rfl rfl rfl ?_
                refine y_iload rfl rfl ?_
                refine y_ifeq rfl (fun q242 => ?_) (fun q242 => ?_)
                · exfalso; omega
                · skip
                  refine y_aload rfl rfl rfl ?_
                  refine y_gfr (t := 554) rfl rfl (by decide) rfl (by decide) ?_
                  refine y_iload rfl rfl ?_
                  refine y_iald (v := (s5 554 c)) (n := 9) rfl rfl (by decide) rfl (by omega) rfl ?_
                  refine y_iload rfl rfl ?_
                  refine y_icle rfl (fun q252 => ?_) (fun q252 => ?_)
                  · skip
                    refine y_iload rfl rfl ?_
                    refine y_istore (L' := [some (2, 547), some (0, m), some (0, c), some (0, most), some (0, fd), some (0, p), some (0, sg), some (0, 1)]) rfl rfl rfl rfl ?_
                    refine y_iinc (L' := [some (2, 547), some (0, m), some (0, c), some (0, most), some (0, fd), some (0, p), some (0, (sg + 1)), some (0, 1)]) rfl rfl rfl rfl rfl (by omega) ?_
                    refine y_goto rfl ?_
                    refine y_forget (M := [some (2, 547), some (0, m), some (0, c), some (0, most), some (0, fd), some (0, p), some (0, (sg + 1)), none]) ⟨Or.inr rfl, Or.inr rfl, Or.inr rfl, Or.inr rfl, Or.inr rfl, Or.inr rfl, Or.inr rfl, Or.inl rfl, trivial⟩ ?_
                    exact ihI s5 (sg + 1) _ _ (by omega) (by omega) f5
                  · skip
                    refine y_aload rfl rfl rfl ?_
                    refine y_gfr (t := 554) rfl rfl (by decide) rfl (by decide) ?_
                    refine y_iload rfl rfl ?_
                    refine y_iald (v := (s5 554 c)) (n := 9) rfl rfl (by decide) rfl (by omega) rfl ?_
                    refine y_goto rfl ?_
                    refine y_istore (L' := [some (2, 547), some (0, m), some (0, c), some (0, (s5 554 c)), some (0, fd), some (0, p), some (0, sg), some (0, 1)]) rfl rfl rfl rfl ?_
                    refine y_iinc (L' := [some (2, 547), some (0, m), some (0, c), some (0, (s5 554 c)), some (0, fd), some (0, p), some (0, (sg + 1)), some (0, 1)]) rfl rfl rfl rfl rfl (by omega) ?_
                    refine y_goto rfl ?_
                    refine y_forget (M := [some (2, 547), some (0, m), some (0, c), some (0, (s5 554 c)), some (0, fd), some (0, p), some (0, (sg + 1)), none]) ⟨Or.inr rfl, Or.inr rfl, Or.inr rfl, Or.inr rfl, Or.inr rfl, Or.inr rfl, Or.inr rfl, Or.inl rfl, trivial⟩ ?_
                    exact ihI s5 (sg + 1) _ _ (by omega) (by omega) f5
              · skip
                refine y_push rfl ?_
                refine y_iload rfl rfl ?_
                refine y_imul (v := (10 * p)) rfl rfl (by omega) ?_
                refine y_iload rfl rfl ?_
                refine y_iadd (v := ((10 * p) + sg)) rfl rfl (by omega) ?_
                refine y_goto rfl ?_
                refine y_istore (L' := [some (2, 547), some (0, m), some (0, c), some (0, most), some (0, ((10 * p) + sg)), some (0, p), some (0, sg), some (0, 1)]) rfl rfl rfl rfl ?_
                refine y_iload rfl rfl ?_
                refine y_ifeq rfl (fun q242 => ?_) (fun q242 => ?_)
                · exfalso; omega
                · skip
                  refine y_aload rfl rfl rfl ?_
                  refine y_gfr (t := 554) rfl rfl (by decide) rfl (by decide) ?_
                  refine y_iload rfl rfl ?_
                  refine y_iald (v := (s5 554 c)) (n := 9) rfl rfl (by decide) rfl (by omega) rfl ?_
                  refine y_iload rfl rfl ?_
                  refine y_icle rfl (fun q252 => ?_) (fun q252 => ?_)
                  · skip
                    refine y_iload rfl rfl ?_
                    refine y_istore (L' := [some (2, 547), some (0, m), some (0, c), some (0, most), some (0, ((10 * p) + sg)), some (0, p), some (0, sg), some (0, 1)]) rfl rfl rfl rfl ?_
                    refine y_iinc (L' := [some (2, 547), some (0, m), some (0, c), some (0, most), some (0, ((10 * p) + sg)), some (0, p), some (0, (sg + 1)), some (0, 1)]) rfl rfl rfl rfl rfl (by omega) ?_
                    refine y_goto rfl ?_
                    refine y_forget (M := [some (2, 547), some (0, m), some (0, c), some (0, most), some (0, ((10 * p) + sg)), some (0, p), some (0, (sg + 1)), none]) ⟨Or.inr rfl, Or.inr rfl, Or.inr rfl, Or.inr rfl, Or.inr rfl, Or.inr rfl, Or.inr rfl, Or.inl rfl, trivial⟩ ?_
                    exact ihI s5 (sg + 1) _ _ (by omega) (by omega) f5
                  · skip
                    refine y_aload rfl rfl rfl ?_
                    refine y_gfr (t := 554) rfl rfl (by decide) rfl (by decide) ?_
                    refine y_iload rfl rfl ?_
                    refine y_iald (v := (s5 554 c)) (n := 9) rfl rfl (by decide) rfl (by omega) rfl ?_
                    refine y_goto rfl ?_
                    refine y_istore (L' := [some (2, 547), some (0, m), some (0, c), some (0, (s5 554 c)), some (0, ((10 * p) + sg)), some (0, p), some (0, sg), some (0, 1)]) rfl rfl rfl rfl ?_
                    refine y_iinc (L' := [some (2, 547), some (0, m), some (0, c), some (0, (s5 554 c)), some (0, ((10 * p) + sg)), some (0, p), some (0, (sg + 1)), some (0, 1)]) rfl rfl rfl rfl rfl (by omega) ?_
                    refine y_goto rfl ?_
                    refine y_forget (M := [some (2, 547), some (0, m), some (0, c), some (0, (s5 554 c)), some (0, ((10 * p) + sg)), some (0, p), some (0, (sg + 1)), none]) ⟨Or.inr rfl, Or.inr rfl, Or.inr rfl, Or.inr rfl, Or.inr rfl, Or.inr rfl, Or.inr rfl, Or.inl rfl, trivial⟩ ?_
                    exact ihI s5 (sg + 1) _ _ (by omega) (by omega) f5
      · skip
        refine y_push rfl ?_
        refine y_goto rfl ?_
        refine y_iadd (v := ((τ 557 m) + 1)) rfl rfl (by omega) ?_
        refine y_iast (n := 3) rfl rfl (by decide) rfl (by omega) ?_
        refine y_aload rfl rfl rfl ?_
        refine y_gfr (t := 558) rfl rfl (by decide) rfl (by decide) ?_
        refine y_iload rfl rfl ?_
        refine y_aload rfl rfl rfl ?_
        refine y_iload rfl rfl ?_
        have y1 : ∀ j, 0 ≤ j → j < Z 0 3 m + 1 → (yset (yset (yset τ 560 ((25 * m) + p) sg) 559 m ((τ 559 m) + 1)) 557 m ((τ 557 m) + 1)) 560 (25 * m + j) = wwith (msg (Z 0) m) p sg j := fun j x y => by
          unfold wwith
          rw [yne (by omega) rfl, yne (by omega) rfl]
          split
          · rw [yne (by omega) rfl]; exact h1.1 j x (by omega) (by omega)
          split
          · rename_i z; rw [z, yeq]
          · rw [yne (by omega) rfl]; exact h1.2 j (by omega) (by omega)
        refine y_vi (as := [(2, 547), (0, m)]) (S := [(0, m), (2, 558)]) rfl rfl rfl rfl rfl rfl (by decide) rfl (m_layAgainst (n := Z 0 3 m + 1) (f := wwith (msg (Z 0) m) p sg) (by omega) (by rw [yne (by omega) rfl, yeq, t59]) (by omega) y1) ?_
        rintro b_ s4 ⟨a0, a3⟩
        have f4 : mfs σ s4 := fun x y a => by rw [a3 x y (by omega) (by omega), yne (by omega) rfl, yne (by omega) rfl, yne (by omega) rfl, h2 x y (by omega)]; exact hf3 x y (by omega)
        have s59 : s4 559 m = Z 0 3 m + 1 := by rw [a3 _ _ (by omega) (by omega), yne (by omega) rfl, yeq, t59]
        have s57 : s4 557 m = ((τ 557 m) + 1) := by rw [a3 _ _ (by omega) (by omega), yeq]
        have s23 : s4 548 (23 + m) = σ 548 (23 + m) := f4 _ _ (by omega)
        have s0 : ∀ x y, x ≠ 562 → ¬ ((x = 557 ∨ x = 558 ∨ x = 559) ∧ y = m) → ¬ ((x = 560 ∨ x = 561) ∧ 25 * m ≤ y ∧ y ≤ 25 * m + 24) → s4 x y = s3 x y := fun x y a b c => by rw [a3 x y a (by omega), yne (by omega) rfl, yne (by omega) rfl, yne (by omega) rfl]; exact h2 x y (by omega)
        have s60 : ∀ j, 0 ≤ j → j < Z 0 3 m + 1 → s4 560 (25 * m + j) = wwith (msg (Z 0) m) p sg j := fun j x y => by rw [a3 _ _ (by omega) (by omega)]; exact y1 j x y
        refine y_ifeq rfl (fun q178 => ?_) (fun q178 => ?_)
        · skip
          refine y_push rfl ?_
          refine y_iast (n := 3) rfl rfl (by decide) rfl (by omega) ?_
          refine y_aload rfl rfl rfl ?_
          have r5 : rm (yset s4 558 m 1) (slpE (Z 0) m (wwith (msg (Z 0) m) p sg) (Z 0 3 m + 1)) (slpD (Z 1) m (s4 557 m) 1) := rm_slp hg.1.1 hr3 hm.1 (fun x y a b c => by rw [yne (by omega) rfl]; exact s0 x y a b c) (by rw [yne (by omega) rfl]; exact s59) (fun j x y => by rw [yne (by omega) rfl]; exact s60 j x y) (yne (by omega) rfl) (yeq _ _ _ _) (fun z => by omega)
          have g5 := eG_slp (f := wwith (msg (Z 0) m) p sg) (n := Z 0 3 m + 1) hg.1.1 hm.1 (by omega) (fun k k1 k2 => by unfold wwith; split; exact t5 k k1 (by omega); split; omega; exact t5 (k - 1) (by omega) (by omega))
          have g6 := dG_slp (f := wwith (msg (Z 0) m) p sg) (n := Z 0 3 m + 1) (p := s4 557 m) (st := 1) hg.1.2.1 hg.1.1 hm.1 (by omega) (Or.inr rfl)
          refine y_vi (as := [(2, 547)]) (S := []) rfl rfl rfl rfl rfl rfl (by decide) rfl (m_goToStop r5 g5 g6 (by unfold slpD; rw [yne (by omega) rfl, yne (by omega) rfl]; omega)) ?_
          rintro c_ s5 ⟨z1, z2, z3, z4⟩
          have f5 : mfs σ s5 := mfs_t (mfs_s f4 (by omega)) (rfr_m z3)
          refine y_push rfl ?_
          refine y_iceq rfl (fun q200 => ?_) (fun q200 => ?_)
          · skip
            refine y_push rfl ?_
            refine y_istore (L' := [some (2, 547), some (0, m), some (0, c), some (0, most), some (0, fd), some (0, p), some (0, sg), some (0, 0)]) rfl rfl rfl rfl ?_
            refine y_iload rfl rfl ?_
            refine y_ifeq rfl (fun q212 => ?_) (fun q212 => ?_)
            · skip
              refine y_iload rfl rfl ?_
              refine y_istore (L' := [some (2, 547), some (0, m), some (0, c), some (0, most), some (0, fd), some (0, p), some (0, sg), some (0, 0)]) rfl rfl rfl rfl ?_
              refine y_iload rfl rfl ?_
              refine y_ifeq rfl (fun q242 => ?_) (fun q242 => ?_)
              · skip
                refine y_iload rfl rfl ?_
                refine y_istore (L' := [some (2, 547), some (0, m), some (0, c), some (0, most), some (0, fd), some (0, p), some (0, sg), some (0, 0)]) rfl rfl rfl rfl ?_
                refine y_iinc (L' := [some (2, 547), some (0, m), some (0, c), some (0, most), some (0, fd), some (0, p), some (0, (sg + 1)), some (0, 0)]) rfl rfl rfl rfl rfl (by omega) ?_
                refine y_goto rfl ?_
                refine y_forget (M := [some (2, 547), some (0, m), some (0, c), some (0, most), some (0, fd), some (0, p), some (0, (sg + 1)), none]) ⟨Or.inr rfl, Or.inr rfl, Or.inr rfl, Or.inr rfl, Or.inr rfl, Or.inr rfl, Or.inr rfl, Or.inl rfl, trivial⟩ ?_
                exact ihI s5 (sg + 1) _ _ (by omega) (by omega) f5
              · exfalso; omega
            · exfalso; omega
          · skip
            refine y_push rfl ?_
            refine y_goto rfl ?_
            refine y_istore (L' := [some (2, 547), some (0, m), some (0, c), some (0, most), some (0, fd), some (0, p), some (0, sg), some (0, 1)]) rfl rfl rfl rfl ?_
            refine y_iload rfl rfl ?_
            refine y_ifeq rfl (fun q212 => ?_) (fun q212 => ?_)
            · exfalso; omega
            · skip
              refine y_aload rfl rfl rfl ?_
              refine y_gfr (t := 554) rfl rfl (by decide) rfl (by decide) ?_
              refine y_iload rfl rfl ?_
              refine y_iald (v := (s5 554 c)) (n := 9) rfl rfl (by decide) rfl (by omega) rfl ?_
              refine y_iload rfl rfl ?_
              refine y_icle rfl (fun q222 => ?_) (fun q222 => ?_)
              · skip
                refine y_iload rfl rfl ?_
                refine y_istore (L' := [some (2, 547), some (0, m), some (0, c), some (0, most), some (0, fd), some (0, p), some (0, sg), some (0, 1)]) rfl rfl rfl rfl ?_
                refine y_iload rfl rfl ?_
                refine y_ifeq rfl (fun q242 => ?_) (fun q242 => ?_)
                · exfalso; omega
                · skip
                  refine y_aload rfl rfl rfl ?_
                  refine y_gfr (t := 554) rfl rfl (by decide) rfl (by decide) ?_
                  refine y_iload rfl rfl ?_
                  refine y_iald (v := (s5 554 c)) (n := 9) rfl rfl (by decide) rfl (by omega) rfl ?_
                  refine y_iload rfl rfl ?_
                  refine y_icle rfl (fun q252 => ?_) (fun q252 => ?_)
                  · skip
                    refine y_iload rfl rfl ?_
                    refine y_istore (L' := [some (2, 547), some (0, m), some (0, c), some (0, most), some (0, fd), some (0, p), some (0, sg), some (0, 1)]) rfl rfl rfl rfl ?_
                    refine y_iinc (L' := [some (2, 547), some (0, m), some (0, c), some (0, most), some (0, fd), some (0, p), some (0, (sg + 1)), some (0, 1)]) rfl rfl rfl rfl rfl (by omega) ?_
                    refine y_goto rfl ?_
                    refine y_forget (M := [some (2, 547), some (0, m), some (0, c), some (0, most), some (0, fd), some (0, p), some (0, (sg + 1)), none]) ⟨Or.inr rfl, Or.inr rfl, Or.inr rfl, Or.inr rfl, Or.inr rfl, Or.inr rfl, Or.inr rfl, Or.inl rfl, trivial⟩ ?_
                    exact ihI s5 (sg + 1) _ _ (by omega) (by omega) f5
                  · skip
                    refine y_aload rfl rfl rfl ?_
                    refine y_gfr (t := 554) rfl rfl (by decide) rfl (by decide) ?_
                    refine y_iload rfl rfl ?_
                    refine y_iald (v := (s5 554 c)) (n := 9) rfl rfl (by decide) rfl (by omega) rfl ?_
                    refine y_goto rfl ?_
                    refine y_istore (L' := [some (2, 547), some (0, m), some (0, c), some (0, (s5 554 c)), some (0, fd), some (0, p), some (0, sg), some (0, 1)]) rfl rfl rfl rfl ?_
                    refine y_iinc (L' := [some (2, 547), some (0, m), some (0, c), some (0, (s5 554 c)), some (0, fd), some (0, p), some (0, (sg + 1)), some (0, 1)]) rfl rfl rfl rfl rfl (by omega) ?_
                    refine y_goto rfl ?_
                    refine y_forget (M := [some (2, 547), some (0, m), some (0, c), some (0, (s5 554 c)), some (0, fd), some (0, p), some (0, (sg + 1)), none]) ⟨Or.inr rfl, Or.inr rfl, Or.inr rfl, Or.inr rfl, Or.inr rfl, Or.inr rfl, Or.inr rfl, Or.inl rfl, trivial⟩ ?_
                    exact ihI s5 (sg + 1) _ _ (by omega) (by omega) f5
              · skip
                refine y_push rfl ?_
                refine y_iload rfl rfl ?_
                refine y_imul (v := (10 * p)) rfl rfl (by omega) ?_
                refine y_iload rfl rfl ?_
                refine y_iadd (v := ((10 * p) + sg)) rfl rfl (by omega) ?_
                refine y_goto rfl ?_
                refine y_istore (L' := [some (2, 547), some (0, m), some (0, c), some (0, most), some (0, ((10 * p) + sg)), some (0, p), some (0, sg), some (0, 1)]) rfl rfl rfl rfl ?_
                refine y_iload rfl rfl ?_
                refine y_ifeq rfl (fun q242 => ?_) (fun q242 => ?_)
                · exfalso; omega
                · skip
                  refine y_aload rfl rfl rfl ?_
                  refine y_gfr (t := 554) rfl rfl (by decide) rfl (by decide) ?_
                  refine y_iload rfl rfl ?_
                  refine y_iald (v := (s5 554 c)) (n := 9) rfl rfl (by decide) rfl (by omega) rfl ?_
                  refine y_iload rfl rfl ?_
                  refine y_icle rfl (fun q252 => ?_) (fun q252 => ?_)
                  · skip
                    refine y_iload rfl rfl ?_
                    refine y_istore (L' := [some (2, 547), some (0, m), some (0, c), some (0, most), some (0, ((10 * p) + sg)), some (0, p), some (0, sg), some (0, 1)]) rfl rfl rfl rfl ?_
                    refine y_iinc (L' := [some (2, 547), some (0, m), some (0, c), some (0, most), some (0, ((10 * p) + sg)), some (0, p), some (0, (sg + 1)), some (0, 1)]) rfl rfl rfl rfl rfl (by omega) ?_
                    refine y_goto rfl ?_
                    refine y_forget (M := [some (2, 547), some (0, m), some (0, c), some (0, most), some (0, ((10 * p) + sg)), some (0, p), some (0, (sg + 1)), none]) ⟨Or.inr rfl, Or.inr rfl, Or.inr rfl, Or.inr rfl, Or.inr rfl, Or.inr rfl, Or.inr rfl, Or.inl rfl, trivial⟩ ?_
                    exact ihI s5 (sg + 1) _ _ (by omega) (by omega) f5
                  · skip
                    refine y_aload rfl rfl rfl ?_
                    refine y_gfr (t := 554) rfl rfl (by decide) rfl (by decide) ?_
                    refine y_iload rfl rfl ?_
                    refine y_iald (v := (s5 554 c)) (n := 9) rfl rfl (by decide) rfl (by omega) rfl ?_
                    refine y_goto rfl ?_
                    refine y_istore (L' := [some (2, 547), some (0, m), some (0, c), some (0, (s5 554 c)), some (0, ((10 * p) + sg)), some (0, p), some (0, sg), some (0, 1)]) rfl rfl rfl rfl ?_
                    refine y_iinc (L' := [some (2, 547), some (0, m), some (0, c), some (0, (s5 554 c)), some (0, ((10 * p) + sg)), some (0, p), some (0, (sg + 1)), some (0, 1)]) rfl rfl rfl rfl rfl (by omega) ?_
                    refine y_goto rfl ?_
                    refine y_forget (M := [some (2, 547), some (0, m), some (0, c), some (0, (s5 554 c)), some (0, ((10 * p) + sg)), some (0, p), some (0, (sg + 1)), none]) ⟨Or.inr rfl, Or.inr rfl, Or.inr rfl, Or.inr rfl, Or.inr rfl, Or.inr rfl, Or.inr rfl, Or.inl rfl, trivial⟩ ?_
                    exact ihI s5 (sg + 1) _ _ (by omega) (by omega) f5
        · skip
          refine y_aload rfl rfl rfl ?_
          refine y_gfr (t := 548) rfl rfl (by decide) rfl (by decide) ?_
          refine y_push rfl ?_
          refine y_iload rfl rfl ?_
          refine y_iadd (v := (23 + m)) rfl rfl (by omega) ?_
          refine y_iald (v := (s4 548 (23 + m))) (n := 2108) rfl rfl (by decide) rfl (by omega) rfl ?_
          refine y_goto rfl ?_
          refine y_iast (n := 3) rfl rfl (by decide) rfl (by omega) ?_
          refine y_aload rfl rfl rfl ?_
          have ⟨a1, a2⟩ : bflaw (wwith (msg (Z 0) m) p sg) (Z 0 3 m + 1).toNat = -1 ∧ ∀ k, 0 ≤ k → k < Z 0 3 m + 1 → wwith (msg (Z 0) m) p sg k = 7 ∨ wwith (msg (Z 0) m) p sg k = 8 → s4 561 (25 * m + k) = bp (wwith (msg (Z 0) m) p sg) (Z 0 3 m + 1).toNat k := by
            rcases a0 with ⟨_, z1, z2⟩ | ⟨z, _⟩
            · exact ⟨z1, z2⟩
            · omega
          have hst : (s4 548 (23 + m)) = 0 ∧ 0 < Z 0 3 m + 1 ∧ bflaw (wwith (msg (Z 0) m) p sg) (Z 0 3 m + 1).toNat = -1 ∨ (s4 548 (23 + m)) = 1 := by omega
          have r5 : rm (yset s4 558 m (s4 548 (23 + m))) (slpE (Z 0) m (wwith (msg (Z 0) m) p sg) (Z 0 3 m + 1)) (slpD (Z 1) m (s4 557 m) (s4 548 (23 + m))) := rm_slp hg.1.1 hr3 hm.1 (fun x y a b c => by rw [yne (by omega) rfl]; exact s0 x y a b c) (by rw [yne (by omega) rfl]; exact s59) (fun j x y => by rw [yne (by omega) rfl]; exact s60 j x y) (yne (by omega) rfl) (yeq _ _ _ _) (fun _ k x y z => by rw [yne (by omega) rfl]; exact a2 k x y z)
          have g5 := eG_slp (f := wwith (msg (Z 0) m) p sg) (n := Z 0 3 m + 1) hg.1.1 hm.1 (by omega) (fun k k1 k2 => by unfold wwith; split; exact t5 k k1 (by omega); split; omega; exact t5 (k - 1) (by omega) (by omega))
          have g6 := dG_slp (f := wwith (msg (Z 0) m) p sg) (n := Z 0 3 m + 1) (p := s4 557 m) (st := (s4 548 (23 + m))) hg.1.2.1 hg.1.1 hm.1 (by omega) hst
          refine y_vi (as := [(2, 547)]) (S := []) rfl rfl rfl rfl rfl rfl (by decide) rfl (m_goToStop r5 g5 g6 (by unfold slpD; rw [yne (by omega) rfl, yne (by omega) rfl]; omega)) ?_
          rintro c_ s5 ⟨z1, z2, z3, z4⟩
          have f5 : mfs σ s5 := mfs_t (mfs_s f4 (by omega)) (rfr_m z3)
          refine y_push rfl ?_
          refine y_iceq rfl (fun q200 => ?_) (fun q200 => ?_)
          · skip
            refine y_push rfl ?_
            refine y_istore (L' := [some (2, 547), some (0, m), some (0, c), some (0, most), some (0, fd), some (0, p), some (0, sg), some (0, 0)]) rfl rfl rfl rfl ?_
            refine y_iload rfl rfl ?_
            refine y_ifeq rfl (fun q212 => ?_) (fun q212 => ?_)
            · skip
              refine y_iload rfl rfl ?_
              refine y_istore (L' := [some (2, 547), some (0, m), some (0, c), some (0, most), some (0, fd), some (0, p), some (0, sg), some (0, 0)]) rfl rfl rfl rfl ?_
              refine y_iload rfl rfl ?_
              refine y_ifeq rfl (fun q242 => ?_) (fun q242 => ?_)
              · skip
                refine y_iload rfl rfl ?_
                refine y_istore (L' := [some (2, 547), some (0, m), some (0, c), some (0, most), some (0, fd), some (0, p), some (0, sg), some (0, 0)]) rfl rfl rfl rfl ?_
                refine y_iinc (L' := [some (2, 547), some (0, m), some (0, c), some (0, most), some (0, fd), some (0, p), some (0, (sg + 1)), some (0, 0)]) rfl rfl rfl rfl rfl (by omega) ?_
                refine y_goto rfl ?_
                refine y_forget (M := [some (2, 547), some (0, m), some (0, c), some (0, most), some (0, fd), some (0, p), some (0, (sg + 1)), none]) ⟨Or.inr rfl, Or.inr rfl, Or.inr rfl, Or.inr rfl, Or.inr rfl, Or.inr rfl, Or.inr rfl, Or.inl rfl, trivial⟩ ?_
                exact ihI s5 (sg + 1) _ _ (by omega) (by omega) f5
              · exfalso; omega
            · exfalso; omega
          · skip
            refine y_push rfl ?_
            refine y_goto rfl ?_
            refine y_istore (L' := [some (2, 547), some (0, m), some (0, c), some (0, most), some (0, fd), some (0, p), some (0, sg), some (0, 1)]) rfl rfl rfl rfl ?_
            refine y_iload rfl rfl ?_
            refine y_ifeq rfl (fun q212 => ?_) (fun q212 => ?_)
            · exfalso; omega
            · skip
              refine y_aload rfl rfl rfl ?_
              refine y_gfr (t := 554) rfl rfl (by decide) rfl (by decide) ?_
              refine y_iload rfl rfl ?_
              refine y_iald (v := (s5 554 c)) (n := 9) rfl rfl (by decide) rfl (by omega) rfl ?_
              refine y_iload rfl rfl ?_
              refine y_icle rfl (fun q222 => ?_) (fun q222 => ?_)
              · skip
                refine y_iload rfl rfl ?_
                refine y_istore (L' := [some (2, 547), some (0, m), some (0, c), some (0, most), some (0, fd), some (0, p), some (0, sg), some (0, 1)]) rfl rfl rfl rfl ?_
                refine y_iload rfl rfl ?_
                refine y_ifeq rfl (fun q242 => ?_) (fun q242 => ?_)
                · exfalso; omega
                · skip
                  refine y_aload rfl rfl rfl ?_
                  refine y_gfr (t := 554) rfl rfl (by decide) rfl (by decide) ?_
                  refine y_iload rfl rfl ?_
                  refine y_iald (v := (s5 554 c)) (n := 9) rfl rfl (by decide) rfl (by omega) rfl ?_
                  refine y_iload rfl rfl ?_
                  refine y_icle rfl (fun q252 => ?_) (fun q252 => ?_)
                  · skip
                    refine y_iload rfl rfl ?_
                    refine y_istore (L' := [some (2, 547), some (0, m), some (0, c), some (0, most), some (0, fd), some (0, p), some (0, sg), some (0, 1)]) rfl rfl rfl rfl ?_
                    refine y_iinc (L' := [some (2, 547), some (0, m), some (0, c), some (0, most), some (0, fd), some (0, p), some (0, (sg + 1)), some (0, 1)]) rfl rfl rfl rfl rfl (by omega) ?_
                    refine y_goto rfl ?_
                    refine y_forget (M := [some (2, 547), some (0, m), some (0, c), some (0, most), some (0, fd), some (0, p), some (0, (sg + 1)), none]) ⟨Or.inr rfl, Or.inr rfl, Or.inr rfl, Or.inr rfl, Or.inr rfl, Or.inr rfl, Or.inr rfl, Or.inl rfl, trivial⟩ ?_
                    exact ihI s5 (sg + 1) _ _ (by omega) (by omega) f5
                  · skip
                    refine y_aload rfl rfl rfl ?_
                    refine y_gfr (t := 554) rfl rfl (by decide) rfl (by decide) ?_
                    refine y_iload rfl rfl ?_
                    refine y_iald (v := (s5 554 c)) (n := 9) rfl rfl (by decide) rfl (by omega) rfl ?_
                    refine y_goto rfl ?_
                    refine y_istore (L' := [some (2, 547), some (0, m), some (0, c), some (0, (s5 554 c)), some (0, fd), some (0, p), some (0, sg), some (0, 1)]) rfl rfl rfl rfl ?_
                    refine y_iinc (L' := [some (2, 547), some (0, m), some (0, c), some (0, (s5 554 c)), some (0, fd), some (0, p), some (0, (sg + 1)), some (0, 1)]) rfl rfl rfl rfl rfl (by omega) ?_
                    refine y_goto rfl ?_
                    refine y_forget (M := [some (2, 547), some (0, m), some (0, c), some (0, (s5 554 c)), some (0, fd), some (0, p), some (0, (sg + 1)), none]) ⟨Or.inr rfl, Or.inr rfl, Or.inr rfl, Or.inr rfl, Or.inr rfl, Or.inr rfl, Or.inr rfl, Or.inl rfl, trivial⟩ ?_
                    exact ihI s5 (sg + 1) _ _ (by omega) (by omega) f5
              · skip
                refine y_push rfl ?_
                refine y_iload rfl rfl ?_
                refine y_imul (v := (10 * p)) rfl rfl (by omega) ?_
                refine y_iload rfl rfl ?_
                refine y_iadd (v := ((10 * p) + sg)) rfl rfl (by omega) ?_
                refine y_goto rfl ?_
                refine y_istore (L' := [some (2, 547), some (0, m), some (0, c), some (0, most), some (0, ((10 * p) + sg)), some (0, p), some (0, sg), some (0, 1)]) rfl rfl rfl rfl ?_
                refine y_iload rfl rfl ?_
                refine y_ifeq rfl (fun q242 => ?_) (fun q242 => ?_)
                · exfalso; omega
                · skip
                  refine y_aload rfl rfl rfl ?_
                  refine y_gfr (t := 554) rfl rfl (by decide) rfl (by decide) ?_
                  refine y_iload rfl rfl ?_
                  refine y_iald (v := (s5 554 c)) (n := 9) rfl rfl (by decide) rfl (by omega) rfl ?_
                  refine y_iload rfl rfl ?_
                  refine y_icle rfl (fun q252 => ?_) (fun q252 => ?_)
                  · skip
                    refine y_iload rfl rfl ?_
                    refine y_istore (L' := [some (2, 547), some (0, m), some (0, c), some (0, most), some (0, ((10 * p) + sg)), some (0, p), some (0, sg), some (0, 1)]) rfl rfl rfl rfl ?_
                    refine y_iinc (L' := [some (2, 547), some (0, m), some (0, c), some (0, most), some (0, ((10 * p) + sg)), some (0, p), some (0, (sg + 1)), some (0, 1)]) rfl rfl rfl rfl rfl (by omega) ?_
                    refine y_goto rfl ?_
                    refine y_forget (M := [some (2, 547), some (0, m), some (0, c), some (0, most), some (0, ((10 * p) + sg)), some (0, p), some (0, (sg + 1)), none]) ⟨Or.inr rfl, Or.inr rfl, Or.inr rfl, Or.inr rfl, Or.inr rfl, Or.inr rfl, Or.inr rfl, Or.inl rfl, trivial⟩ ?_
                    exact ihI s5 (sg + 1) _ _ (by omega) (by omega) f5
                  · skip
                    refine y_aload rfl rfl rfl ?_
                    refine y_gfr (t := 554) rfl rfl (by decide) rfl (by decide) ?_
                    refine y_iload rfl rfl ?_
                    refine y_iald (v := (s5 554 c)) (n := 9) rfl rfl (by decide) rfl (by omega) rfl ?_
                    refine y_goto rfl ?_
                    refine y_istore (L' := [some (2, 547), some (0, m), some (0, c), some (0, (s5 554 c)), some (0, ((10 * p) + sg)), some (0, p), some (0, sg), some (0, 1)]) rfl rfl rfl rfl ?_
                    refine y_iinc (L' := [some (2, 547), some (0, m), some (0, c), some (0, (s5 554 c)), some (0, ((10 * p) + sg)), some (0, p), some (0, (sg + 1)), some (0, 1)]) rfl rfl rfl rfl rfl (by omega) ?_
                    refine y_goto rfl ?_
                    refine y_forget (M := [some (2, 547), some (0, m), some (0, c), some (0, (s5 554 c)), some (0, ((10 * p) + sg)), some (0, p), some (0, (sg + 1)), none]) ⟨Or.inr rfl, Or.inr rfl, Or.inr rfl, Or.inr rfl, Or.inr rfl, Or.inr rfl, Or.inr rfl, Or.inl rfl, trivial⟩ ?_
                    exact ihI s5 (sg + 1) _ _ (by omega) (by omega) f5
    · skip
      refine y_aload rfl rfl rfl ?_
      refine y_gfr (t := 560) rfl rfl (by decide) rfl (by decide) ?_
      refine y_push rfl ?_
      refine y_iload rfl rfl ?_
      refine y_imul (v := (25 * m)) rfl rfl (by omega) ?_
      refine y_iload rfl rfl ?_
      refine y_iadd (v := ((25 * m) + k)) rfl rfl (by omega) ?_
      refine y_aload rfl rfl rfl ?_
      refine y_gfr (t := 560) rfl rfl (by decide) rfl (by decide) ?_
      refine y_push rfl ?_
      refine y_iload rfl rfl ?_
      refine y_imul (v := (25 * m)) rfl rfl (by omega) ?_
      refine y_iload rfl rfl ?_
      refine y_iadd (v := ((25 * m) + k)) rfl rfl (by omega) ?_
      refine y_push rfl ?_
      refine y_isub (v := (((25 * m) + k) - 1)) rfl rfl (by omega) ?_
      refine y_iald (v := (τ 560 (((25 * m) + k) - 1))) (n := 75) rfl rfl (by decide) rfl (by omega) rfl ?_
      refine y_iast (n := 75) rfl rfl (by decide) rfl (by omega) ?_
      refine y_iinc (L' := [some (2, 547), some (0, m), some (0, c), some (0, most), some (0, fd), some (0, p), some (0, sg), some (0, (k + (-1)))]) rfl rfl rfl rfl rfl (by omega) ?_
      refine y_goto rfl ?_
      refine ih (yset τ 560 ((25 * m) + k) (τ 560 (((25 * m) + k) - 1))) (k + -1) most fd (by omega) (by omega) ⟨fun j x y z => by rw [yne (by omega) rfl]; exact h1.1 j x (by omega) z, fun j x y => ?_⟩ (fun x y a => by rw [yne (by omega) rfl]; exact h2 x y a)
      by_cases e_ : j = k
      · subst e_; rw [yeq, show (25 * m + j - 1 : Int) = 25 * m + (j - 1) by omega]; exact h1.1 (j - 1) (by omega) (by omega) (by omega)
      · rw [yne (by omega) rfl]; exact h1.2 j (by omega) y
theorem lm_thief2 {g : Launch × XG × va_G} {σ : YS} {Z : YZ} {I : Int → YZ} {M : YS} {N : Int} {m c : Int} {p : Int} {nn0 : Nat} (ihO : ∀ (τ : YS) (p most fd : Int), Z 0 3 m + 1 - p < (nn0 : Int) → (0 ≤ p ∧ p ≤ Z 0 3 m + 1) → mfs σ τ → YW g 84 45 [some (2, 547), some (0, m), some (0, c), some (0, most), some (0, fd), some (0, p), none, none] [] τ (fun rv σ' => ∃ b, rv = some (0, b) ∧ ((mW σ' Z I (if ((0 ≤ m ∧ m < Z 0 1 0) ∧ 0 ≤ c ∧ c < Z 0 0 0) ∧ Z 0 3 m < 24 then M else bump M 0)) ∧ cfr σ σ'))) (hx : mW σ Z I M) (hg : wG Z I M N) (hN : N < 100000) (hm : (0 ≤ m ∧ m < Z 0 1 0) ∧ 0 ≤ c ∧ c < Z 0 0 0) (hl : Z 0 3 m < 24) (hp : 0 ≤ p ∧ p ≤ Z 0 3 m) (hnn : Z 0 3 m + 1 - p < (nn0 : Int) + 1) : ∀ (nn : Nat) (τ : YS) (sg : Int) (most : Int) (fd : Int), 6 - sg < (nn : Int) → (0 ≤ sg ∧ sg ≤ 6) → (mfs σ τ) → YW g 84 62 [some (2, 547), some (0, m), some (0, c), some (0, most), some (0, fd), some (0, p), some (0, sg), none] [] τ (fun rv σ' => ∃ b, rv = some (0, b) ∧ ((mW σ' Z I (if ((0 ≤ m ∧ m < Z 0 1 0) ∧ 0 ≤ c ∧ c < Z 0 0 0) ∧ Z 0 3 m < 24 then M else bump M 0)) ∧ cfr σ σ')) := by
  intro nn
  induction nn with
  | zero =>
    intro τ sg most fd hn h0 h1
    exfalso
    omega
  | succ nn ih =>
    intro τ sg most fd hn h0 h1
    have e1 := hg.1.1.1
    have e2 := hg.1.1.2.1
    have ⟨⟨t1, t2⟩, ⟨t3, t4⟩, t5⟩ := hg.1.1.2.2 m (by omega) (by omega)
    have ⟨dm1, dm2, dm3, dm4⟩ := hg.1.2.1.2 m (by omega) (by omega)
    have hn5 := hg.1.2.2.1
    refine y_iload rfl rfl ?_
    refine y_push rfl ?_
    refine y_icgt rfl (fun q65 => ?_) (fun q65 => ?_)
    · skip
      refine y_iinc (L' := [some (2, 547), some (0, m), some (0, c), some (0, most), some (0, fd), some (0, (p + 1)), some (0, sg), none]) rfl rfl rfl rfl rfl (by omega) ?_
      refine y_goto rfl ?_
      refine y_forget (M := [some (2, 547), some (0, m), some (0, c), some (0, most), some (0, fd), some (0, (p + 1)), none, none]) ⟨Or.inr rfl, Or.inr rfl, Or.inr rfl, Or.inr rfl, Or.inr rfl, Or.inr rfl, Or.inl rfl, Or.inl rfl, trivial⟩ ?_
      exact ihO τ (p + 1) most fd (by omega) (by omega) h1
    · skip
      refine y_aload rfl rfl rfl ?_
      refine y_vu (as := [(2, 547)]) (S := []) rfl rfl rfl rfl rfl rfl (by decide) rfl (m_layNow (mzs_cong hg.1.1 hx.1.1 (fun y a b => h1 548 y (by omega))) hg.1.1 hg.1.2.1 hg.1.2.2.2.2.1.1) ?_
      rintro s3 ⟨l1, l2⟩
      have ⟨⟨b1, b2, b3, b4⟩, ⟨b5, b6⟩, b7, b8⟩ := l1.2.2.1 m (by omega) (by omega)
      refine y_aload rfl rfl rfl ?_
      refine y_gfr (t := 559) rfl rfl (by decide) rfl (by decide) ?_
      refine y_iload rfl rfl ?_
      refine y_iald (v := (s3 559 m)) (n := 3) rfl rfl (by decide) rfl (by omega) rfl ?_
      refine y_istore (L' := [some (2, 547), some (0, m), some (0, c), some (0, most), some (0, fd), some (0, p), some (0, sg), some (0, (s3 559 m))]) rfl rfl rfl rfl ?_
      refine lm_thief3 (fun τ sg most fd => ih τ sg most fd) l1 (mfs_t h1 l2) hx hg hN hm hl hp (by omega) (by omega) 26 s3 (s3 559 m) most fd (by omega) (by omega) ⟨fun j x y z => b7 j x z, fun j x y => by omega⟩ (fun x y _ => rfl)
theorem lm_thief1 {g : Launch × XG × va_G} {σ : YS} {Z : YZ} {I : Int → YZ} {M : YS} {N : Int} {m c : Int} (hx : mW σ Z I M) (hg : wG Z I M N) (hN : N < 100000) (hm : (0 ≤ m ∧ m < Z 0 1 0) ∧ 0 ≤ c ∧ c < Z 0 0 0) (hl : Z 0 3 m < 24) : ∀ (nn : Nat) (τ : YS) (p : Int) (most : Int) (fd : Int), Z 0 3 m + 1 - p < (nn : Int) → (0 ≤ p ∧ p ≤ Z 0 3 m + 1) → (mfs σ τ) → YW g 84 45 [some (2, 547), some (0, m), some (0, c), some (0, most), some (0, fd), some (0, p), none, none] [] τ (fun rv σ' => ∃ b, rv = some (0, b) ∧ ((mW σ' Z I (if ((0 ≤ m ∧ m < Z 0 1 0) ∧ 0 ≤ c ∧ c < Z 0 0 0) ∧ Z 0 3 m < 24 then M else bump M 0)) ∧ cfr σ σ')) := by
  intro nn
  induction nn with
  | zero =>
    intro τ p most fd hn h0 h1
    exfalso
    omega
  | succ nn ih =>
    intro τ p most fd hn h0 h1
    have e1 := hg.1.1.1
    have e2 := hg.1.1.2.1
    have ⟨⟨t1, t2⟩, ⟨t3, t4⟩, t5⟩ := hg.1.1.2.2 m (by omega) (by omega)
    have ⟨dm1, dm2, dm3, dm4⟩ := hg.1.2.1.2 m (by omega) (by omega)
    have hn5 := hg.1.2.2.1
    have w26 : τ 548 (26 + m) = Z 0 3 m := (h1 _ _ (by omega)).trans (hx.1.1.2.2.1 m (by omega) (by omega)).2.1
    refine y_iload rfl rfl ?_
    refine y_aload rfl rfl rfl ?_
    refine y_gfr (t := 548) rfl rfl (by decide) rfl (by decide) ?_
    refine y_push rfl ?_
    refine y_iload rfl rfl ?_
    refine y_iadd (v := (26 + m)) rfl rfl (by omega) ?_
    refine y_iald (v := (τ 548 (26 + m))) (n := 2108) rfl rfl (by decide) rfl (by omega) rfl ?_
    refine y_icgt rfl (fun q56 => ?_) (fun q56 => ?_)
    · skip
      refine y_iload rfl rfl ?_
      refine y_iret rfl rfl ⟨_, rfl, ?_⟩
      exact ⟨by rw [if_pos (by omega)]; exact mW_mfs hg hx h1, fun x y a => h1 x y (by omega)⟩
    · skip
      refine y_push rfl ?_
      refine y_istore (L' := [some (2, 547), some (0, m), some (0, c), some (0, most), some (0, fd), some (0, p), some (0, 0), none]) rfl rfl rfl rfl ?_
      exact lm_thief2 (fun τ p most fd => ih τ p most fd) hx hg hN hm hl (by omega) (by omega) 7 τ 0 most fd (by omega) (by omega) h1
theorem m_thief {g : Launch × XG × va_G} {σ : YS} {Z : YZ} {I : Int → YZ} {M : YS} {N : Int} {m c : Int} (hx : mW σ Z I M) (hg : wG Z I M N) (hN : N < 100000) : YI g 84 [(2, 547), (0, m), (0, c)] σ (fun b σ' => (mW σ' Z I (if ((0 ≤ m ∧ m < Z 0 1 0) ∧ 0 ≤ c ∧ c < Z 0 0 0) ∧ Z 0 3 m < 24 then M else bump M 0)) ∧ cfr σ σ') := by
  refine y_start rfl rfl rfl ?_
  have ⟨⟨hz, hu, hur⟩, x2, x3, ⟨x4, x5⟩, x6, x7⟩ := hx
  have ⟨⟨he, hd, hn, hu2, h67, hk⟩, g2, g3, g4⟩ := hg
  have ⟨⟨f1, f2, f3⟩, f5, f6, f7, f8⟩ := hz
  have ⟨e1, e2, e3⟩ := he
  have x60 : σ 551 0 = M 3 0 := x6 0 (by omega) (by omega)
  have x61 : σ 551 1 = M 3 1 := x6 1 (by omega) (by omega)
  have x62 : σ 551 2 = M 3 2 := x6 2 (by omega) (by omega)
  have g40 := g4 0 (by omega) (by omega)
  have g41 := g4 1 (by omega) (by omega)
  have g42 := g4 2 (by omega) (by omega)
  have hu : σ 548 106 = Z 2 0 0 := hu
  have f1 : σ 548 (0 + 0) = Z 0 0 0 := f1
  have f10 : σ 548 0 = Z 0 0 0 := f1
  have f2 : σ 548 (0 + 10) = Z 0 1 0 := f2
  have f20 : σ 548 10 = Z 0 1 0 := f2
  have f30 : σ 548 105 = Z 1 5 0 := f3
  refine y_aload rfl rfl rfl ?_
  refine y_push rfl ?_
  refine y_iload rfl rfl ?_
  refine y_vi (as := [(2, 547), (0, 0), (0, m)]) (S := []) rfl rfl rfl rfl rfl rfl (by decide) rfl (m_isMan (r := 0) (Or.inl rfl) f2 e2) ?_
  rintro _ _ ⟨rfl, rfl⟩
  refine y_ifeq rfl (fun q6 => ?_) (fun q6 => ?_)
  · skip
    replace q6 := yb_0.mp q6
    refine y_aload rfl rfl rfl ?_
    refine y_vi (as := [(2, 547)]) (S := []) rfl rfl rfl rfl rfl rfl (by decide) rfl (m_bad (by omega)) ?_
    rintro _ _ ⟨rfl, rfl⟩
    refine y_iret rfl rfl ⟨_, rfl, ?_⟩
    exact ⟨by rw [if_neg (by omega)]; exact mW_bump hg hx (by omega) rfl, cfr_s (cfr_0 _) (by omega)⟩
  · skip
    replace q6 := yb_1.mp q6
    refine y_aload rfl rfl rfl ?_
    refine y_push rfl ?_
    refine y_iload rfl rfl ?_
    refine y_vi (as := [(2, 547), (0, 0), (0, c)]) (S := []) rfl rfl rfl rfl rfl rfl (by decide) rfl (m_isCell (r := 0) (Or.inl rfl) f1 (by omega)) ?_
    rintro _ _ ⟨rfl, rfl⟩
    refine y_ifeq rfl (fun q15 => ?_) (fun q15 => ?_)
    · skip
      replace q15 := yb_0.mp q15
      refine y_aload rfl rfl rfl ?_
      refine y_vi (as := [(2, 547)]) (S := []) rfl rfl rfl rfl rfl rfl (by decide) rfl (m_bad (by omega)) ?_
      rintro _ _ ⟨rfl, rfl⟩
      refine y_iret rfl rfl ⟨_, rfl, ?_⟩
      exact ⟨by rw [if_neg (by omega)]; exact mW_bump hg hx (by omega) rfl, cfr_s (cfr_0 _) (by omega)⟩
    · skip
      replace q15 := yb_1.mp q15
      have ⟨_, ⟨t3, t4⟩, _⟩ := e3 m (by omega) (by omega)
      have w26 : σ 548 (26 + m) = Z 0 3 m := (f6 m (by omega) (by omega)).2.1
      refine y_aload rfl rfl rfl ?_
      refine y_gfr (t := 548) rfl rfl (by decide) rfl (by decide) ?_
      refine y_push rfl ?_
      refine y_iload rfl rfl ?_
      refine y_iadd (v := (26 + m)) rfl rfl (by omega) ?_
      refine y_iald (v := (σ 548 (26 + m))) (n := 2108) rfl rfl (by decide) rfl (by omega) rfl ?_
      refine y_push rfl ?_
      refine y_icne rfl (fun q29 => ?_) (fun q29 => ?_)
      · skip
        refine y_push rfl ?_
        refine y_istore (L' := [some (2, 547), some (0, m), some (0, c), some (0, (-1)), none, none, none, none]) rfl rfl rfl rfl ?_
        refine y_push rfl ?_
        refine y_istore (L' := [some (2, 547), some (0, m), some (0, c), some (0, (-1)), some (0, (-1)), none, none, none]) rfl rfl rfl rfl ?_
        refine y_push rfl ?_
        refine y_istore (L' := [some (2, 547), some (0, m), some (0, c), some (0, (-1)), some (0, (-1)), some (0, 0), none, none]) rfl rfl rfl rfl ?_
        exact lm_thief1 hx hg hN (by omega) (by omega) 27 σ 0 _ _ (by omega) (by omega) (mfs_0 _)
      · skip
        refine y_aload rfl rfl rfl ?_
        refine y_vi (as := [(2, 547)]) (S := []) rfl rfl rfl rfl rfl rfl (by decide) rfl (m_bad (by omega)) ?_
        rintro _ _ ⟨rfl, rfl⟩
        refine y_iret rfl rfl ⟨_, rfl, ?_⟩
        exact ⟨by rw [if_neg (by omega)]; exact mW_bump hg hx (by omega) rfl, cfr_s (cfr_0 _) (by omega)⟩
