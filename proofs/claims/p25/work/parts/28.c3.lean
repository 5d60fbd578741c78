theorem l_learn {g : Launch × XG × va_G} {σ : YS} {a n : Int} {f : Int → Int} (ha : yN a) (hl : σ a 2 = n) (hn : 0 ≤ n ∧ n ≤ 24) (hf : ∀ k, 0 ≤ k → k < n → σ (a + 1) k = f k) (hg : ∀ k, 0 ≤ k → k < n → 0 ≤ f k ∧ f k ≤ 13) : ∀ (nn : Nat) (τ : YS) (κ : Nat) (inn : Int) (opn : Int), n - κ < (nn : Int) → ((κ : Int) ≤ n) → (0 ≤ n) → (bw f κ = -1) → (opn = bl f κ) → (lfr σ τ a) → (τ a 3 = -1) → (linv τ a f κ inn) → YW g 138 11 [some (2, a), some (0, inn), some (0, opn), some (0, (κ : Int)), none, none] [] τ (fun r σ' => r = none ∧ lrn σ' a f n ∧ lfr σ σ' a) := by
  intro nn
  induction nn with
  | zero =>
    intro τ κ inn opn hn h0 h1 h2 h3 h4 h5 h6
    exfalso
    omega
  | succ nn ih =>
    intro τ κ inn opn hn h0 h1 h2 h3 h4 h5 h6
    have a0 := yN_0 ha
    have h9 : τ a 2 = n := by rw [h4 _ _ (by omega) (by omega)]; exact hl
    refine y_iload rfl rfl ?_
    refine y_aload rfl rfl rfl ?_
    refine y_gfi (v := (τ a 2)) rfl (yN_c ha) (by have := yN_0 ha; omega) rfl (by decide) rfl rfl ?_
    refine y_icge rfl (fun q16 => ?_) (fun q16 => ?_)
    · skip
      refine y_iload rfl rfl ?_
      refine y_push rfl ?_
      refine y_iceq rfl (fun q135 => ?_) (fun q135 => ?_)
      · skip
        refine y_ret rfl rfl ⟨rfl, ?_⟩
        have sg : ∀ k, 0 ≤ k → k < n → τ (a + 1) k = f k := fun k k1 k2 => by rw [h4 _ _ (by omega) (by omega)]; exact hf k k1 k2
        have hK : κ = n.toNat := by omega
        subst hK
        have ⟨l1, l2, l3⟩ := h6
        have hb0 : bo f n.toNat = 0 := by rcases (by omega : bo f n.toNat = 0 ∨ bo f n.toNat ≠ 0) with y | y; exact y; rw [if_neg y] at l1; have := (bgood f _ h2).2.1 (bo f n.toNat - 1) (by have := (bgood f _ h2).1.1; omega) (by omega); omega
        have hfl : bflaw f n.toNat = -1 := by unfold bflaw; rw [if_neg (by omega), if_neg (by omega)]
        exact ⟨⟨h9, sg, by rw [hfl]; exact h5, fun _ k k1 k2 k3 => l2 k ⟨k1, by omega, k3, fun d d1 d2 => by omega⟩⟩, h4⟩
      · skip
        refine y_aload rfl rfl rfl ?_
        refine y_aload rfl rfl rfl ?_
        refine y_gfi (v := (τ a 2)) rfl (yN_c ha) (by have := yN_0 ha; omega) rfl (by decide) rfl rfl ?_
        refine y_pfi (j := 3) rfl (yN_c ha) (by have := yN_0 ha; omega) rfl rfl rfl rfl rfl ?_
        refine y_ret rfl rfl ⟨rfl, ?_⟩
        have sg : ∀ k, 0 ≤ k → k < n → τ (a + 1) k = f k := fun k k1 k2 => by rw [h4 _ _ (by omega) (by omega)]; exact hf k k1 k2
        have hK : κ = n.toNat := by omega
        subst hK
        have ⟨l1, l2, l3⟩ := h6
        have hfl : bflaw f n.toNat = n := by unfold bflaw; rw [if_neg (by omega), if_pos (by have := (bgood f _ h2).1.1; split at l1 <;> omega)]; omega
        refine ⟨⟨by rw [yne (by omega) rfl]; omega, fun k k1 k2 => by rw [yne (by omega) rfl]; exact sg k k1 k2, by rw [yeq, hfl]; omega, fun z => by omega⟩, lfr_f h4⟩
    · skip
      have w1 : τ (a + 1) κ = f κ := by rw [h4 _ _ (by omega) (by omega)]; exact hf _ (by omega) (by omega)
      have hgk := hg κ (by omega) (by omega)
      have hbl := bl_01 f κ
      have gd := bgood f κ h2
      have gd2 := gd.2.1 (bo f κ - 1)
      refine y_aload rfl rfl rfl ?_
      refine y_gfr (t := (a + 1)) rfl (yN_c ha) (by have := yN_0 ha; omega) rfl (by have := yN_0 ha; omega) ?_
      refine y_iload rfl rfl ?_
      refine y_iald (v := (τ (a + 1) (κ : Int))) (n := 24) rfl (yN_s ha) (by have := yN_0 ha; omega) rfl (by omega) rfl ?_
      refine y_istore (L' := [some (2, a), some (0, inn), some (0, opn), some (0, (κ : Int)), some (0, (τ (a + 1) (κ : Int))), none]) rfl rfl rfl rfl ?_
      refine y_iload rfl rfl ?_
      refine y_push rfl ?_
      refine y_iclt rfl (fun q31 => ?_) (fun q31 => ?_)
      · skip
        refine y_push rfl ?_
        refine y_istore (L' := [some (2, a), some (0, inn), some (0, opn), some (0, (κ : Int)), some (0, (τ (a + 1) (κ : Int))), some (0, 0)]) rfl rfl rfl rfl ?_
        refine y_iload rfl rfl ?_
        refine y_iload rfl rfl ?_
        refine y_icne rfl (fun q44 => ?_) (fun q44 => ?_)
        · skip
          refine y_aload rfl rfl rfl ?_
          refine y_iload rfl rfl ?_
          refine y_pfi (j := 3) rfl (yN_c ha) (by have := yN_0 ha; omega) rfl rfl rfl rfl rfl ?_
          refine y_ret rfl rfl ⟨rfl, ?_⟩
          have sg : ∀ k, 0 ≤ k → k < n → τ (a + 1) k = f k := fun k k1 k2 => by rw [h4 _ _ (by omega) (by omega)]; exact hf k k1 k2
          have hb : bbad f κ := by unfold bbad; omega
          have h9 := bw_bad h2 hb
          have hw := bw_stay (f := f) (k := κ + 1) (by omega) n.toNat (by omega)
          have hfl : bflaw f n.toNat = κ := by unfold bflaw; rw [if_pos (by omega)]; omega
          refine ⟨⟨by rw [yne (by omega) rfl]; omega, fun k k1 k2 => by rw [yne (by omega) rfl]; exact sg k k1 k2, by rw [yeq, hfl], fun z => by omega⟩, lfr_f h4⟩
        · skip
          refine y_iload rfl rfl ?_
          refine y_push rfl ?_
          refine y_icne rfl (fun q51 => ?_) (fun q51 => ?_)
          · skip
            have hl1 := h6.1
            refine y_iload rfl rfl ?_
            refine y_push rfl ?_
            refine y_icne rfl (fun q69 => ?_) (fun q69 => ?_)
            · skip
              refine y_push rfl ?_
              refine y_istore (L' := [some (2, a), some (0, inn), some (0, 0), some (0, (κ : Int)), some (0, (τ (a + 1) (κ : Int))), some (0, 0)]) rfl rfl rfl rfl ?_
              refine y_iload rfl rfl ?_
              refine y_ifeq rfl (fun q79 => ?_) (fun q79 => ?_)
              · skip
                refine y_iload rfl rfl ?_
                refine y_push rfl ?_
                refine y_icne rfl (fun q98 => ?_) (fun q98 => ?_)
                · skip
                  refine y_iinc (L' := [some (2, a), some (0, inn), some (0, 0), some (0, ((κ : Int) + 1)), some (0, (τ (a + 1) (κ : Int))), some (0, 0)]) rfl rfl rfl rfl rfl (by omega) ?_
                  refine y_goto rfl ?_
                  refine y_forget (M := [some (2, a), some (0, inn), some (0, 0), some (0, ((κ : Int) + 1)), none, none]) ⟨Or.inr rfl, ⟨Or.inr rfl, ⟨Or.inr rfl, ⟨Or.inr rfl, ⟨Or.inl rfl, ⟨Or.inl rfl, trivial⟩⟩⟩⟩⟩⟩ ?_
                  have hb : ¬ bbad f κ := by unfold bbad; omega
                  have hw := bw_up h2 hb
                  exact ih τ (κ + 1) inn 0 (by omega) (by omega) (by omega) hw (bl_n (by omega)).symm h4 h5 (linv_n h6 (by omega) (by omega))
                · skip
                  split at hl1
                  · omega
                  have gd3 := gd2 (by omega) (by omega)
                  refine y_aload rfl rfl rfl ?_
                  refine y_gfr (t := (a + 2)) rfl (yN_c ha) (by have := yN_0 ha; omega) rfl (by have := yN_0 ha; omega) ?_
                  refine y_iload rfl rfl ?_
                  refine y_iload rfl rfl ?_
                  refine y_iast (n := 24) rfl (yN_p ha) (by have := yN_0 ha; omega) rfl (by omega) ?_
                  refine y_aload rfl rfl rfl ?_
                  refine y_gfr (t := (a + 2)) rfl (yN_c ha) (by have := yN_0 ha; omega) rfl (by have := yN_0 ha; omega) ?_
                  refine y_iload rfl rfl ?_
                  refine y_iald (v := ((yset τ (a + 2) (κ : Int) inn) (a + 2) inn)) (n := 24) rfl (yN_p ha) (by have := yN_0 ha; omega) rfl (by omega) rfl ?_
                  refine y_istore (L' := [some (2, a), some (0, ((yset τ (a + 2) (κ : Int) inn) (a + 2) inn)), some (0, 0), some (0, (κ : Int)), some (0, (τ (a + 1) (κ : Int))), some (0, 0)]) rfl rfl rfl rfl ?_
                  refine y_aload rfl rfl rfl ?_
                  refine y_gfr (t := (a + 2)) rfl (yN_c ha) (by have := yN_0 ha; omega) rfl (by have := yN_0 ha; omega) ?_
                  refine y_aload rfl rfl rfl ?_
                  refine y_gfr (t := (a + 2)) rfl (yN_c ha) (by have := yN_0 ha; omega) rfl (by have := yN_0 ha; omega) ?_
                  refine y_iload rfl rfl ?_
                  refine y_iald (v := inn) (n := 24) rfl (yN_p ha) (by have := yN_0 ha; omega) rfl (by omega) (yeq _ _ _ _) ?_
                  refine y_iload rfl rfl ?_
                  refine y_iast (n := 24) rfl (yN_p ha) (by have := yN_0 ha; omega) rfl (by omega) ?_
                  refine y_iinc (L' := [some (2, a), some (0, ((yset τ (a + 2) (κ : Int) inn) (a + 2) inn)), some (0, 0), some (0, ((κ : Int) + 1)), some (0, (τ (a + 1) (κ : Int))), some (0, 0)]) rfl rfl rfl rfl rfl (by omega) ?_
                  refine y_goto rfl ?_
                  refine y_forget (M := [some (2, a), some (0, ((yset τ (a + 2) (κ : Int) inn) (a + 2) inn)), some (0, 0), some (0, ((κ : Int) + 1)), none, none]) ⟨Or.inr rfl, ⟨Or.inr rfl, ⟨Or.inr rfl, ⟨Or.inr rfl, ⟨Or.inl rfl, ⟨Or.inl rfl, trivial⟩⟩⟩⟩⟩⟩ ?_
                  have hb : ¬ bbad f κ := by unfold bbad; omega
                  have hw := bw_up h2 hb
                  exact ih _ (κ + 1) _ 0 (by omega) (by omega) (by omega) hw (bl_n (by omega)).symm (lfr_p (lfr_p h4)) (by rw [yne (by omega) rfl, yne (by omega) rfl]; exact h5) (linv_8 h6 (by omega) h2 (by omega))
              · exfalso; omega
            · skip
              refine y_push rfl ?_
              refine y_goto rfl ?_
              refine y_istore (L' := [some (2, a), some (0, inn), some (0, 1), some (0, (κ : Int)), some (0, (τ (a + 1) (κ : Int))), some (0, 0)]) rfl rfl rfl rfl ?_
              refine y_iload rfl rfl ?_
              refine y_ifeq rfl (fun q79 => ?_) (fun q79 => ?_)
              · exfalso; omega
              · skip
                refine y_aload rfl rfl rfl ?_
                refine y_gfr (t := (a + 2)) rfl (yN_c ha) (by have := yN_0 ha; omega) rfl (by have := yN_0 ha; omega) ?_
                refine y_iload rfl rfl ?_
                refine y_iload rfl rfl ?_
                refine y_iast (n := 24) rfl (yN_p ha) (by have := yN_0 ha; omega) rfl (by omega) ?_
                refine y_iload rfl rfl ?_
                refine y_istore (L' := [some (2, a), some (0, (κ : Int)), some (0, 1), some (0, (κ : Int)), some (0, (τ (a + 1) (κ : Int))), some (0, 0)]) rfl rfl rfl rfl ?_
                refine y_goto rfl ?_
                refine y_iinc (L' := [some (2, a), some (0, (κ : Int)), some (0, 1), some (0, ((κ : Int) + 1)), some (0, (τ (a + 1) (κ : Int))), some (0, 0)]) rfl rfl rfl rfl rfl (by omega) ?_
                refine y_goto rfl ?_
                refine y_forget (M := [some (2, a), some (0, (κ : Int)), some (0, 1), some (0, ((κ : Int) + 1)), none, none]) ⟨Or.inr rfl, ⟨Or.inr rfl, ⟨Or.inr rfl, ⟨Or.inr rfl, ⟨Or.inl rfl, ⟨Or.inl rfl, trivial⟩⟩⟩⟩⟩⟩ ?_
                have hb : ¬ bbad f κ := by unfold bbad; omega
                have hw := bw_up h2 hb
                exact ih _ (κ + 1) κ 1 (by omega) (by omega) (by omega) hw (bl_7 (by omega)).symm (lfr_p h4) (by rw [yne (by omega) rfl]; exact h5) (linv_7 h6 (by omega) h2)
          · skip
            have hl1 := h6.1
            refine y_iload rfl rfl ?_
            refine y_push rfl ?_
            refine y_icne rfl (fun q56 => ?_) (fun q56 => ?_)
            · skip
              have hl1 := h6.1
              refine y_iload rfl rfl ?_
              refine y_push rfl ?_
              refine y_icne rfl (fun q69 => ?_) (fun q69 => ?_)
              · skip
                refine y_push rfl ?_
                refine y_istore (L' := [some (2, a), some (0, inn), some (0, 0), some (0, (κ : Int)), some (0, (τ (a + 1) (κ : Int))), some (0, 0)]) rfl rfl rfl rfl ?_
                refine y_iload rfl rfl ?_
                refine y_ifeq rfl (fun q79 => ?_) (fun q79 => ?_)
                · skip
                  refine y_iload rfl rfl ?_
                  refine y_push rfl ?_
                  refine y_icne rfl (fun q98 => ?_) (fun q98 => ?_)
                  · skip
                    refine y_iinc (L' := [some (2, a), some (0, inn), some (0, 0), some (0, ((κ : Int) + 1)), some (0, (τ (a + 1) (κ : Int))), some (0, 0)]) rfl rfl rfl rfl rfl (by omega) ?_
                    refine y_goto rfl ?_
                    refine y_forget (M := [some (2, a), some (0, inn), some (0, 0), some (0, ((κ : Int) + 1)), none, none]) ⟨Or.inr rfl, ⟨Or.inr rfl, ⟨Or.inr rfl, ⟨Or.inr rfl, ⟨Or.inl rfl, ⟨Or.inl rfl, trivial⟩⟩⟩⟩⟩⟩ ?_
                    have hb : ¬ bbad f κ := by unfold bbad; omega
                    have hw := bw_up h2 hb
                    exact ih τ (κ + 1) inn 0 (by omega) (by omega) (by omega) hw (bl_n (by omega)).symm h4 h5 (linv_n h6 (by omega) (by omega))
                  · skip
                    split at hl1
                    · omega
                    have gd3 := gd2 (by omega) (by omega)
                    refine y_aload rfl rfl rfl ?_
                    refine y_gfr (t := (a + 2)) rfl (yN_c ha) (by have := yN_0 ha; omega) rfl (by have := yN_0 ha; omega) ?_
                    refine y_iload rfl rfl ?_
                    refine y_iload rfl rfl ?_
                    refine y_iast (n := 24) rfl (yN_p ha) (by have := yN_0 ha; omega) rfl (by omega) ?_
                    refine y_aload rfl rfl rfl ?_
                    refine y_gfr (t := (a + 2)) rfl (yN_c ha) (by have := yN_0 ha; omega) rfl (by have := yN_0 ha; omega) ?_
                    refine y_iload rfl rfl ?_
                    refine y_iald (v := ((yset τ (a + 2) (κ : Int) inn) (a + 2) inn)) (n := 24) rfl (yN_p ha) (by have := yN_0 ha; omega) rfl (by omega) rfl ?_
                    refine y_istore (L' := [some (2, a), some (0, ((yset τ (a + 2) (κ : Int) inn) (a + 2) inn)), some (0, 0), some (0, (κ : Int)), some (0, (τ (a + 1) (κ : Int))), some (0, 0)]) rfl rfl rfl rfl ?_
                    refine y_aload rfl rfl rfl ?_
                    refine y_gfr (t := (a + 2)) rfl (yN_c ha) (by have := yN_0 ha; omega) rfl (by have := yN_0 ha; omega) ?_
                    refine y_aload rfl rfl rfl ?_
                    refine y_gfr (t := (a + 2)) rfl (yN_c ha) (by have := yN_0 ha; omega) rfl (by have := yN_0 ha; omega) ?_
                    refine y_iload rfl rfl ?_
                    refine y_iald (v := inn) (n := 24) rfl (yN_p ha) (by have := yN_0 ha; omega) rfl (by omega) (yeq _ _ _ _) ?_
                    refine y_iload rfl rfl ?_
                    refine y_iast (n := 24) rfl (yN_p ha) (by have := yN_0 ha; omega) rfl (by omega) ?_
                    refine y_iinc (L' := [some (2, a), some (0, ((yset τ (a + 2) (κ : Int) inn) (a + 2) inn)), some (0, 0), some (0, ((κ : Int) + 1)), some (0, (τ (a + 1) (κ : Int))), some (0, 0)]) rfl rfl rfl rfl rfl (by omega) ?_
                    refine y_goto rfl ?_
                    refine y_forget (M := [some (2, a), some (0, ((yset τ (a + 2) (κ : Int) inn) (a + 2) inn)), some (0, 0), some (0, ((κ : Int) + 1)), none, none]) ⟨Or.inr rfl, ⟨Or.inr rfl, ⟨Or.inr rfl, ⟨Or.inr rfl, ⟨Or.inl rfl, ⟨Or.inl rfl, trivial⟩⟩⟩⟩⟩⟩ ?_
                    have hb : ¬ bbad f κ := by unfold bbad; omega
                    have hw := bw_up h2 hb
                    exact ih _ (κ + 1) _ 0 (by omega) (by omega) (by omega) hw (bl_n (by omega)).symm (lfr_p (lfr_p h4)) (by rw [yne (by omega) rfl, yne (by omega) rfl]; exact h5) (linv_8 h6 (by omega) h2 (by omega))
                · exfalso; omega
              · skip
                refine y_push rfl ?_
                refine y_goto rfl ?_
                refine y_istore (L' := [some (2, a), some (0, inn), some (0, 1), some (0, (κ : Int)), some (0, (τ (a + 1) (κ : Int))), some (0, 0)]) rfl rfl rfl rfl ?_
                refine y_iload rfl rfl ?_
                refine y_ifeq rfl (fun q79 => ?_) (fun q79 => ?_)
                · exfalso; omega
                · skip
                  refine y_aload rfl rfl rfl ?_
                  refine y_gfr (t := (a + 2)) rfl (yN_c ha) (by have := yN_0 ha; omega) rfl (by have := yN_0 ha; omega) ?_
                  refine y_iload rfl rfl ?_
                  refine y_iload rfl rfl ?_
                  refine y_iast (n := 24) rfl (yN_p ha) (by have := yN_0 ha; omega) rfl (by omega) ?_
                  refine y_iload rfl rfl ?_
                  refine y_istore (L' := [some (2, a), some (0, (κ : Int)), some (0, 1), some (0, (κ : Int)), some (0, (τ (a + 1) (κ : Int))), some (0, 0)]) rfl rfl rfl rfl ?_
                  refine y_goto rfl ?_
                  refine y_iinc (L' := [some (2, a), some (0, (κ : Int)), some (0, 1), some (0, ((κ : Int) + 1)), some (0, (τ (a + 1) (κ : Int))), some (0, 0)]) rfl rfl rfl rfl rfl (by omega) ?_
                  refine y_goto rfl ?_
                  refine y_forget (M := [some (2, a), some (0, (κ : Int)), some (0, 1), some (0, ((κ : Int) + 1)), none, none]) ⟨Or.inr rfl, ⟨Or.inr rfl, ⟨Or.inr rfl, ⟨Or.inr rfl, ⟨Or.inl rfl, ⟨Or.inl rfl, trivial⟩⟩⟩⟩⟩⟩ ?_
                  have hb : ¬ bbad f κ := by unfold bbad; omega
                  have hw := bw_up h2 hb
                  exact ih _ (κ + 1) κ 1 (by omega) (by omega) (by omega) hw (bl_7 (by omega)).symm (lfr_p h4) (by rw [yne (by omega) rfl]; exact h5) (linv_7 h6 (by omega) h2)
            · skip
              refine y_aload rfl rfl rfl ?_
              refine y_iload rfl rfl ?_
              refine y_pfi (j := 3) rfl (yN_c ha) (by have := yN_0 ha; omega) rfl rfl rfl rfl rfl ?_
              refine y_ret rfl rfl ⟨rfl, ?_⟩
              have sg : ∀ k, 0 ≤ k → k < n → τ (a + 1) k = f k := fun k k1 k2 => by rw [h4 _ _ (by omega) (by omega)]; exact hf k k1 k2
              have hb : bbad f κ := by unfold bbad; omega
              have h9 := bw_bad h2 hb
              have hw := bw_stay (f := f) (k := κ + 1) (by omega) n.toNat (by omega)
              have hfl : bflaw f n.toNat = κ := by unfold bflaw; rw [if_pos (by omega)]; omega
              refine ⟨⟨by rw [yne (by omega) rfl]; omega, fun k k1 k2 => by rw [yne (by omega) rfl]; exact sg k k1 k2, by rw [yeq, hfl], fun z => by omega⟩, lfr_f h4⟩
      · skip
        refine y_push rfl ?_
        refine y_goto rfl ?_
        refine y_istore (L' := [some (2, a), some (0, inn), some (0, opn), some (0, (κ : Int)), some (0, (τ (a + 1) (κ : Int))), some (0, 1)]) rfl rfl rfl rfl ?_
        refine y_iload rfl rfl ?_
        refine y_iload rfl rfl ?_
        refine y_icne rfl (fun q44 => ?_) (fun q44 => ?_)
        · skip
          refine y_aload rfl rfl rfl ?_
          refine y_iload rfl rfl ?_
          refine y_pfi (j := 3) rfl (yN_c ha) (by have := yN_0 ha; omega) rfl rfl rfl rfl rfl ?_
          refine y_ret rfl rfl ⟨rfl, ?_⟩
          have sg : ∀ k, 0 ≤ k → k < n → τ (a + 1) k = f k := fun k k1 k2 => by rw [h4 _ _ (by omega) (by omega)]; exact hf k k1 k2
          have hb : bbad f κ := by unfold bbad; omega
          have h9 := bw_bad h2 hb
          have hw := bw_stay (f := f) (k := κ + 1) (by omega) n.toNat (by omega)
          have hfl : bflaw f n.toNat = κ := by unfold bflaw; rw [if_pos (by omega)]; omega
          refine ⟨⟨by rw [yne (by omega) rfl]; omega, fun k k1 k2 => by rw [yne (by omega) rfl]; exact sg k k1 k2, by rw [yeq, hfl], fun z => by omega⟩, lfr_f h4⟩
        · skip
          refine y_iload rfl rfl ?_
          refine y_push rfl ?_
          refine y_icne rfl (fun q51 => ?_) (fun q51 => ?_)
          · skip
            have hl1 := h6.1
            refine y_iload rfl rfl ?_
            refine y_push rfl ?_
            refine y_icne rfl (fun q69 => ?_) (fun q69 => ?_)
            · skip
              refine y_push rfl ?_
              refine y_istore (L' := [some (2, a), some (0, inn), some (0, 0), some (0, (κ : Int)), some (0, (τ (a + 1) (κ : Int))), some (0, 1)]) rfl rfl rfl rfl ?_
              refine y_iload rfl rfl ?_
              refine y_ifeq rfl (fun q79 => ?_) (fun q79 => ?_)
              · skip
                refine y_iload rfl rfl ?_
                refine y_push rfl ?_
                refine y_icne rfl (fun q98 => ?_) (fun q98 => ?_)
                · skip
                  refine y_iinc (L' := [some (2, a), some (0, inn), some (0, 0), some (0, ((κ : Int) + 1)), some (0, (τ (a + 1) (κ : Int))), some (0, 1)]) rfl rfl rfl rfl rfl (by omega) ?_
                  refine y_goto rfl ?_
                  refine y_forget (M := [some (2, a), some (0, inn), some (0, 0), some (0, ((κ : Int) + 1)), none, none]) ⟨Or.inr rfl, ⟨Or.inr rfl, ⟨Or.inr rfl, ⟨Or.inr rfl, ⟨Or.inl rfl, ⟨Or.inl rfl, trivial⟩⟩⟩⟩⟩⟩ ?_
                  have hb : ¬ bbad f κ := by unfold bbad; omega
                  have hw := bw_up h2 hb
                  exact ih τ (κ + 1) inn 0 (by omega) (by omega) (by omega) hw (bl_n (by omega)).symm h4 h5 (linv_n h6 (by omega) (by omega))
                · skip
                  split at hl1
                  · omega
                  have gd3 := gd2 (by omega) (by omega)
                  refine y_aload rfl rfl rfl ?_
                  refine y_gfr (t := (a + 2)) rfl (yN_c ha) (by have := yN_0 ha; omega) rfl (by have := yN_0 ha; omega) ?_
                  refine y_iload rfl rfl ?_
                  refine y_iload rfl rfl ?_
                  refine y_iast (n := 24) rfl (yN_p ha) (by have := yN_0 ha; omega) rfl (by omega) ?_
                  refine y_aload rfl rfl rfl ?_
                  refine y_gfr (t := (a + 2)) rfl (yN_c ha) (by have := yN_0 ha; omega) rfl (by have := yN_0 ha; omega) ?_
                  refine y_iload rfl rfl ?_
                  refine y_iald (v := ((yset τ (a + 2) (κ : Int) inn) (a + 2) inn)) (n := 24) rfl (yN_p ha) (by have := yN_0 ha; omega) rfl (by omega) rfl ?_
                  refine y_istore (L' := [some (2, a), some (0, ((yset τ (a + 2) (κ : Int) inn) (a + 2) inn)), some (0, 0), some (0, (κ : Int)), some (0, (τ (a + 1) (κ : Int))), some (0, 1)]) rfl rfl rfl rfl ?_
                  refine y_aload rfl rfl rfl ?_
                  refine y_gfr (t := (a + 2)) rfl (yN_c ha) (by have := yN_0 ha; omega) rfl (by have := yN_0 ha; omega) ?_
                  refine y_aload rfl rfl rfl ?_
                  refine y_gfr (t := (a + 2)) rfl (yN_c ha) (by have := yN_0 ha; omega) rfl (by have := yN_0 ha; omega) ?_
                  refine y_iload rfl rfl ?_
                  refine y_iald (v := inn) (n := 24) rfl (yN_p ha) (by have := yN_0 ha; omega) rfl (by omega) (yeq _ _ _ _) ?_
                  refine y_iload rfl rfl ?_
                  refine y_iast (n := 24) rfl (yN_p ha) (by have := yN_0 ha; omega) rfl (by omega) ?_
                  refine y_iinc (L' := [some (2, a), some (0, ((yset τ (a + 2) (κ : Int) inn) (a + 2) inn)), some (0, 0), some (0, ((κ : Int) + 1)), some (0, (τ (a + 1) (κ : Int))), some (0, 1)]) rfl rfl rfl rfl rfl (by omega) ?_
                  refine y_goto rfl ?_
                  refine y_forget (M := [some (2, a), some (0, ((yset τ (a + 2) (κ : Int) inn) (a + 2) inn)), some (0, 0), some (0, ((κ : Int) + 1)), none, none]) ⟨Or.inr rfl, ⟨Or.inr rfl, ⟨Or.inr rfl, ⟨Or.inr rfl, ⟨Or.inl rfl, ⟨Or.inl rfl, trivial⟩⟩⟩⟩⟩⟩ ?_
                  have hb : ¬ bbad f κ := by unfold bbad; omega
                  have hw := bw_up h2 hb
                  exact ih _ (κ + 1) _ 0 (by omega) (by omega) (by omega) hw (bl_n (by omega)).symm (lfr_p (lfr_p h4)) (by rw [yne (by omega) rfl, yne (by omega) rfl]; exact h5) (linv_8 h6 (by omega) h2 (by omega))
              · exfalso; omega
            · skip
              refine y_push rfl ?_
              refine y_goto rfl ?_
              refine y_istore (L' := [some (2, a), some (0, inn), some (0, 1), some (0, (κ : Int)), some (0, (τ (a + 1) (κ : Int))), some (0, 1)]) rfl rfl rfl rfl ?_
              refine y_iload rfl rfl ?_
              refine y_ifeq rfl (fun q79 => ?_) (fun q79 => ?_)
              · exfalso; omega
              · skip
                refine y_aload rfl rfl rfl ?_
                refine y_gfr (t := (a + 2)) rfl (yN_c ha) (by have := yN_0 ha; omega) rfl (by have := yN_0 ha; omega) ?_
                refine y_iload rfl rfl ?_
                refine y_iload rfl rfl ?_
                refine y_iast (n := 24) rfl (yN_p ha) (by have := yN_0 ha; omega) rfl (by omega) ?_
                refine y_iload rfl rfl ?_
                refine y_istore (L' := [some (2, a), some (0, (κ : Int)), some (0, 1), some (0, (κ : Int)), some (0, (τ (a + 1) (κ : Int))), some (0, 1)]) rfl rfl rfl rfl ?_
                refine y_goto rfl ?_
                refine y_iinc (L' := [some (2, a), some (0, (κ : Int)), some (0, 1), some (0, ((κ : Int) + 1)), some (0, (τ (a + 1) (κ : Int))), some (0, 1)]) rfl rfl rfl rfl rfl (by omega) ?_
                refine y_goto rfl ?_
                refine y_forget (M := [some (2, a), some (0, (κ : Int)), some (0, 1), some (0, ((κ : Int) + 1)), none, none]) ⟨Or.inr rfl, ⟨Or.inr rfl, ⟨Or.inr rfl, ⟨Or.inr rfl, ⟨Or.inl rfl, ⟨Or.inl rfl, trivial⟩⟩⟩⟩⟩⟩ ?_
                have hb : ¬ bbad f κ := by unfold bbad; omega
                have hw := bw_up h2 hb
                exact ih _ (κ + 1) κ 1 (by omega) (by omega) (by omega) hw (bl_7 (by omega)).symm (lfr_p h4) (by rw [yne (by omega) rfl]; exact h5) (linv_7 h6 (by omega) h2)
          · skip
            have hl1 := h6.1
            refine y_iload rfl rfl ?_
            refine y_push rfl ?_
            refine y_icne rfl (fun q56 => ?_) (fun q56 => ?_)
            · skip
              have hl1 := h6.1
              refine y_iload rfl rfl ?_
              refine y_push rfl ?_
              refine y_icne rfl (fun q69 => ?_) (fun q69 => ?_)
              · skip
                refine y_push rfl ?_
                refine y_istore (L' := [some (2, a), some (0, inn), some (0, 0), some (0, (κ : Int)), some (0, (τ (a + 1) (κ : Int))), some (0, 1)]) rfl rfl rfl rfl ?_
                refine y_iload rfl rfl ?_
                refine y_ifeq rfl (fun q79 => ?_) (fun q79 => ?_)
                · skip
                  refine y_iload rfl rfl ?_
                  refine y_push rfl ?_
                  refine y_icne rfl (fun q98 => ?_) (fun q98 => ?_)
                  · skip
                    refine y_iinc (L' := [some (2, a), some (0, inn), some (0, 0), some (0, ((κ : Int) + 1)), some (0, (τ (a + 1) (κ : Int))), some (0, 1)]) rfl rfl rfl rfl rfl (by omega) ?_
                    refine y_goto rfl ?_
                    refine y_forget (M := [some (2, a), some (0, inn), some (0, 0), some (0, ((κ : Int) + 1)), none, none]) ⟨Or.inr rfl, ⟨Or.inr rfl, ⟨Or.inr rfl, ⟨Or.inr rfl, ⟨Or.inl rfl, ⟨Or.inl rfl, trivial⟩⟩⟩⟩⟩⟩ ?_
                    have hb : ¬ bbad f κ := by unfold bbad; omega
                    have hw := bw_up h2 hb
                    exact ih τ (κ + 1) inn 0 (by omega) (by omega) (by omega) hw (bl_n (by omega)).symm h4 h5 (linv_n h6 (by omega) (by omega))
                  · skip
                    split at hl1
                    · omega
                    have gd3 := gd2 (by omega) (by omega)
                    refine y_aload rfl rfl rfl ?_
                    refine y_gfr (t := (a + 2)) rfl (yN_c ha) (by have := yN_0 ha; omega) rfl (by have := yN_0 ha; omega) ?_
                    refine y_iload rfl rfl ?_
                    refine y_iload rfl rfl ?_
                    refine y_iast (n := 24) rfl (yN_p ha) (by have := yN_0 ha; omega) rfl (by omega) ?_
                    refine y_aload rfl rfl rfl ?_
                    refine y_gfr (t := (a + 2)) rfl (yN_c ha) (by have := yN_0 ha; omega) rfl (by have := yN_0 ha; omega) ?_
                    refine y_iload rfl rfl ?_
                    refine y_iald (v := ((yset τ (a + 2) (κ : Int) inn) (a + 2) inn)) (n := 24) rfl (yN_p ha) (by have := yN_0 ha; omega) rfl (by omega) rfl ?_
                    refine y_istore (L' := [some (2, a), some (0, ((yset τ (a + 2) (κ : Int) inn) (a + 2) inn)), some (0, 0), some (0, (κ : Int)), some (0, (τ (a + 1) (κ : Int))), some (0, 1)]) rfl rfl rfl rfl ?_
                    refine y_aload rfl rfl rfl ?_
                    refine y_gfr (t := (a + 2)) rfl (yN_c ha) (by have := yN_0 ha; omega) rfl (by have := yN_0 ha; omega) ?_
                    refine y_aload rfl rfl rfl ?_
                    refine y_gfr (t := (a + 2)) rfl (yN_c ha) (by have := yN_0 ha; omega) rfl (by have := yN_0 ha; omega) ?_
                    refine y_iload rfl rfl ?_
                    refine y_iald (v := inn) (n := 24) rfl (yN_p ha) (by have := yN_0 ha; omega) rfl (by omega) (yeq _ _ _ _) ?_
                    refine y_iload rfl rfl ?_
                    refine y_iast (n := 24) rfl (yN_p ha) (by have := yN_0 ha; omega) rfl (by omega) ?_
                    refine y_iinc (L' := [some (2, a), some (0, ((yset τ (a + 2) (κ : Int) inn) (a + 2) inn)), some (0, 0), some (0, ((κ : Int) + 1)), some (0, (τ (a + 1) (κ : Int))), some (0, 1)]) rfl rfl rfl rfl rfl (by omega) ?_
                    refine y_goto rfl ?_
                    refine y_forget (M := [some (2, a), some (0, ((yset τ (a + 2) (κ : Int) inn) (a + 2) inn)), some (0, 0), some (0, ((κ : Int) + 1)), none, none]) ⟨Or.inr rfl, ⟨Or.inr rfl, ⟨Or.inr rfl, ⟨Or.inr rfl, ⟨Or.inl rfl, ⟨Or.inl rfl, trivial⟩⟩⟩⟩⟩⟩ ?_
                    have hb : ¬ bbad f κ := by unfold bbad; omega
                    have hw := bw_up h2 hb
                    exact ih _ (κ + 1) _ 0 (by omega) (by omega) (by omega) hw (bl_n (by omega)).symm (lfr_p (lfr_p h4)) (by rw [yne (by omega) rfl, yne (by omega) rfl]; exact h5) (linv_8 h6 (by omega) h2 (by omega))
                · exfalso; omega
              · skip
                refine y_push rfl ?_
                refine y_goto rfl ?_
                refine y_istore (L' := [some (2, a), some (0, inn), some (0, 1), some (0, (κ : Int)), some (0, (τ (a + 1) (κ : Int))), some (0, 1)]) rfl rfl rfl rfl ?_
                refine y_iload rfl rfl ?_
                refine y_ifeq rfl (fun q79 => ?_) (fun q79 => ?_)
                · exfalso; omega
                · skip
                  refine y_aload rfl rfl rfl ?_
                  refine y_gfr (t := (a + 2)) rfl (yN_c ha) (by have := yN_0 ha; omega) rfl (by have := yN_0 ha; omega) ?_
                  refine y_iload rfl rfl ?_
                  refine y_iload rfl rfl ?_
                  refine y_iast (n := 24) rfl (yN_p ha) (by have := yN_0 ha; omega) rfl (by omega) ?_
                  refine y_iload rfl rfl ?_
                  refine y_istore (L' := [some (2, a), some (0, (κ : Int)), some (0, 1), some (0, (κ : Int)), some (0, (τ (a + 1) (κ : Int))), some (0, 1)]) rfl rfl rfl rfl ?_
                  refine y_goto rfl ?_
                  refine y_iinc (L' := [some (2, a), some (0, (κ : Int)), some (0, 1), some (0, ((κ : Int) + 1)), some (0, (τ (a + 1) (κ : Int))), some (0, 1)]) rfl rfl rfl rfl rfl (by omega) ?_
                  refine y_goto rfl ?_
                  refine y_forget (M := [some (2, a), some (0, (κ : Int)), some (0, 1), some (0, ((κ : Int) + 1)), none, none]) ⟨Or.inr rfl, ⟨Or.inr rfl, ⟨Or.inr rfl, ⟨Or.inr rfl, ⟨Or.inl rfl, ⟨Or.inl rfl, trivial⟩⟩⟩⟩⟩⟩ ?_
                  have hb : ¬ bbad f κ := by unfold bbad; omega
                  have hw := bw_up h2 hb
                  exact ih _ (κ + 1) κ 1 (by omega) (by omega) (by omega) hw (bl_7 (by omega)).symm (lfr_p h4) (by rw [yne (by omega) rfl]; exact h5) (linv_7 h6 (by omega) h2)
            · skip
              refine y_aload rfl rfl rfl ?_
              refine y_iload rfl rfl ?_
              refine y_pfi (j := 3) rfl (yN_c ha) (by have := yN_0 ha; omega) rfl rfl rfl rfl rfl ?_
              refine y_ret rfl rfl ⟨rfl, ?_⟩
              have sg : ∀ k, 0 ≤ k → k < n → τ (a + 1) k = f k := fun k k1 k2 => by rw [h4 _ _ (by omega) (by omega)]; exact hf k k1 k2
              have hb : bbad f κ := by unfold bbad; omega
              have h9 := bw_bad h2 hb
              have hw := bw_stay (f := f) (k := κ + 1) (by omega) n.toNat (by omega)
              have hfl : bflaw f n.toNat = κ := by unfold bflaw; rw [if_pos (by omega)]; omega
              refine ⟨⟨by rw [yne (by omega) rfl]; omega, fun k k1 k2 => by rw [yne (by omega) rfl]; exact sg k k1 k2, by rw [yeq, hfl], fun z => by omega⟩, lfr_f h4⟩
theorem c_learn {g : Launch × XG × va_G} {σ : YS} {a n : Int} {f : Int → Int} (ha : yN a) (hl : σ a 2 = n) (hn : 0 ≤ n ∧ n ≤ 24) (hf : ∀ k, 0 ≤ k → k < n → σ (a + 1) k = f k) (hg : ∀ k, 0 ≤ k → k < n → 0 ≤ f k ∧ f k ≤ 13) : YU g 138 [(2, a)] σ (fun σ' => lrn σ' a f n ∧ lfr σ σ' a) := by
  refine y_start rfl rfl rfl ?_
  have a0 := yN_0 ha
  refine y_push rfl ?_
  refine y_istore (L' := [some (2, a), some (0, (-1)), none, none, none, none]) rfl rfl rfl rfl ?_
  refine y_push rfl ?_
  refine y_istore (L' := [some (2, a), some (0, (-1)), some (0, 0), none, none, none]) rfl rfl rfl rfl ?_
  refine y_aload rfl rfl rfl ?_
  refine y_push rfl ?_
  refine y_pfi (j := 3) rfl (yN_c ha) (by have := yN_0 ha; omega) rfl rfl rfl rfl rfl ?_
  refine y_push rfl ?_
  refine y_istore (L' := [some (2, a), some (0, (-1)), some (0, 0), some (0, 0), none, none]) rfl rfl rfl rfl ?_
  exact l_learn ha hl hn hf hg (n.toNat + 1) _ 0 (-1) 0 (by omega) (by omega) (by omega) rfl rfl (lfr_f (fun _ _ _ _ => rfl)) (yeq _ _ _ _) linv_0
