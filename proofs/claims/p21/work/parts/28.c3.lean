theorem l_learn {g : Launch × XG × va_G} {σ : YS} {a n : Int} {f : Int → Int} (ha : yN a) (hl : σ a 2 = n) (hn : 0 ≤ n ∧ n ≤ 24) (hf : ∀ k, 0 ≤ k → k < n → σ (a + 1) k = f k) (hg : ∀ k, 0 ≤ k → k < n → 0 ≤ f k ∧ f k ≤ 13) : ∀ (nn : Nat) (τ : YS) (κ : Nat) (inn : Int) (opn : Int), n - κ < (nn : Int) → ((κ : Int) ≤ n) → (0 ≤ n) → (bw f κ = -1) → (opn = bl f κ) → (lfr σ τ a) → (τ a 3 = -1) → (linv τ a f κ inn) → YW g 138 11 [some (2, a), some (0, inn), some (0, opn), some (0, (κ : Int)), none, none] [] τ (fun rv σ' => rv = none ∧ (lrn σ' a f n ∧ lfr σ σ' a)) := by
  intro nn
  induction nn with
  | zero =>
    intro τ κ inn opn hn h0 h1 h2 h3 h4 h5 h6
    exfalso
    omega
  | succ nn ih =>
    intro τ κ inn opn hn h0 h1 h2 h3 h4 h5 h6
    have a0 := yN_0 ha
    have h9 : τ a 2 = n := by rw [h4 _ _ (by omega) (by omega)]; exact hl
    refine y_iload rfl rfl ?_
    refine y_aload rfl rfl rfl ?_
    refine y_gfi (v := (τ a 2)) rfl (yN_c ha) (by have := yN_0 ha; omega) rfl (by decide) rfl rfl ?_
    refine y_icge rfl (fun q16 => ?_) (fun q16 => ?_)
    · skip
      refine y_iload rfl rfl ?_
      refine y_push rfl ?_
      refine y_iceq rfl (fun q135 => ?_) (fun q135 => ?_)
      · skip
        refine y_ret rfl rfl ⟨rfl, ?_⟩
        have sg : ∀ k, 0 ≤ k → k < n → τ (a + 1) k = f k := fun k k1 k2 => by rw [h4 _ _ (by omega) (by omega)]; exact hf k k1 k2
        have hK : κ = n.toNat := by omega
        subst hK
        have ⟨l1, l2, l3⟩ := h6
        have hb0 : bo f n.toNat = 0 := by rcases (by omega : bo f n.toNat = 0 ∨ bo f n.toNat ≠ 0) with y | y; exact y; rw [if_neg y] at l1; have := (bgood f _ h2).2.1 (bo f n.toNat - 1) (by have := (bgood f _ h2).1.1; omega) (by omega); omega
        have hfl : bflaw f n.toNat = -1 := by unfold bflaw; rw [if_neg (by omega), if_neg (by omega)]
        exact ⟨⟨h9, sg, by rw [hfl]; exact h5, fun _ k k1 k2 k3 => l2 k ⟨k1, by omega, k3, fun d d1 d2 => by omega⟩⟩, h4⟩
      · skip
        refine y_aload rfl rfl rfl ?_
        refine y_aload rfl rfl rfl ?_
        refine y_gfi (v := (τ a 2)) rfl (yN_c ha) (by have := yN_0 ha; omega) rfl (by decide) rfl rfl ?_
        refine y_pfi (j := 3) rfl (yN_c ha) (by have := yN_0 ha; omega) rfl rfl rfl rfl rfl ?_
        refine y_ret rfl rfl ⟨rfl, ?_⟩
        have sg : ∀ k, 0 ≤ k → k < n → τ (a + 1) k = f k := fun k k1 k2 => by rw [h4 _ _ (by omega) (by omega)]; exact hf k k1 k2
        have hK : κ = n.toNat := by omega
        subst hK
        have ⟨l1, l2, l3⟩ := h6
        have hfl : bflaw f n.toNat = n := by unfold bflaw; rw [if_neg (by omega), if_pos (by have := (bgood f _ h2).1.1; split at l1 <;> omega)]; omega
        refine ⟨⟨by rw [yne (by omega) rfl]; omega, fun k k1 k2 => by rw [yne (by omega) rfl]; exact sg k k1 k2, by rw [yeq, hfl]; omega, fun z => by omega⟩, lfr_f h4⟩
    · skip
      have w1 : τ (a + 1) κ = f κ := by rw [h4 _ _ (by omega) (by omega)]; exact hf _ (by omega) (by omega)
      have hgk := hg κ (by omega) (by omega)
      have hbl := bl_01 f κ
      have gd := bgood f κ h2
      have gd2 := gd.2.1 (bo f κ - 1)
      refine y_aload rfl rfl rfl ?_
      refine y_gfr (t := (a + 1)) rfl (yN_c ha) (by have := yN_0 ha; omega) rfl (by have := yN_0 ha; omega) ?_
      refine y_iload rfl rfl ?_
      refine y_iald (v := (τ (a + 1) (κ : Int))) (n := 24) rfl (yN_s ha) (by have := yN_0 ha; omega) rfl (by omega) rfl ?_
      refine y_istore (L' := [some (2, a), some (0, inn), some (0, opn), some (0, (κ : Int)), some (0, (τ (a + 1) (κ : Int))), none]) rfl rfl rfl rfl ?_
      refine y_iload rfl rfl ?_
      refine y_push rfl ?_
      refine y_iclt rfl (fun q31 => ?_) (fun q31 => ?_)
      · skip
        refine y_push rfl ?_
        refine y_istore (L' := [some (2, a), some (0, inn), some (0, opn), some (0, (κ : Int)), some (0, (τ (a + 1) (κ : Int))), some (0, 0)]) rfl rfl rfl rfl ?_
        refine y_iload rfl rfl ?_
        refine y_iload rfl rfl ?_
        refine y_icne rfl (fun q44 => ?_) (fun q44 => ?_)
        · skip
          refine y_aload rfl rfl rfl ?_
          refine y_iload rfl rfl ?_
          refine y_pfi (j := 3) rfl (yN_c ha) (by have := yN_0 ha; omega) rfl rfl rfl rfl rfl ?_
          refine y_ret rfl rfl ⟨rfl, ?_⟩
          have sg : ∀ k, 0 ≤ k → k < n → τ (a + 1) k = f k := fun k k1 k2 => by rw [h4 _ _ (by omega) (by omega)]; exact hf k k1 k2
          have hb : bbad f κ := by unfold bbad; omega
          have h9 := bw_bad h2 hb
          have hw := bw_stay (f := f) (k := κ + 1) (by omega) n.toNat (by omega)
          have hfl : bflaw f n.toNat = κ := by unfold bflaw; rw [if_pos (by omega)]; omega
          refine ⟨⟨by rw [yne (by omega) rfl]; omega, fun k k1 k2 => by rw [yne (by omega) rfl]; exact sg k k1 k2, by rw [yeq, hfl], fun z => by omega⟩, lfr_f h4⟩
        · skip
          refine y_iload rfl rfl ?_
          refine y_push rfl ?_
          refine y_icne rfl (fun q51 => ?_) (fun q51 => ?_)
          · skip
            have hl1 := h6.1
            refine y_iload rfl rfl ?_
            refine y_push rfl ?_
            refine y_icne rfl (fun q69 => ?_) (fun q69 => ?_)
            · skip
              refine y_push rfl ?_
              refine y_istore (L' := [some (2, a), some (0, inn), some (0, 0), some (0, (κ : Int)), some (0, (τ (a + 1) (κ : Int))), some (0, 0)]) rfl rfl rfl rfl ?_
              refine y_iload rfl rfl ?_
              refine y_ifeq rfl (fun q79 => ?_) (fun q79 => ?_)
              · skip
                refine y_iload rfl rfl ?_
                refine y_push rfl ?_
                refine y_icne rfl (fun q98 => ?_) (fun q98 => ?_)
                · skip
                  refine y_iinc (L' := [some (2, a), some (0, inn), some (0, 0), some (0, ((κ : Int) + 1)), some (0, (τ (a + 1) (κ : Int))), some (0, 0)]) rfl rfl rfl rfl rfl (by omega) ?_
                  refine y_goto rfl ?_
                  refine y_forget (M := [some (2, a), some (0, inn), some (0, 0), some (0, ((κ : Int) + 1)), none, none]) ⟨Or.inr rfl, ⟨Or.inr rfl, ⟨Or.inr rfl, ⟨Or.inr rfl, ⟨Or.inl rfl, ⟨Or.inl rfl, trivial⟩⟩⟩⟩⟩⟩ ?_
                  have hb : ¬ bbad f κ := by unfold bbad; omega
                  have hw := bw_up h2 hb
                  exact ih τ (κ + 1) inn 0 (by omega) (by omega) (by omega) hw (bl_n (by omega)).symm h4 h5 (linv_n h6 (by omega) (by omega))
                · skip
                  split at hl1
                  · omega
                  have gd3 := gd2 (by omega) (by omega)
                  refine y_aload rfl rfl rfl ?_
                  refine y_gfr (t := (a + 2)) rfl (yN_c ha) (by have := yN_0 ha; omega) rfl (by have := yN_0 ha; omega) ?_
                  refine y_iload rfl rfl ?_
                  refine y_iload rfl rfl ?_
                  refine y_iast (n := 24) rfl (yN_p ha) (by have := yN_0 ha; omega) rfl (by omega) ?_
                  refine y_aload rfl rfl rfl ?_
                  refine y_gfr (t := (a + 2)) rfl (yN_c ha) (by have := yN_0 ha; omega) rfl (by have := yN_0 ha; omega) ?_
                  refine y_iload rfl rfl ?_
                  refine y_iald (v := ((yset τ (a + 2) (κ : Int) inn) (a + 2) inn)) (n := 24) rfl (yN_p ha) (by have := yN_0 ha; omega) rfl (by omega) rfl ?_
                  refine y_istore (L' := [some (2, a), some (0, ((yset τ (a + 2) (κ : Int) inn) (a + 2) inn)), some (0, 0), some (0, (κ : Int)), some (0, (τ (a + 1) (κ : Int))), some (0, 0)]) rfl rfl rfl rfl ?_
                  refine y_aload rfl rfl rfl ?_
                  refine y_gfr (t := (a + 2)) rfl (yN_c ha) (by have := yN_0 ha; omega) rfl (by have := yN_0 ha; omega) ?_
                  refine y_aload rfl rfl rfl ?_
                  refine y_gfr (t := (a + 2)) rfl (yN_c ha) (by have := yN_0 ha; omega) rfl (by have := yN_0 ha; omega) ?_
                  refine y_iload rfl rfl ?_
                  refine y_iald (v := inn) (n := 24) rfl (yN_p ha) (by have := yN_0 ha; omega) rfl (by omega) (yeq _ _ _ _) ?_
                  refine y_iload rfl rfl ?_
                  refine y_iast (n := 24) rfl (yN_p ha) (by have := yN_0 ha; omega) rfl (by omega) ?_
                  refine y_iinc (L' := [some (2, a), some (0, ((yset τ (a + 2) (κ : Int) inn) (a + 2) inn)), some (0, 0), some (0, ((κ : Int) + 1)), some (0, (τ (a + 1) (κ : Int))), some (0, 0)]) rfl rfl rfl rfl rfl (by omega) ?_
                  refine y_goto rfl ?_
                  refine y_forget (M := [some (2, a), some (0, ((yset τ (a + 2) (κ : Int) inn) (a + 2) inn)), some (0, 0), some (0, ((κ : Int) + 1)), none, none]) ⟨Or.inr rfl, ⟨Or.inr rfl, ⟨Or.inr rfl, ⟨Or.inr rfl, ⟨Or.inl rfl, ⟨Or.inl rfl, trivial⟩⟩⟩⟩⟩⟩ ?_
                  have hb : ¬ bbad f κ := by unfold bbad; omega
                  have hw := bw_up h2 hb
                  exact ih _ (κ + 1) _ 0 (by omega) (by omega) (by omega) hw (bl_n (by omega)).symm (lfr_p (lfr_p h4)) (by rw [yne (by omega) rfl, yne (by omega) rfl]; exact h5) (linv_8 h6 (by omega) h2 (by omega))
              · exfalso; omega
            · skip
              refine y_push rfl ?_
              refine y_goto rfl ?_
              refine y_istore (L' := [some (2, a), some (0, inn), some (0, 1), some (0, (κ : Int)), some (0, (τ (a + 1) (κ : Int))), some (0, 0)]) rfl rfl rfl rfl ?_
              refine y_iload rfl rfl ?_
              refine y_ifeq rfl (fun q79 => ?_) (fun q79 => ?_)
              · exfalso; omega
              · skip
                refine y_aload rfl rfl rfl ?_
                refine y_gfr (t := (a + 2)) rfl (yN_c ha) (by have := yN_0 ha; omega) rfl (by have := yN_0 ha; omega) ?_
                refine y_iload rfl rfl ?_
                refine y_iload rfl rfl ?_
                refine y_iast (n := 24) rfl (yN_p ha) (by have := yN_0 ha; omega) rfl (by omega) ?_
                refine y_iload rfl rfl ?_
                refine y_istore (L' := [some (2, a), some (0, (κ : Int)), some (0, 1), some (0, (κ : Int)), some (0, (τ (a + 1) (κ : Int))), some (0, 0)]) rfl rfl rfl rfl ?_
                refine y_goto rfl ?_
                refine y_iinc (L' := [some (2, a), some (0, (κ : Int)), some (0, 1), some (0, ((κ : Int) + 1)), some (0, (τ (a + 1) (κ : Int))), some (0, 0)]) rfl rfl rfl rfl rfl (by omega) ?_
                refine y_goto rfl ?_
                refine y_forget (M := [some (2, a), some (0, (κ : Int)), some (0, 1), some (0, ((κ : Int) + 1)), none, none]) ⟨Or.inr rfl, ⟨Or.inr rfl, ⟨Or.inr rfl, ⟨Or.inr rfl, ⟨Or.inl rfl, ⟨Or.inl rfl, trivial⟩⟩⟩⟩⟩⟩ ?_
                have hb : ¬ bbad f κ := by unfold bbad; omega
                have hw := bw_up h2 hb
                exact ih _ (κ + 1) κ 1 (by omega) (by omega) (by omega) hw (bl_7 (by omega)).symm (lfr_p h4) (by rw [yne (by omega) rfl]; exact h5) (linv_7 h6 (by omega) h2)
          · skip
            have hl1 := h6.1
            refine y_iload rfl rfl ?_
            refine y_push rfl ?_
            refine y_icne rfl (fun q56 => ?_) (fun q56 => ?_)
            · skip
              have hl1 := h6.1
              refine y_iload rfl rfl ?_
              refine y_push rfl ?_
              refine y_icne rfl (fun q69 => ?_) (fun q69 => ?_)
              · skip
                refine y_push rfl ?_
                refine y_istore (L' := [some (2, a), some (0, inn), some (0, 0), some (0, (κ : Int)), some (0, (τ (a + 1) (κ : Int))), some (0, 0)]) rfl rfl rfl rfl ?_
                refine y_iload rfl rfl ?_
                refine y_ifeq rfl (fun q79 => ?_) (fun q79 => ?_)
                · skip
                  refine y_iload rfl rfl ?_
                  refine y_push rfl ?_
                  refine y_icne rfl (fun q98 => ?_) (fun q98 => ?_)
                  · skip
                    refine y_iinc (L' := [some (2, a), some (0, inn), some (0, 0), some (0, ((κ : Int) + 1)), some (0, (τ (a + 1) (κ : Int))), some (0, 0)]) rfl rfl rfl rfl rfl (by omega) ?_
                    refine y_goto rfl ?_
                    refine y_forget (M := [some (2, a), some (0, inn), some (0, 0), some (0, ((κ : Int) + 1)), none, none]) ⟨Or.inr rfl, ⟨Or.inr rfl, ⟨Or.inr rfl, ⟨Or.inr rfl, ⟨Or.inl rfl, ⟨Or.inl rfl, trivial⟩⟩⟩⟩⟩⟩ ?_
                    have hb : ¬ bbad f κ := by unfold bbad; omega
                    have hw := bw_up h2 hb
                    exact ih τ (κ + 1) inn 0 (by omega) (by omega) (by omega) hw (bl_n (by omega)).symm h4 h5 (linv_n h6 (by omega) (by omega))
                  · skip
                    split at hl1
                    · omega
                    have gd3 := gd2 (by omega) (by omega)
                    refine y_aload rfl rfl rfl ?_
                    refine y_gfr (t := (a + 2)) rfl (yN_c ha) (by have := yN_0 ha; omega) rfl (by have := yN_0 ha; omega) ?_
                    refine y_iload rfl rfl ?_
                    refine y_iload rfl rfl ?_
                    refine y_iast (n := 24) rfl (yN_p ha) (by have := yN_0 ha; omega) rfl (by omega) ?_
                    refine y_aload rfl rfl rfl ?_
                    refine y_gfr (t := (a + 2)) rfl (yN_c ha) (by have := yN_0 ha; omega) rfl (by have := yN_0 ha; omega) ?_
                    refine y_iload rfl rfl ?_
                    refine y_iald (v := ((yset τ (a + 2) (κ : Int) inn) (a + 2) inn)) (n := 24) rfl (yN_p ha) (by have := yN_0 ha; omega) rfl (by omega) rfl ?_
                    refine y_istore (L' := [some (2, a), some (0, ((yset τ (a + 2) (κ : Int) inn) (a + 2) inn)), some (0, 0), some (0, (κ : Int)), some (0, (τ (a + 1) (κ : Int))), some (0, 0)]) rfl rfl rfl rfl ?_
                    refine y_aload rfl rfl rfl ?_
                    refine y_gfr (t := (a + 2)) rfl (yN_c ha) (by have := yN_0 ha; omega) rfl (by have := yN_0 ha; omega) ?_
                    refine y_aload rfl rfl rfl ?_
                    refine y_gfr (t := (a + 2)) rfl (yN_c ha) (by have := yN_0 ha; omega) rfl (by have := yN_0 ha; omega) ?_
                    refine y_iload rfl rfl ?_
                    refine y_iald (v := inn) (n := 24) rfl (yN_p ha) (by have := yN_0 ha; omega) rfl (by omega) (yeq _ _ _ _) ?_
                    refine y_iload rfl rfl ?_
                    refine y_iast (n := 24) rfl (yN_p ha) (by have := yN_0 ha; omega) rfl (by omega) ?_
                    refine y_iinc (L' := [some (2, a), some (0, ((yset τ (a + 2) (κ : Int) inn) (a + 2) inn)), some (0, 0), some (0, ((κ : Int) + 1)), some (0, (τ (a + 1) (κ : Int))), some (0, 0)]) rfl rfl rfl rfl rfl (by omega) ?_
                    refine y_goto rfl ?_
                    refine y_forget (M := [some (2, a), some (0, ((yset τ (a + 2) (κ : Int) inn) (a + 2) inn)), some (0, 0), some (0, ((κ : Int) + 1)), none, none]) ⟨Or.inr rfl, ⟨Or.inr rfl, ⟨Or.inr rfl, ⟨Or.inr rfl, ⟨Or.inl rfl, ⟨Or.inl rfl, trivial⟩⟩⟩⟩⟩⟩ ?_
                    have hb : ¬ bbad f κ := by unfold bbad; omega
                    have hw := bw_up h2 hb
                    exact ih _ (κ + 1) _ 0 (by omega) (by omega) (by omega) hw (bl_n (by omega)).symm (lfr_p (lfr_p h4)) (by rw [yne (by omega) rfl, yne (by omega) rfl]; exact h5) (linv_8 h6 (by omega) h2 (by omega))
                · exfalso; omega
              · skip
                refine y_push rfl ?_
                refine y_goto rfl ?_
                refine y_istore (L' := [some (2, a), some (0, inn), some (0, 1), some (0, (κ : Int)), some (0, (τ (a + 1) (κ : Int))), some (0, 0)]) rfl rfl rfl rfl ?_
                refine y_iload rfl rfl ?_
                refine y_ifeq rfl (fun q79 => ?_) (fun q79 => ?_)
                · exfalso; omega
                · skip
                  refine y_aload rfl rfl rfl ?_
                  refine y_gfr (t := (a + 2)) rfl (yN_c ha) (by have := yN_0 ha; omega) rfl (by have := yN_0 ha; omega) ?_
                  refine y_iload rfl rfl ?_
                  refine y_iload rfl rfl ?_
                  refine y_iast (n := 24) rfl (yN_p ha) (by have := yN_0 ha; omega) rfl (by omega) ?_
                  refine y_iload rfl rfl ?_
                  refine y_istore (L' := [some (2, a), some (0, (κ : Int)), some (0, 1), some (0, (κ : Int)), some (0, (τ (a + 1) (κ : Int))), some (0, 0)]) rfl rfl rfl rfl ?_
                  refine y_goto rfl ?_
                  refine y_iinc (L' := [some (2, a), some (0, (κ : Int)), some (0, 1), some (0, ((κ : Int) + 1)), some (0, (τ (a + 1) (κ : Int))), some (0, 0)]) rfl rfl rfl rfl rfl (by omega) ?_
                  refine y_goto rfl ?_
                  refine y_forget (M := [some (2, a), some (0, (κ : Int)), some (0, 1), some (0, ((κ : Int) + 1)), none, none]) ⟨Or.inr rfl, ⟨Or.inr rfl, ⟨Or.inr rfl, ⟨Or.inr rfl, ⟨Or.inl rfl, ⟨Or.inl rfl, trivial⟩⟩⟩⟩⟩⟩ ?_
                  have hb : ¬ bbad f κ := by unfold bbad; omega
                  have hw := bw_up h2 hb
                  exact ih _ (κ + 1) κ 1 (by omega) (by omega) (by omega) hw (bl_7 (by omega)).symm (lfr_p h4) (by rw [yne (by omega) rfl]; exact h5) (linv_7 h6 (by omega) h2)
            · skip
              refine y_aload rfl rfl rfl ?_
              refine y_iload rfl rfl ?_
              refine y_pfi (j := 3) rfl (yN_c ha) (by have := yN_0 ha; omega) rfl rfl rfl rfl rfl ?_
              refine y_ret rfl rfl ⟨rfl, ?_⟩
              have sg : ∀ k, 0 ≤ k → k < n → τ (a + 1) k = f k := fun k k1 k2 => by rw [h4 _ _ (by omega) (by omega)]; exact hf k k1 k2
              have hb : bbad f κ := by unfold bbad; omega
              have h9 := bw_bad h2 hb
              have hw := bw_stay (f := f) (k := κ + 1) (by omega) n.toNat (by omega)
              have hfl : bflaw f n.toNat = κ := by unfold bflaw; rw [if_pos (by omega)]; omega
              refine ⟨⟨by rw [yne (by omega) rfl]; omega, fun k k1 k2 => by rw [yne (by omega) rfl]; exact sg k k1 k2, by rw [yeq, hfl], fun z => by omega⟩, lfr_f h4⟩
      · skip
        refine y_push rfl ?_
        refine y_goto rfl ?_
        refine y_istore (L' := [some (2, a), some (0, inn), some (0, opn), some (0, (κ : Int)), some (0, (τ (a + 1) (κ : Int))), some (0, 1)]) rfl rfl rfl rfl ?_
        refine y_iload rfl rfl ?_
        refine y_iload rfl rfl ?_
        refine y_icne rfl (fun q44 => ?_) (fun q44 => ?_)
        · skip
          refine y_aload rfl rfl rfl ?_
          refine y_iload rfl rfl ?_
          refine y_pfi (j := 3) rfl (yN_c ha) (by have := yN_0 ha; omega) rfl rfl rfl rfl rfl ?_
          refine y_ret rfl rfl ⟨rfl, ?_⟩
          have sg : ∀ k, 0 ≤ k → k < n → τ (a + 1) k = f k := fun k k1 k2 => by rw [h4 _ _ (by omega) (by omega)]; exact hf k k1 k2
          have hb : bbad f κ := by unfold bbad; omega
          have h9 := bw_bad h2 hb
          have hw := bw_stay (f := f) (k := κ + 1) (by omega) n.toNat (by omega)
          have hfl : bflaw f n.toNat = κ := by unfold bflaw; rw [if_pos (by omega)]; omega
          refine ⟨⟨by rw [yne (by omega) rfl]; omega, fun k k1 k2 => by rw [yne (by omega) rfl]; exact sg k k1 k2, by rw [yeq, hfl], fun z => by omega⟩, lfr_f h4⟩
        · skip
          refine y_iload rfl rfl ?_
          refine y_push rfl ?_
          refine y_icne rfl (fun q51 => ?_) (fun q51 => ?_)
          · skip
            have hl1 := h6.1
            refine y_iload rfl rfl ?_
            refine y_push rfl ?_
            refine y_icne rfl (fun q69 => ?_) (fun q69 => ?_)
            · skip
              refine y_push rfl ?_
              refine y_istore (L' := [some (2, a), some (0, inn), some (0, 0), some (0, (κ : Int)), some (0, (τ (a + 1) (κ : Int))), some (0, 1)]) rfl rfl rfl rfl ?_
              refine y_iload rfl rfl ?_
              refine y_ifeq rfl (fun q79 => ?_) (fun q79 => ?_)
              · skip
                refine y_iload rfl rfl ?_
                refine y_push rfl ?_
                refine y_icne rfl (fun q98 => ?_) (fun q98 => ?_)
                · skip
                  refine y_iinc (L' := [some (2, a), some (0, inn), some (0, 0), some (0, ((κ : Int) + 1)), some (0, (τ (a + 1) (κ : Int))), some (0, 1)]) rfl rfl rfl rfl rfl (by omega) ?_
                  refine y_goto rfl ?_
                  refine y_forget (M := [some (2, a), some (0, inn), some (0, 0), some (0, ((κ : Int) + 1)), none, none]) ⟨Or.inr rfl, ⟨Or.inr rfl, ⟨Or.inr rfl, ⟨Or.inr rfl, ⟨Or.inl rfl, ⟨Or.inl rfl, trivial⟩⟩⟩⟩⟩⟩ ?_
                  have hb : ¬ bbad f κ := by unfold bbad; omega
                  have hw := bw_up h2 hb
                  exact ih τ (κ + 1) inn 0 (by omega) (by omega) (by omega) hw (bl_n (by omega)).symm h4 h5 (linv_n h6 (by omega) (by omega))
                · skip
                  split at hl1
                  · omega
                  have gd3 := gd2 (by omega) (by omega)
                  refine y_aload rfl rfl rfl ?_
                  refine y_gfr (t := (a + 2)) rfl (yN_c ha) (by have := yN_0 ha; omega) rfl (by have := yN_0 ha; omega) ?_
                  refine y_iload rfl rfl ?_
                  refine y_iload rfl rfl ?_
                  refine y_iast (n := 24) rfl (yN_p ha) (by have := yN_0 ha; omega) rfl (by omega) ?_
                  refine y_aload rfl rfl rfl ?_
                  refine y_gfr (t := (a + 2)) rfl (yN_c ha) (by have := yN_0 ha; omega) rfl (by have := yN_0 ha; omega) ?_
                  refine y_iload rfl rfl ?_
                  refine y_iald (v := ((yset τ (a + 2) (κ : Int) inn) (a + 2) inn)) (n := 24) rfl (yN_p ha) (by have := yN_0 ha; omega) rfl (by omega) rfl ?_
                  refine y_istore (L' := [some (2, a), some (0, ((yset τ (a + 2) (κ : Int) inn) (a + 2) inn)), some (0, 0), some (0, (κ : Int)), some (0, (τ (a + 1) (κ : Int))), some (0, 1)]) rfl rfl rfl rfl ?_
                  refine y_aload rfl rfl rfl ?_
                  refine y_gfr (t := (a + 2)) rfl (yN_c ha) (by have := yN_0 ha; omega) rfl (by have := yN_0 ha; omega) ?_
                  refine y_aload rfl rfl rfl ?_
                  refine y_gfr (t := (a + 2)) rfl (yN_c ha) (by have := yN_0 ha; omega) rfl (by have := yN_0 ha; omega) ?_
                  refine y_iload rfl rfl ?_
                  refine y_iald (v := inn) (n := 24) rfl (yN_p ha) (by have := yN_0 ha; omega) rfl (by omega) (yeq _ _ _ _) ?_
                  refine y_iload rfl rfl ?_
                  refine y_iast (n := 24) rfl (yN_p ha) (by have := yN_0 ha; omega) rfl (by omega) ?_
                  refine y_iinc (L' := [some (2, a), some (0, ((yset τ (a + 2) (κ : Int) inn) (a + 2) inn)), some (0, 0), some (0, ((κ : Int) + 1)), some (0, (τ (a + 1) (κ : Int))), some (0, 1)]) rfl rfl rfl rfl rfl (by omega) ?_
                  refine y_goto rfl ?_
                  refine y_forget (M := [some (2, a), some (0, ((yset τ (a + 2) (κ : Int) inn) (a + 2) inn)), some (0, 0), some (0, ((κ : Int) + 1)), none, none]) ⟨Or.inr rfl, ⟨Or.inr rfl, ⟨Or.inr rfl, ⟨Or.inr rfl, ⟨Or.inl rfl, ⟨Or.inl rfl, trivial⟩⟩⟩⟩⟩⟩ ?_
                  have hb : ¬ bbad f κ := by unfold bbad; omega
                  have hw := bw_up h2 hb
                  exact ih _ (κ + 1) _ 0 (by omega) (by omega) (by omega) hw (bl_n (by omega)).symm (lfr_p (lfr_p h4)) (by rw [yne (by omega) rfl, yne (by omega) rfl]; exact h5) (linv_8 h6 (by omega) h2 (by omega))
              · exfalso; omega
            · skip
              refine y_push rfl ?_
              refine y_goto rfl ?_
              refine y_istore (L' := [some (2, a), some (0, inn), some (0, 1), some (0, (κ : Int)), some (0, (τ (a + 1) (κ : Int))), some (0, 1)]) rfl rfl rfl rfl ?_
              refine y_iload rfl rfl ?_
              refine y_ifeq rfl (fun q79 => ?_) (fun q79 => ?_)
              · exfalso; omega
              · skip
                refine y_aload rfl rfl rfl ?_
                refine y_gfr (t := (a + 2)) rfl (yN_c ha) (by have := yN_0 ha; omega) rfl (by have := yN_0 ha; omega) ?_
                refine y_iload rfl rfl ?_
                refine y_iload rfl rfl ?_
                refine y_iast (n := 24) rfl (yN_p ha) (by have := yN_0 ha; omega) rfl (by omega) ?_
                refine y_iload rfl rfl ?_
                refine y_istore (L' := [some (2, a), some (0, (κ : Int)), some (0, 1), some (0, (κ : Int)), some (0, (τ (a + 1) (κ : Int))), some (0, 1)]) rfl rfl rfl rfl ?_
                refine y_goto rfl ?_
                refine y_iinc (L' := [some (2, a), some (0, (κ : Int)), some (0, 1), some (0, ((κ : Int) + 1)), some (0, (τ (a + 1) (κ : Int))), some (0, 1)]) rfl rfl rfl rfl rfl (by omega) ?_
                refine y_goto rfl ?_
                refine y_forget (M := [some (2, a), some (0, (κ : Int)), some (0, 1), some (0, ((κ : Int) + 1)), none, none]) ⟨Or.inr rfl, ⟨Or.inr rfl, ⟨Or.inr rfl, ⟨Or.inr rfl, ⟨Or.inl rfl, ⟨Or.inl rfl, trivial⟩⟩⟩⟩⟩⟩ ?_
                have hb : ¬ bbad f κ := by unfold bbad; omega
                have hw := bw_up h2 hb
                exact ih _ (κ + 1) κ 1 (by omega) (by omega) (by omega) hw (bl_7 (by omega)).symm (lfr_p h4) (by rw [yne (by omega) rfl]; exact h5) (linv_7 h6 (by omega) h2)
          · skip
            have hl1 := h6.1
            refine y_iload rfl rfl ?_
            refine y_push rfl ?_
            refine y_icne rfl (fun q56 => ?_) (fun q56 => ?_)
            · skip
              have hl1 := h6.1
              refine y_iload rfl rfl ?_
              refine y_push rfl ?_
              refine y_icne rfl (fun q69 => ?_) (fun q69 => ?_)
              · skip
                refine y_push rfl ?_
                refine y_istore (L' := [some (2, a), some (0, inn), some (0, 0), some (0, (κ : Int)), some (0, (τ (a + 1) (κ : Int))), some (0, 1)]) rfl rfl rfl rfl ?_
                refine y_iload rfl rfl ?_
                refine y_ifeq rfl (fun q79 => ?_) (fun q79 => ?_)
                · skip
                  refine y_iload rfl rfl ?_
                  refine y_push rfl ?_
                  refine y_icne rfl (fun q98 => ?_) (fun q98 => ?_)
                  · skip
                    refine y_iinc (L' := [some (2, a), some (0, inn), some (0, 0), some (0, ((κ : Int) + 1)), some (0, (τ (a + 1) (κ : Int))), some (0, 1)]) rfl rfl rfl rfl rfl (by omega) ?_
                    refine y_goto rfl ?_
                    refine y_forget (M := [some (2, a), some (0, inn), some (0, 0), some (0, ((κ : Int) + 1)), none, none]) ⟨Or.inr rfl, ⟨Or.inr rfl, ⟨Or.inr rfl, ⟨Or.inr rfl, ⟨Or.inl rfl, ⟨Or.inl rfl, trivial⟩⟩⟩⟩⟩⟩ ?_
                    have hb : ¬ bbad f κ := by unfold bbad; omega
                    have hw := bw_up h2 hb
                    exact ih τ (κ + 1) inn 0 (by omega) (by omega) (by omega) hw (bl_n (by omega)).symm h4 h5 (linv_n h6 (by omega) (by omega))
                  · skip
                    split at hl1
                    · omega
                    have gd3 := gd2 (by omega) (by omega)
                    refine y_aload rfl rfl rfl ?_
                    refine y_gfr (t := (a + 2)) rfl (yN_c ha) (by have := yN_0 ha; omega) rfl (by have := yN_0 ha; omega) ?_
                    refine y_iload rfl rfl ?_
                    refine y_iload rfl rfl ?_
                    refine y_iast (n := 24) rfl (yN_p ha) (by have := yN_0 ha; omega) rfl (by omega) ?_
                    refine y_aload rfl rfl rfl ?_
                    refine y_gfr (t := (a + 2)) rfl (yN_c ha) (by have := yN_0 ha; omega) rfl (by have := yN_0 ha; omega) ?_
                    refine y_iload rfl rfl ?_
                    refine y_iald (v := ((yset τ (a + 2) (κ : Int) inn) (a + 2) inn)) (n := 24) rfl (yN_p ha) (by have := yN_0 ha; omega) rfl (by omega) rfl ?_
                    refine y_istore (L' := [some (2, a), some (0, ((yset τ (a + 2) (κ : Int) inn) (a + 2) inn)), some (0, 0), some (0, (κ : Int)), some (0, (τ (a + 1) (κ : Int))), some (0, 1)]) rfl rfl rfl rfl ?_
                    refine y_aload rfl rfl rfl ?_
                    refine y_gfr (t := (a + 2)) rfl (yN_c ha) (by have := yN_0 ha; omega) rfl (by have := yN_0 ha; omega) ?_
                    refine y_aload rfl rfl rfl ?_
                    refine y_gfr (t := (a + 2)) rfl (yN_c ha) (by have := yN_0 ha; omega) rfl (by have := yN_0 ha; omega) ?_
                    refine y_iload rfl rfl ?_
                    refine y_iald (v := inn) (n := 24) rfl (yN_p ha) (by have := yN_0 ha; omega) rfl (by omega) (yeq _ _ _ _) ?_
                    refine y_iload rfl rfl ?_
                    refine y_iast (n := 24) rfl (yN_p ha) (by have := yN_0 ha; omega) rfl (by omega) ?_
                    refine y_iinc (L' := [some (2, a), some (0, ((yset τ (a + 2) (κ : Int) inn) (a + 2) inn)), some (0, 0), some (0, ((κ : Int) + 1)), some (0, (τ (a + 1) (κ : Int))), some (0, 1)]) rfl rfl rfl rfl rfl (by omega) ?_
                    refine y_goto rfl ?_
                    refine y_forget (M := [some (2, a), some (0, ((yset τ (a + 2) (κ : Int) inn) (a + 2) inn)), some (0, 0), some (0, ((κ : Int) + 1)), none, none]) ⟨Or.inr rfl, ⟨Or.inr rfl, ⟨Or.inr rfl, ⟨Or.inr rfl, ⟨Or.inl rfl, ⟨Or.inl rfl, trivial⟩⟩⟩⟩⟩⟩ ?_
                    have hb : ¬ bbad f κ := by unfold bbad; omega
                    have hw := bw_up h2 hb
                    exact ih _ (κ + 1) _ 0 (by omega) (by omega) (by omega) hw (bl_n (by omega)).symm (lfr_p (lfr_p h4)) (by rw [yne (by omega) rfl, yne (by omega) rfl]; exact h5) (linv_8 h6 (by omega) h2 (by omega))
                · exfalso; omega
              · skip
                refine y_push rfl ?_
                refine y_goto rfl ?_
                refine y_istore (L' := [some (2, a), some (0, inn), some (0, 1), some (0, (κ : Int)), some (0, (τ (a + 1) (κ : Int))), some (0, 1)]) rfl rfl rfl rfl ?_
                refine y_iload rfl rfl ?_
                refine y_ifeq rfl (fun q79 => ?_) (fun q79 => ?_)
                · exfalso; omega
                · skip
                  refine y_aload rfl rfl rfl ?_
                  refine y_gfr (t := (a + 2)) rfl (yN_c ha) (by have := yN_0 ha; omega) rfl (by have := yN_0 ha; omega) ?_
                  refine y_iload rfl rfl ?_
                  refine y_iload rfl rfl ?_
                  refine y_iast (n := 24) rfl (yN_p ha) (by have := yN_0 ha; omega) rfl (by omega) ?_
                  refine y_iload rfl rfl ?_
                  refine y_istore (L' := [some (2, a), some (0, (κ : Int)), some (0, 1), some (0, (κ : Int)), some (0, (τ (a + 1) (κ : Int))), some (0, 1)]) rfl rfl rfl rfl ?_
                  refine y_goto rfl ?_
                  refine y_iinc (L' := [some (2, a), some (0, (κ : Int)), some (0, 1), some (0, ((κ : Int) + 1)), some (0, (τ (a + 1) (κ : Int))), some (0, 1)]) rfl rfl rfl rfl rfl (by omega) ?_
                  refine y_goto rfl ?_
                  refine y_forget (M := [some (2, a), some (0, (κ : Int)), some (0, 1), some (0, ((κ : Int) + 1)), none, none]) ⟨Or.inr rfl, ⟨Or.inr rfl, ⟨Or.inr rfl, ⟨Or.inr rfl, ⟨Or.inl rfl, ⟨Or.inl rfl, trivial⟩⟩⟩⟩⟩⟩ ?_
                  have hb : ¬ bbad f κ := by unfold bbad; omega
                  have hw := bw_up h2 hb
                  exact ih _ (κ + 1) κ 1 (by omega) (by omega) (by omega) hw (bl_7 (by omega)).symm (lfr_p h4) (by rw [yne (by omega) rfl]; exact h5) (linv_7 h6 (by omega) h2)
            · skip
              refine y_aload rfl rfl rfl ?_
              refine y_iload rfl rfl ?_
              refine y_pfi (j := 3) rfl (yN_c ha) (by have := yN_0 ha; omega) rfl rfl rfl rfl rfl ?_
              refine y_ret rfl rfl ⟨rfl, ?_⟩
              have sg : ∀ k, 0 ≤ k → k < n → τ (a + 1) k = f k := fun k k1 k2 => by rw [h4 _ _ (by omega) (by omega)]; exact hf k k1 k2
              have hb : bbad f κ := by unfold bbad; omega
              have h9 := bw_bad h2 hb
              have hw := bw_stay (f := f) (k := κ + 1) (by omega) n.toNat (by omega)
              have hfl : bflaw f n.toNat = κ := by unfold bflaw; rw [if_pos (by omega)]; omega
              refine ⟨⟨by rw [yne (by omega) rfl]; omega, fun k k1 k2 => by rw [yne (by omega) rfl]; exact sg k k1 k2, by rw [yeq, hfl], fun z => by omega⟩, lfr_f h4⟩
theorem c_learn {g : Launch × XG × va_G} {σ : YS} {a n : Int} {f : Int → Int} (ha : yN a) (hl : σ a 2 = n) (hn : 0 ≤ n ∧ n ≤ 24) (hf : ∀ k, 0 ≤ k → k < n → σ (a + 1) k = f k) (hg : ∀ k, 0 ≤ k → k < n → 0 ≤ f k ∧ f k ≤ 13) : YU g 138 [(2, a)] σ (fun σ' => lrn σ' a f n ∧ lfr σ σ' a) := by
  refine y_start rfl rfl rfl ?_
  have a0 := yN_0 ha
  refine y_push rfl ?_
  refine y_istore (L' := [some (2, a), some (0, (-1)), none, none, none, none]) rfl rfl rfl rfl ?_
  refine y_push rfl ?_
  refine y_istore (L' := [some (2, a), some (0, (-1)), some (0, 0), none, none, none]) rfl rfl rfl rfl ?_
  refine y_aload rfl rfl rfl ?_
  refine y_push rfl ?_
  refine y_pfi (j := 3) rfl (yN_c ha) (by have := yN_0 ha; omega) rfl rfl rfl rfl rfl ?_
  refine y_push rfl ?_
  refine y_istore (L' := [some (2, a), some (0, (-1)), some (0, 0), some (0, 0), none, none]) rfl rfl rfl rfl ?_
  exact l_learn ha hl hn hf hg (n.toNat + 1) _ 0 (-1) 0 (by omega) (by omega) (by omega) rfl rfl (lfr_f (fun _ _ _ _ => rfl)) (yeq _ _ _ _) linv_0
theorem rep_beg {σ τ : YS} {s n : Int} {E D : YS} (h7 : E 6 0 = 7) (hw : σ s 7 = D 6 0) (hf : τ s 4 = n ∧ τ s 5 = 0 ∧ τ s 6 = 0 ∧ τ s 7 = σ s 7) (h1 : ∀ c, 0 ≤ c → c < 9 → τ (s + 1) c = 0) (h2 : ∀ c, 0 ≤ c → c < 4 → τ (s + 12) c = 0) : rep τ s (begE E n) (begD D) := by
  have e0 : begE E n 0 0 = n := by unfold begE; rw [if_neg (by omega), yne (by omega) rfl, yeq]
  have e1 : begE E n 1 0 = 0 := by unfold begE; rw [if_neg (by omega), yeq]
  have e6 : begE E n 6 0 = 7 := by unfold begE; rw [if_neg (by omega), yne (by omega) rfl, yne (by omega) rfl]; exact h7
  unfold rep
  rw [e0, e1, e6]
  refine ⟨⟨hf.1, hf.2.1, by unfold begD; rw [if_pos (by omega)]; exact hf.2.2.1, by unfold begD; rw [if_neg (by omega), ← hw]; exact hf.2.2.2⟩, fun c a b => by unfold begD; rw [if_pos (by omega)]; exact h1 c a b, fun i a b => by omega, rfl, fun j a b => by unfold begE; rw [if_pos rfl]; exact h2 j a b⟩
theorem l_begin2 {g : Launch × XG × va_G} {σ : YS} {s n : Int} {E D : YS} (hs : yS s) (h7 : E 6 0 = 7) (hw : σ s 7 = D 6 0) : ∀ (nn : Nat) (τ : YS) (i : Int), 4 - i < (nn : Int) → (0 ≤ i ∧ i ≤ 4) → (2 ≤ n ∧ n ≤ 9) → (τ s 4 = n ∧ τ s 5 = 0 ∧ τ s 6 = 0 ∧ τ s 7 = σ s 7) → (∀ c, 0 ≤ c → c < 9 → τ (s + 1) c = 0) → (∀ c, 0 ≤ c → c < i → τ (s + 12) c = 0) → (yfr σ τ s (s + 12)) → YW g 7 52 [some (2, s), some (0, n), some (0, i)] [] τ (fun rv σ' => ∃ b, rv = some (0, b) ∧ (((2 ≤ n ∧ n ≤ 9) ∧ n = b ∧ rep σ' s (begE E n) (begD D) ∧ yfr σ σ' s (s + 12)) ∨ (¬ (2 ≤ n ∧ n ≤ 9) ∧ b = -2 ∧ σ = σ'))) := by
  intro nn
  induction nn with
  | zero =>
    intro τ i hn h0 h1 h2 h3 h4 h5
    exfalso
    omega
  | succ nn ih =>
    intro τ i hn h0 h1 h2 h3 h4 h5
    have s0 := yS_0 hs
    refine y_iload rfl rfl ?_
    refine y_push rfl ?_
    refine y_icge rfl (fun q54 => ?_) (fun q54 => ?_)
    · skip
      refine y_iload rfl rfl ?_
      refine y_iret rfl rfl ⟨_, rfl, ?_⟩
      exact Or.inl ⟨h1, rfl, rep_beg h7 hw h2 h3 (fun c a b => h4 c a (by omega)), h5⟩
    · skip
      refine y_aload rfl rfl rfl ?_
      refine y_gfr (t := (s + 12)) rfl (yS_c hs) (yS_0 hs).1 rfl (by have := yS_0 hs; omega) ?_
      refine y_iload rfl rfl ?_
      refine y_push rfl ?_
      refine y_iast (n := 4) rfl (yS_e hs) (by have := yS_0 hs; omega) rfl (by omega) ?_
      refine y_iinc (L' := [some (2, s), some (0, n), some (0, (i + 1))]) rfl rfl rfl rfl rfl (by omega) ?_
      refine y_goto rfl ?_
      refine ih _ (i + 1) (by omega) (by omega) h1 (by refine ⟨?_, ?_, ?_, ?_⟩ <;> rw [yne (by omega) rfl] <;> omega) (fun c a b => by rw [yne (by omega) rfl]; exact h3 c a b) (fun c a b => ?_) (yfr_set h5 (by omega))
      by_cases e : c = i
      · subst e; rw [yeq]
      · rw [yne (by omega) rfl]; exact h4 c a (by omega)
theorem l_begin1 {g : Launch × XG × va_G} {σ : YS} {s n : Int} {E D : YS} (hs : yS s) (h7 : E 6 0 = 7) (hw : σ s 7 = D 6 0) : ∀ (nn : Nat) (τ : YS) (i : Int), 9 - i < (nn : Int) → (0 ≤ i ∧ i ≤ 9) → (2 ≤ n ∧ n ≤ 9) → (τ s 4 = n ∧ τ s 5 = 0 ∧ τ s 6 = 0 ∧ τ s 7 = σ s 7) → (∀ c, 0 ≤ c → c < i → τ (s + 1) c = 0) → (yfr σ τ s (s + 12)) → YW g 7 31 [some (2, s), some (0, n), some (0, i)] [] τ (fun rv σ' => ∃ b, rv = some (0, b) ∧ (((2 ≤ n ∧ n ≤ 9) ∧ n = b ∧ rep σ' s (begE E n) (begD D) ∧ yfr σ σ' s (s + 12)) ∨ (¬ (2 ≤ n ∧ n ≤ 9) ∧ b = -2 ∧ σ = σ'))) := by
  intro nn
  induction nn with
  | zero =>
    intro τ i hn h0 h1 h2 h3 h4
    exfalso
    omega
  | succ nn ih =>
    intro τ i hn h0 h1 h2 h3 h4
    have s0 := yS_0 hs
    refine y_iload rfl rfl ?_
    refine y_push rfl ?_
    refine y_icge rfl (fun q34 => ?_) (fun q34 => ?_)
    · skip
      refine y_push rfl ?_
      refine y_istore (L' := [some (2, s), some (0, n), some (0, 0)]) rfl rfl rfl rfl ?_
      exact l_begin2 hs h7 hw 5 τ 0 (by omega) (by omega) h1 h2 (fun c a b => h3 c a (by omega)) (fun c a b => by omega) h4
    · skip
      refine y_aload rfl rfl rfl ?_
      refine y_gfr (t := (s + 1)) rfl (yS_c hs) (yS_0 hs).1 rfl (by have := yS_0 hs; omega) ?_
      refine y_iload rfl rfl ?_
      refine y_push rfl ?_
      refine y_iast (n := 9) rfl (yS_w hs) (by have := yS_0 hs; omega) rfl (by omega) ?_
      refine y_iinc (L' := [some (2, s), some (0, n), some (0, (i + 1))]) rfl rfl rfl rfl rfl (by omega) ?_
      refine y_goto rfl ?_
      refine ih _ (i + 1) (by omega) (by omega) h1 (by refine ⟨?_, ?_, ?_, ?_⟩ <;> rw [yne (by omega) rfl] <;> omega) (fun c a b => ?_) (yfr_set h4 (by omega))
      by_cases e : c = i
      · subst e; rw [yeq]
      · rw [yne (by omega) rfl]; exact h3 c a (by omega)
theorem c_begin {g : Launch × XG × va_G} {σ : YS} {s n : Int} {E D : YS} (hs : yS s) (h7 : E 6 0 = 7) (hw : σ s 7 = D 6 0) : YI g 7 [(2, s), (0, n)] σ (fun b σ' => ((2 ≤ n ∧ n ≤ 9) ∧ n = b ∧ rep σ' s (begE E n) (begD D) ∧ yfr σ σ' s (s + 12)) ∨ (¬ (2 ≤ n ∧ n ≤ 9) ∧ b = -2 ∧ σ = σ')) := by
  refine y_start rfl rfl rfl ?_
  have s0 := yS_0 hs
  refine y_iload rfl rfl ?_
  refine y_push rfl ?_
  refine y_iclt rfl (fun q2 => ?_) (fun q2 => ?_)
  · skip
    refine y_push rfl ?_
    refine y_iret rfl rfl ⟨_, rfl, ?_⟩
    exact Or.inr ⟨by omega, rfl, rfl⟩
  · skip
    refine y_iload rfl rfl ?_
    refine y_push rfl ?_
    refine y_icle rfl (fun q8 => ?_) (fun q8 => ?_)
    · skip
      refine y_aload rfl rfl rfl ?_
      refine y_iload rfl rfl ?_
      refine y_pfi (j := 4) rfl (yS_c hs) (yS_0 hs).1 rfl rfl rfl rfl rfl ?_
      refine y_aload rfl rfl rfl ?_
      refine y_push rfl ?_
      refine y_pfi (j := 5) rfl (yS_c hs) (yS_0 hs).1 rfl rfl rfl rfl rfl ?_
      refine y_aload rfl rfl rfl ?_
      refine y_push rfl ?_
      refine y_pfi (j := 6) rfl (yS_c hs) (yS_0 hs).1 rfl rfl rfl rfl rfl ?_
      refine y_push rfl ?_
      refine y_istore (L' := [some (2, s), some (0, n), some (0, 0)]) rfl rfl rfl rfl ?_
      exact l_begin1 hs h7 hw 10 (yset (yset (yset σ s 4 n) s 5 0) s 6 0) 0 (by omega) (by omega) (by omega) (by refine ⟨?_, ?_, ?_, ?_⟩ <;> simp [yset]) (fun c a b => by omega) (yfr_set (yfr_set (yfr_set (yfr_refl _ _ _) (by omega)) (by omega)) (by omega))
    · skip
      refine y_push rfl ?_
      refine y_iret rfl rfl ⟨_, rfl, ?_⟩
      exact Or.inr ⟨by omega, rfl, rfl⟩
theorem c_pour {g : Launch × XG × va_G} {σ : YS} {s c v : Int} {E D : YS} (hs : yS s) (hr : rep σ s E D) (he : eG E) (hd : dG E D) : YI g 14 [(2, s), (0, c), (0, v)] σ (fun b σ' => ((0 ≤ c ∧ c < E 0 0) ∧ (0 ≤ v ∧ v ≤ 20) ∧ b = D 0 c ∧ rep σ' s E (yset D 0 c v) ∧ yfr σ σ' s (s + 12)) ∨ (¬ ((0 ≤ c ∧ c < E 0 0) ∧ (0 ≤ v ∧ v ≤ 20)) ∧ b = -2 ∧ σ = σ')) := by
  refine y_start rfl rfl rfl ?_
  have ⟨⟨f1, f2, f3, f4⟩, f5, f6, g7, g8⟩ := hr
  have f7 := mth_7 g7
  have ⟨e1, e2, e3⟩ := he
  have s0 := yS_0 hs
  refine y_aload rfl rfl rfl ?_
  refine y_iload rfl rfl ?_
  refine y_vi (as := [(2, s), (0, c)]) (S := []) rfl rfl rfl rfl rfl rfl (yS_0 hs).1 (yS_c hs) (c_hasCell hs) ?_
  rintro _ _ ⟨rfl, rfl⟩
  refine y_ifeq rfl (fun q5 => ?_) (fun q5 => ?_)
  · skip
    replace q5 := yb_0.mp q5
    refine y_push rfl ?_
    refine y_iret rfl rfl ⟨_, rfl, ?_⟩
    exact Or.inr ⟨by omega, rfl, rfl⟩
  · skip
    replace q5 := yb_1.mp q5
    refine y_iload rfl rfl ?_
    refine y_iflt rfl (fun q9 => ?_) (fun q9 => ?_)
    · skip
      refine y_push rfl ?_
      refine y_iret rfl rfl ⟨_, rfl, ?_⟩
      exact Or.inr ⟨by omega, rfl, rfl⟩
    · skip
      refine y_iload rfl rfl ?_
      refine y_push rfl ?_
      refine y_icle rfl (fun q15 => ?_) (fun q15 => ?_)
      · skip
        refine y_aload rfl rfl rfl ?_
        refine y_gfr (t := (s + 1)) rfl (yS_c hs) (yS_0 hs).1 rfl (by have := yS_0 hs; omega) ?_
        refine y_iload rfl rfl ?_
        refine y_iald (v := (σ (s + 1) c)) (n := 9) rfl (yS_w hs) (by have := yS_0 hs; omega) rfl (by omega) rfl ?_
        refine y_istore (L' := [some (2, s), some (0, c), some (0, v), some (0, (σ (s + 1) c))]) rfl rfl rfl rfl ?_
        refine y_aload rfl rfl rfl ?_
        refine y_gfr (t := (s + 1)) rfl (yS_c hs) (yS_0 hs).1 rfl (by have := yS_0 hs; omega) ?_
        refine y_iload rfl rfl ?_
        refine y_iload rfl rfl ?_
        refine y_iast (n := 9) rfl (yS_w hs) (by have := yS_0 hs; omega) rfl (by omega) ?_
        refine y_iload rfl rfl ?_
        refine y_iret rfl rfl ⟨_, rfl, ?_⟩
        exact Or.inl ⟨by omega, by omega, f5 c (by omega) (by omega), rep_w hr (by omega), yfr_set (yfr_refl _ _ _) (by omega)⟩
      · skip
        refine y_push rfl ?_
        refine y_iret rfl rfl ⟨_, rfl, ?_⟩
        exact Or.inr ⟨by omega, rfl, rfl⟩
theorem rep_ent {σ τ : YS} {s k c : Int} {E D : YS} (hm : 0 ≤ E 1 0 ∧ E 1 0 < 3) (hr : rep σ s E D) (h0 : τ s 4 = σ s 4 ∧ τ s 5 = σ s 5 + 1 ∧ τ s 6 = σ s 6 ∧ τ s 7 = σ s 7) (h1 : ∀ x y, (s < x ∧ x < s + 3 + 3 * E 1 0) ∨ (s + 3 + 3 * E 1 0 < x ∧ x ≤ s + 12) → τ x y = σ x y)
    (h2 : τ (s + 3 + 3 * E 1 0) 2 = 0 ∧ τ (s + 3 + 3 * E 1 0) 3 = -1 ∧ τ (s + 3 + 3 * E 1 0) 4 = k ∧ τ (s + 3 + 3 * E 1 0) 5 = c ∧ τ (s + 3 + 3 * E 1 0) 6 = 0 ∧ τ (s + 3 + 3 * E 1 0) 7 = 0 ∧ τ (s + 3 + 3 * E 1 0) 8 = 0) : rep τ s (entE E k) (entD E D c) := by
  obtain ⟨⟨f1, f2, f3, f4⟩, f5, f6, f7, f8⟩ := hr
  have me := entE_m (E := E) (k := k)
  obtain ⟨m1, m2, m3, m4⟩ := entD_m (E := E) (D := D) (c := c)
  unfold rep
  rw [entE_1, entE_g (by omega), entE_g (r := 6) (by omega), entD_o (r := 5) (by omega), entD_o (r := 6) (by omega)]
  refine ⟨⟨by omega, by omega, by omega, by omega⟩, fun d a b => by rw [entD_o (by omega), h1 _ _ (by omega)]; exact f5 d a b, fun i a b => ?_, f7, fun j a b => by rw [entE_g (by omega), h1 _ _ (by omega)]; exact f8 j a b⟩
  by_cases e : i = E 1 0
  · subst e
    unfold repm
    have z : mlen (entE E k) (E 1 0) = 0 := by show (entE E k 3 (E 1 0)).toNat = 0; rw [me.2]; rfl
    rw [me.1, me.2, m1, m2, m3, m4]
    refine ⟨⟨h2.1, fun k a b => by omega, h2.2.1, fun _ k a b => by omega⟩, h2.2.2.1, ⟨h2.2.2.2.1, h2.2.2.2.2.1, h2.2.2.2.2.2.1⟩, ?_, Or.inl h2.2.2.2.2.2.2⟩
    unfold mst
    omega
  · exact repm_cong (repm_E (f6 i a (by omega)) (entE_o e).1 (entE_o e).2 (fun k _ _ => entE_g (by omega)) (fun r _ _ => entD_o (Or.inl e))) (fun x y hx hy => h1 x y (by omega))
theorem c_enter {g : Launch × XG × va_G} {σ : YS} {s k c : Int} {E D : YS} (hs : yS s) (hr : rep σ s E D) (he : eG E) (hd : dG E D) : YI g 21 [(2, s), (0, k), (0, c)] σ (fun b σ' => ((0 ≤ k ∧ k < 6) ∧ (0 ≤ c ∧ c < E 0 0) ∧ E 1 0 < 3 ∧ b = E 1 0 ∧ rep σ' s (entE E k) (entD E D c) ∧ yfr σ σ' s (s + 12)) ∨ (¬ ((0 ≤ k ∧ k < 6) ∧ (0 ≤ c ∧ c < E 0 0)) ∧ b = -2 ∧ σ = σ') ∨ (((0 ≤ k ∧ k < 6) ∧ (0 ≤ c ∧ c < E 0 0)) ∧ E 1 0 = 3 ∧ b = -4 ∧ σ = σ')) := by
  refine y_start rfl rfl rfl ?_
  have ⟨⟨f1, f2, f3, f4⟩, f5, f6, g7, g8⟩ := hr
  have f7 := mth_7 g7
  have ⟨e1, e2, e3⟩ := he
  have s0 := yS_0 hs
  refine y_iload rfl rfl ?_
  refine y_iflt rfl (fun q1 => ?_) (fun q1 => ?_)
  · skip
    refine y_push rfl ?_
    refine y_iret rfl rfl ⟨_, rfl, ?_⟩
    exact Or.inr (Or.inl ⟨by omega, rfl, rfl⟩)
  · skip
    refine y_iload rfl rfl ?_
    refine y_push rfl ?_
    refine y_icge rfl (fun q7 => ?_) (fun q7 => ?_)
    · skip
      refine y_push rfl ?_
      refine y_iret rfl rfl ⟨_, rfl, ?_⟩
      exact Or.inr (Or.inl ⟨by omega, rfl, rfl⟩)
    · skip
      refine y_aload rfl rfl rfl ?_
      refine y_iload rfl rfl ?_
      refine y_vi (as := [(2, s), (0, c)]) (S := []) rfl rfl rfl rfl rfl rfl (yS_0 hs).1 (yS_c hs) (c_hasCell hs) ?_
      rintro _ _ ⟨rfl, rfl⟩
      refine y_ifne rfl (fun q15 => ?_) (fun q15 => ?_)
      · skip
        replace q15 := yb_1.mp q15
        refine y_aload rfl rfl rfl ?_
        refine y_gfi (v := (σ s 5)) rfl (yS_c hs) (yS_0 hs).1 rfl (by decide) rfl rfl ?_
        refine y_push rfl ?_
        refine y_iclt rfl (fun q26 => ?_) (fun q26 => ?_)
        · skip
          refine y_aload rfl rfl rfl ?_
          refine y_gfr (t := (s + 2)) rfl (yS_c hs) (yS_0 hs).1 rfl (by have := yS_0 hs; omega) ?_
          refine y_aload rfl rfl rfl ?_
          refine y_gfi (v := (σ s 5)) rfl (yS_c hs) (yS_0 hs).1 rfl (by decide) rfl rfl ?_
          refine y_aald (v := ((s + 3) + 3 * (σ s 5))) (n := 3) rfl (yS_m hs) (by have := yS_0 hs; omega) rfl (by omega) rfl ?_
          refine y_astore (L' := [some (2, s), some (0, k), some (0, c), some (2, ((s + 3) + 3 * (σ s 5)))]) rfl rfl rfl rfl rfl ?_
          refine y_aload rfl rfl rfl ?_
          refine y_iload rfl rfl ?_
          refine y_pfi (j := 4) rfl (yN_c (yS_n (s := s) (i := (σ s 5)) hs (by omega))) (by have := yN_0 (yS_n (s := s) (i := (σ s 5)) hs (by omega)); omega) rfl rfl rfl rfl rfl ?_
          refine y_aload rfl rfl rfl ?_
          refine y_iload rfl rfl ?_
          refine y_pfi (j := 5) rfl (yN_c (yS_n (s := s) (i := (σ s 5)) hs (by omega))) (by have := yN_0 (yS_n (s := s) (i := (σ s 5)) hs (by omega)); omega) rfl rfl rfl rfl rfl ?_
          refine y_aload rfl rfl rfl ?_
          refine y_push rfl ?_
          refine y_pfi (j := 6) rfl (yN_c (yS_n (s := s) (i := (σ s 5)) hs (by omega))) (by have := yN_0 (yS_n (s := s) (i := (σ s 5)) hs (by omega)); omega) rfl rfl rfl rfl rfl ?_
          refine y_aload rfl rfl rfl ?_
          refine y_push rfl ?_
          refine y_pfi (j := 7) rfl (yN_c (yS_n (s := s) (i := (σ s 5)) hs (by omega))) (by have := yN_0 (yS_n (s := s) (i := (σ s 5)) hs (by omega)); omega) rfl rfl rfl rfl rfl ?_
          refine y_aload rfl rfl rfl ?_
          refine y_push rfl ?_
          refine y_pfz (j := 8) rfl (yN_c (yS_n (s := s) (i := (σ s 5)) hs (by omega))) (by have := yN_0 (yS_n (s := s) (i := (σ s 5)) hs (by omega)); omega) rfl rfl rfl rfl rfl (by decide) ?_
          refine y_aload rfl rfl rfl ?_
          refine y_push rfl ?_
          refine y_pfi (j := 2) rfl (yN_c (yS_n (s := s) (i := (σ s 5)) hs (by omega))) (by have := yN_0 (yS_n (s := s) (i := (σ s 5)) hs (by omega)); omega) rfl rfl rfl rfl rfl ?_
          refine y_aload rfl rfl rfl ?_
          refine y_push rfl ?_
          refine y_pfi (j := 3) rfl (yN_c (yS_n (s := s) (i := (σ s 5)) hs (by omega))) (by have := yN_0 (yS_n (s := s) (i := (σ s 5)) hs (by omega)); omega) rfl rfl rfl rfl rfl ?_
          refine y_aload rfl rfl rfl ?_
          refine y_dup rfl rfl ?_
          refine y_gfi (v := (σ s 5)) rfl (yS_c hs) (yS_0 hs).1 rfl (by decide) rfl (yne (by omega) (yne (by omega) (yne (by omega) (yne (by omega) (yne (by omega) (yne (by omega) (yne (by omega) rfl))))))) ?_
          refine y_push rfl ?_
          refine y_iadd (v := ((σ s 5) + 1)) rfl rfl (by omega) ?_
          refine y_pfi (j := 5) rfl (yS_c hs) (yS_0 hs).1 rfl rfl rfl rfl rfl ?_
          refine y_aload rfl rfl rfl ?_
          refine y_gfi (v := ((σ s 5) + 1)) rfl (yS_c hs) (yS_0 hs).1 rfl (by decide) rfl (yeq _ _ _ _) ?_
          refine y_push rfl ?_
          refine y_isub (v := (((σ s 5) + 1) - 1)) rfl rfl (by omega) ?_
          refine y_iret rfl rfl ⟨_, rfl, ?_⟩
          have hb : σ s 5 + 1 - 1 = E 1 0 := by omega
          refine Or.inl ⟨by omega, by omega, by omega, hb, rep_ent ⟨by omega, by omega⟩ hr ?_ ?_ ?_, (yfr_set (yfr_set (yfr_set (yfr_set (yfr_set (yfr_set (yfr_set (yfr_set (yfr_refl _ _ _) (by omega)) (by omega)) (by omega)) (by omega)) (by omega)) (by omega)) (by omega)) (by omega))⟩
          · rw [f2]; refine ⟨?_, ?_, ?_, ?_⟩
            · rw [yne (by omega) rfl, yne (by omega) rfl, yne (by omega) rfl, yne (by omega) rfl, yne (by omega) rfl, yne (by omega) rfl, yne (by omega) rfl, yne (by omega) rfl]
            · rw [yeq]
            · rw [yne (by omega) rfl, yne (by omega) rfl, yne (by omega) rfl, yne (by omega) rfl, yne (by omega) rfl, yne (by omega) rfl, yne (by omega) rfl, yne (by omega) rfl]
            · rw [yne (by omega) rfl, yne (by omega) rfl, yne (by omega) rfl, yne (by omega) rfl, yne (by omega) rfl, yne (by omega) rfl, yne (by omega) rfl, yne (by omega) rfl]
          · intro x y hx; rw [f2, yne (by omega) rfl, yne (by omega) rfl, yne (by omega) rfl, yne (by omega) rfl, yne (by omega) rfl, yne (by omega) rfl, yne (by omega) rfl, yne (by omega) rfl]
          · rw [f2]; refine ⟨?_, ?_, ?_, ?_, ?_, ?_, ?_⟩
            · rw [yne (by omega) rfl, yne (by omega) rfl, yeq]
            · rw [yne (by omega) rfl, yeq]
            · rw [yne (by omega) rfl, yne (by omega) rfl, yne (by omega) rfl, yne (by omega) rfl, yne (by omega) rfl, yne (by omega) rfl, yne (by omega) rfl, yeq]
            · rw [yne (by omega) rfl, yne (by omega) rfl, yne (by omega) rfl, yne (by omega) rfl, yne (by omega) rfl, yne (by omega) rfl, yeq]
            · rw [yne (by omega) rfl, yne (by omega) rfl, yne (by omega) rfl, yne (by omega) rfl, yne (by omega) rfl, yeq]
            · rw [yne (by omega) rfl, yne (by omega) rfl, yne (by omega) rfl, yne (by omega) rfl, yeq]
            · rw [yne (by omega) rfl, yne (by omega) rfl, yne (by omega) rfl, yeq]
        · skip
          refine y_push rfl ?_
          refine y_iret rfl rfl ⟨_, rfl, ?_⟩
          exact Or.inr (Or.inr ⟨by omega, by omega, rfl, rfl⟩)
      · skip
        replace q15 := yb_0.mp q15
        refine y_push rfl ?_
        refine y_iret rfl rfl ⟨_, rfl, ?_⟩
        exact Or.inr (Or.inl ⟨by omega, rfl, rfl⟩)
theorem c_empty {g : Launch × XG × va_G} {σ : YS} {s m : Int} {E D : YS} (hs : yS s) (hr : rep σ s E D) (he : eG E) (hd : dG E D) : YI g 31 [(2, s), (0, m)] σ (fun b σ' => ((0 ≤ m ∧ m < E 1 0) ∧ b = E 3 m ∧ rep σ' s (empE E m) (empD D m) ∧ yfr σ σ' s (s + 12)) ∨ (¬ (0 ≤ m ∧ m < E 1 0) ∧ b = -2 ∧ σ = σ')) := by
  refine y_start rfl rfl rfl ?_
  have ⟨⟨f1, f2, f3, f4⟩, f5, f6, g7, g8⟩ := hr
  have f7 := mth_7 g7
  have ⟨e1, e2, e3⟩ := he
  have s0 := yS_0 hs
  refine y_aload rfl rfl rfl ?_
  refine y_iload rfl rfl ?_
  refine y_vi (as := [(2, s), (0, m)]) (S := []) rfl rfl rfl rfl rfl rfl (yS_0 hs).1 (yS_c hs) (c_hasMan hs) ?_
  rintro _ _ ⟨rfl, rfl⟩
  refine y_ifne rfl (fun q5 => ?_) (fun q5 => ?_)
  · skip
    replace q5 := yb_1.mp q5
    refine y_aload rfl rfl rfl ?_
    refine y_gfr (t := (s + 2)) rfl (yS_c hs) (yS_0 hs).1 rfl (by have := yS_0 hs; omega) ?_
    refine y_iload rfl rfl ?_
    refine y_aald (v := ((s + 3) + 3 * m)) (n := 3) rfl (yS_m hs) (by have := yS_0 hs; omega) rfl (by omega) rfl ?_
    refine y_astore (L' := [some (2, s), some (0, m), some (2, ((s + 3) + 3 * m)), none]) rfl rfl rfl rfl rfl ?_
    refine y_aload rfl rfl rfl ?_
    refine y_gfi (v := (σ ((s + 3) + 3 * m) 2)) rfl (yN_c (yS_n (s := s) (i := m) hs (by omega))) (by have := yN_0 (yS_n (s := s) (i := m) hs (by omega)); omega) rfl (by decide) rfl rfl ?_
    refine y_istore (L' := [some (2, s), some (0, m), some (2, ((s + 3) + 3 * m)), some (0, (σ ((s + 3) + 3 * m) 2))]) rfl rfl rfl rfl ?_
    refine y_aload rfl rfl rfl ?_
    refine y_push rfl ?_
    refine y_pfi (j := 2) rfl (yN_c (yS_n (s := s) (i := m) hs (by omega))) (by have := yN_0 (yS_n (s := s) (i := m) hs (by omega)); omega) rfl rfl rfl rfl rfl ?_
    refine y_aload rfl rfl rfl ?_
    refine y_push rfl ?_
    refine y_pfi (j := 7) rfl (yN_c (yS_n (s := s) (i := m) hs (by omega))) (by have := yN_0 (yS_n (s := s) (i := m) hs (by omega)); omega) rfl rfl rfl rfl rfl ?_
    refine y_aload rfl rfl rfl ?_
    refine y_push rfl ?_
    refine y_pfi (j := 3) rfl (yN_c (yS_n (s := s) (i := m) hs (by omega))) (by have := yN_0 (yS_n (s := s) (i := m) hs (by omega)); omega) rfl rfl rfl rfl rfl ?_
    refine y_iload rfl rfl ?_
    refine y_iret rfl rfl ⟨_, rfl, ?_⟩
    have ⟨⟨b1, b2, b3, b4⟩, a5, ⟨a6, a7, a8⟩, a9, a10⟩ := f6 m (by omega) (by omega)
    refine Or.inl ⟨by omega, b1, rep_slp hr (by omega) e2.2 ?_ ⟨?_, fun k a b => by omega, ?_, fun _ k a b => by omega⟩ ?_ ?_ ?_ ?_, yfr_set (yfr_set (yfr_set (yfr_refl _ _ _) (by omega)) (by omega)) (by omega)⟩
    · intro x y h1 h2 h3 h4 h5; rw [yne (by omega) rfl, yne (by omega) rfl, yne (by omega) rfl]
    · rw [yne (by omega) rfl, yne (by omega) rfl, yeq]
    · rw [yeq]; rfl
    · intro y h1 h2; rw [yne (by omega) rfl, yne (by omega) rfl, yne (by omega) rfl]
    · rw [yne (by omega) rfl, yne (by omega) rfl, yne (by omega) rfl]; exact a10
    · rw [yne (by omega) rfl, yeq]
    · unfold mst; rw [yne (a := s + 3 + 3 * m) (b := 2) (by omega) rfl, yne (a := s + 3 + 3 * m) (b := 2) (by omega) rfl, yeq]; omega
  · skip
    replace q5 := yb_0.mp q5
    refine y_push rfl ?_
    refine y_iret rfl rfl ⟨_, rfl, ?_⟩
    exact Or.inr ⟨by omega, rfl, rfl⟩
theorem c_append {g : Launch × XG × va_G} {σ : YS} {s m sg : Int} {E D : YS} (hs : yS s) (hr : rep σ s E D) (he : eG E) (hd : dG E D) : YI g 25 [(2, s), (0, m), (0, sg)] σ (fun b σ' => ((0 ≤ m ∧ m < E 1 0) ∧ (0 ≤ sg ∧ sg < 14) ∧ E 3 m < 24 ∧ b = E 3 m + 1 ∧ rep σ' s (appE E m sg) (appD E D m sg) ∧ yfr σ σ' s (s + 12)) ∨ (¬ ((0 ≤ m ∧ m < E 1 0) ∧ (0 ≤ sg ∧ sg < 14)) ∧ b = -2 ∧ σ = σ') ∨ (((0 ≤ m ∧ m < E 1 0) ∧ (0 ≤ sg ∧ sg < 14)) ∧ E 3 m = 24 ∧ b = -4 ∧ σ = σ')) := by
  refine y_start rfl rfl rfl ?_
  have ⟨⟨f1, f2, f3, f4⟩, f5, f6, g7, g8⟩ := hr
  have f7 := mth_7 g7
  have ⟨e1, e2, e3⟩ := he
  have s0 := yS_0 hs
  refine y_aload rfl rfl rfl ?_
  refine y_iload rfl rfl ?_
  refine y_vi (as := [(2, s), (0, m)]) (S := []) rfl rfl rfl rfl rfl rfl (yS_0 hs).1 (yS_c hs) (c_hasMan hs) ?_
  rintro _ _ ⟨rfl, rfl⟩
  refine y_ifeq rfl (fun q5 => ?_) (fun q5 => ?_)
  · skip
    replace q5 := yb_0.mp q5
    refine y_push rfl ?_
    refine y_iret rfl rfl ⟨_, rfl, ?_⟩
    exact Or.inr (Or.inl ⟨by omega, rfl, rfl⟩)
  · skip
    replace q5 := yb_1.mp q5
    refine y_iload rfl rfl ?_
    refine y_iflt rfl (fun q9 => ?_) (fun q9 => ?_)
    · skip
      refine y_push rfl ?_
      refine y_iret rfl rfl ⟨_, rfl, ?_⟩
      exact Or.inr (Or.inl ⟨by omega, rfl, rfl⟩)
    · skip
      refine y_iload rfl rfl ?_
      refine y_push rfl ?_
      refine y_iclt rfl (fun q15 => ?_) (fun q15 => ?_)
      · skip
        have ⟨⟨b1, b2, b3, b4⟩, a5, ⟨a6, a7, a8⟩, a9, a10⟩ := f6 m (by omega) (by omega)
        have ⟨⟨e4, e5⟩, ⟨e6, e7⟩, e8⟩ := e3 m (by omega) (by omega)
        refine y_aload rfl rfl rfl ?_
        refine y_gfr (t := (s + 2)) rfl (yS_c hs) (yS_0 hs).1 rfl (by have := yS_0 hs; omega) ?_
        refine y_iload rfl rfl ?_
        refine y_aald (v := ((s + 3) + 3 * m)) (n := 3) rfl (yS_m hs) (by have := yS_0 hs; omega) rfl (by omega) rfl ?_
        refine y_astore (L' := [some (2, s), some (0, m), some (0, sg), some (2, ((s + 3) + 3 * m))]) rfl rfl rfl rfl rfl ?_
        refine y_aload rfl rfl rfl ?_
        refine y_gfi (v := (σ ((s + 3) + 3 * m) 2)) rfl (yN_c (yS_n (s := s) (i := m) hs (by omega))) (by have := yN_0 (yS_n (s := s) (i := m) hs (by omega)); omega) rfl (by decide) rfl rfl ?_
        refine y_push rfl ?_
        refine y_iclt rfl (fun q34 => ?_) (fun q34 => ?_)
        · skip
          refine y_aload rfl rfl rfl ?_
          refine y_gfr (t := (((s + 3) + 3 * m) + 1)) rfl (yN_c (yS_n (s := s) (i := m) hs (by omega))) (by have := yN_0 (yS_n (s := s) (i := m) hs (by omega)); omega) rfl (by have := yN_0 (yS_n (s := s) (i := m) hs (by omega)); omega) ?_
          refine y_aload rfl rfl rfl ?_
          refine y_gfi (v := (σ ((s + 3) + 3 * m) 2)) rfl (yN_c (yS_n (s := s) (i := m) hs (by omega))) (by have := yN_0 (yS_n (s := s) (i := m) hs (by omega)); omega) rfl (by decide) rfl rfl ?_
          refine y_iload rfl rfl ?_
          refine y_iast (n := 24) rfl (yN_s (yS_n (s := s) (i := m) hs (by omega))) (by have := yN_0 (yS_n (s := s) (i := m) hs (by omega)); omega) rfl (by omega) ?_
          refine y_aload rfl rfl rfl ?_
          refine y_dup rfl rfl ?_
          refine y_gfi (v := (σ ((s + 3) + 3 * m) 2)) rfl (yN_c (yS_n (s := s) (i := m) hs (by omega))) (by have := yN_0 (yS_n (s := s) (i := m) hs (by omega)); omega) rfl (by decide) rfl (yne (by omega) rfl) ?_
          refine y_push rfl ?_
          refine y_iadd (v := ((σ ((s + 3) + 3 * m) 2) + 1)) rfl rfl (by omega) ?_
          refine y_pfi (j := 2) rfl (yN_c (yS_n (s := s) (i := m) hs (by omega))) (by have := yN_0 (yS_n (s := s) (i := m) hs (by omega)); omega) rfl rfl rfl rfl rfl ?_
          refine y_aload rfl rfl rfl ?_
          have y1 : ∀ k, 0 ≤ k → k < E 3 m + 1 → (yset (yset σ (((s + 3) + 3 * m) + 1) (σ ((s + 3) + 3 * m) 2) sg) ((s + 3) + 3 * m) 2 ((σ ((s + 3) + 3 * m) 2) + 1)) (s + 3 + 3 * m + 1) k = (fun k => if k = E 3 m then sg else E (10 + m) k) k := fun k k1 k2 => by
            rw [yne (by omega) rfl, b1]
            dsimp only
            split
            · rename_i z; rw [z, yeq]
            · rw [yne (by omega) rfl]; exact b2 k k1 (by omega)
          have y2 : ∀ k, 0 ≤ k → k < E 3 m + 1 → 0 ≤ (fun k => if k = E 3 m then sg else E (10 + m) k) k ∧ (fun k => if k = E 3 m then sg else E (10 + m) k) k ≤ 13 := fun k k1 k2 => by
            dsimp only
            split
            · omega
            · exact e8 k k1 (by omega)
          refine y_vu (as := [(2, ((s + 3) + 3 * m))]) (S := []) rfl rfl rfl rfl rfl rfl (by have := yN_0 (yS_n (s := s) (i := m) hs (by omega)); omega) (yN_c (yS_n (s := s) (i := m) hs (by omega))) (c_learn (n := E 3 m + 1) (f := (fun k => if k = E 3 m then sg else E (10 + m) k)) (yS_n (s := s) (i := m) hs (by omega)) (by rw [yeq, b1]) (by omega) y1 y2) ?_
          rintro σ' ⟨⟨l1, l2, l3, l4⟩, z2⟩
          refine y_aload rfl rfl rfl ?_
          refine y_gfi (v := (σ' ((s + 3) + 3 * m) 3)) rfl (yN_c (yS_n (s := s) (i := m) hs (by omega))) (by have := yN_0 (yS_n (s := s) (i := m) hs (by omega)); omega) rfl (by decide) rfl rfl ?_
          refine y_push rfl ?_
          refine y_icne rfl (fun q69 => ?_) (fun q69 => ?_)
          · skip
            refine y_aload rfl rfl rfl ?_
            refine y_gfi (v := (σ' ((s + 3) + 3 * m) 2)) rfl (yN_c (yS_n (s := s) (i := m) hs (by omega))) (by have := yN_0 (yS_n (s := s) (i := m) hs (by omega)); omega) rfl (by decide) rfl rfl ?_
            refine y_iret rfl rfl ⟨_, rfl, ?_⟩
            have hf : mfl (appE E m sg) m = bflaw (fun k => if k = E 3 m then sg else E (10 + m) k) (E 3 m + 1).toNat := slpE_l (by omega)
            rw [← hf] at l3 l4
            have w5 : ∀ y, 4 ≤ y → y ≤ 8 → σ' (s + 3 + 3 * m) y = σ (s + 3 + 3 * m) y := fun y y1 y2 => by rw [z2 _ _ (by omega) (by omega), yne (by omega) rfl, yne (by omega) rfl]
            have hz : ¬ mfl (appE E m sg) m = -1 := by omega
            refine Or.inl ⟨by omega, by omega, by omega, by rw [← l1], ?_, (fun k j hk => by rw [z2 k j (by omega) (by omega), yne (by omega) rfl, yne (by omega) rfl])⟩
            unfold appD; rw [if_neg hz]
            refine rep_slp hr (by omega) e2.2 ?_ ⟨l1, l2, by rw [hf] at l3; exact l3, by rw [hf] at l4; exact l4⟩ ?_ ?_ ?_ ?_
            · intro x y h1 h2 h3 h4 h5; rw [z2 _ _ (by omega) (by omega), yne (by omega) rfl, yne (by omega) rfl]
            · intro y h1 h2; exact w5 y (by omega) (by omega)
            · rw [w5 _ (by omega) (by omega)]; exact a10
            · rw [w5 _ (by omega) (by omega)]; exact a8
            · unfold mst; omega
          · skip
            refine y_aload rfl rfl rfl ?_
            refine y_push rfl ?_
            refine y_pfz (j := 8) rfl (yN_c (yS_n (s := s) (i := m) hs (by omega))) (by have := yN_0 (yS_n (s := s) (i := m) hs (by omega)); omega) rfl rfl rfl rfl rfl (by decide) ?_
            refine y_aload rfl rfl rfl ?_
            refine y_gfi (v := (σ' ((s + 3) + 3 * m) 2)) rfl (yN_c (yS_n (s := s) (i := m) hs (by omega))) (by have := yN_0 (yS_n (s := s) (i := m) hs (by omega)); omega) rfl (by decide) rfl (yne (by omega) rfl) ?_
            refine y_iret rfl rfl ⟨_, rfl, ?_⟩
            have hf : mfl (appE E m sg) m = bflaw (fun k => if k = E 3 m then sg else E (10 + m) k) (E 3 m + 1).toNat := slpE_l (by omega)
            rw [← hf] at l3 l4
            have w5 : ∀ y, 4 ≤ y → y ≤ 8 → σ' (s + 3 + 3 * m) y = σ (s + 3 + 3 * m) y := fun y y1 y2 => by rw [z2 _ _ (by omega) (by omega), yne (by omega) rfl, yne (by omega) rfl]
            have hz : mfl (appE E m sg) m = -1 := by omega
            refine Or.inl ⟨by omega, by omega, by omega, by rw [← l1], ?_, (fun k j hk => by rw [yne (by omega) rfl]; rw [z2 k j (by omega) (by omega), yne (by omega) rfl, yne (by omega) rfl])⟩
            unfold appD; rw [if_pos hz]
            refine rep_slp hr (by omega) e2.2 ?_ (lrn_cong ⟨l1, l2, by rw [hf] at l3; exact l3, by rw [hf] at l4; exact l4⟩ (fun x y h => yne (by omega) rfl)) ?_ ?_ ?_ ?_
            · intro x y h1 h2 h3 h4 h5; rw [yne (by omega) rfl, z2 _ _ (by omega) (by omega), yne (by omega) rfl, yne (by omega) rfl]
            · intro y h1 h2; rw [yne (by omega) rfl]; exact w5 y (by omega) (by omega)
            · rw [yeq]; exact Or.inl rfl
            · rw [yne (by omega) rfl, w5 _ (by omega) (by omega)]; exact a8
            · unfold mst; dsimp only; rw [yeq, yne (a := s + 3 + 3 * m) (b := 2) (by omega) rfl, yne (a := s + 3 + 3 * m) (b := 3) (by omega) rfl]; omega
        · skip
          refine y_push rfl ?_
          refine y_iret rfl rfl ⟨_, rfl, ?_⟩
          exact Or.inr (Or.inr ⟨by omega, by omega, rfl, rfl⟩)
      · skip
        refine y_push rfl ?_
        refine y_iret rfl rfl ⟨_, rfl, ?_⟩
        exact Or.inr (Or.inl ⟨by omega, rfl, rfl⟩)
