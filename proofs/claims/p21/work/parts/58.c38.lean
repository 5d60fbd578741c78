theorem lwd_of {T : Int → Int} {L p q : Int} (h : rend isLet T L p = q) : mword (lcode T p (min (q - p) 7).toNat) = lwd T L p := by subst h; rfl
theorem lm_itemBad {g : Launch × XG × va_G} {σ : YS} {T : Int → Int} {L : Int} {p it q l : Int} (hL : σ 547 3 = L) (hT : ∀ k, 0 ≤ k → k < L → σ 550 k = T k) (hTr : ∀ k, 0 ≤ k → k < L → 0 ≤ T k ∧ T k ≤ 255) (hl : 0 ≤ L ∧ L ≤ 200) (ha : σ 547 8 = p) (hp : 0 ≤ p ∧ p ≤ L) (h9 : σ 547 9 = -1) (hi : σ 547 7 = it) (hi2 : 0 ≤ it ∧ it < 40) (hq : p ≤ q ∧ q ≤ L) (eq_ : itE T L p = q) (ew : mword l = lwd T L p) (hbad : itBad T L it p) : YW g 125 127 [some (2, 547), some (0, p), some (1, l), none, some (0, (mword l))] [(2, 547)] (yset σ 547 8 q) (fun rv σ' => rv = none ∧ ((σ' 547 9 = itF T L it p ∧ σ' 547 7 = it + 1) ∧ (0 ≤ σ' 547 8 ∧ σ' 547 8 ≤ 203) ∧ (itF T L it p = -1 → σ' 547 8 = itN T L p ∧ σ' 552 it = lwd T L p ∧ σ' 553 (3 * it) = nmV T L (itE T L p) ∧ (lwd T L p = 1 ∨ lwd T L p = 2 → σ' 553 (3 * it + 1) = nmV T L (nmD T L (itE T L p))) ∧ (lwd T L p = 3 → σ' 553 (3 * it + 1) = nmS T L (nmD T L (itE T L p)) + 1 ∧ σ' 553 (3 * it + 2) = sqG T L (nmD T L (itE T L p)) - nmS T L (nmD T L (itE T L p)) - 1)) ∧ (∀ x y, ¬ (x = 547 ∧ 7 ≤ y ∧ y ≤ 9) → ¬ (x = 552 ∧ y = it) → ¬ (x = 553 ∧ 3 * it ≤ y ∧ y ≤ 3 * it + 2) → σ' x y = σ x y))) := by
  have er := nmD_r (T := T) (L := L) (p := q) (by omega)
  have er2 := nmD_r (T := T) (L := L) (p := nmD T L q) (by omega)
  refine y_iload rfl rfl ?_
  refine y_goto rfl ?_
  refine y_pfi (j := 9) rfl rfl (by decide) rfl rfl rfl rfl rfl ?_
  refine y_aload rfl rfl rfl ?_
  refine y_gfr (t := 552) rfl rfl (by decide) rfl (by decide) ?_
  refine y_aload rfl rfl rfl ?_
  refine y_gfi (v := (σ 547 7)) rfl rfl (by decide) rfl (by decide) rfl (yne (by omega) (yne (by omega) rfl)) ?_
  refine y_iload rfl rfl ?_
  refine y_iast (n := 40) rfl rfl (by decide) rfl (by omega) ?_
  refine y_aload rfl rfl rfl ?_
  refine y_gfi (v := p) rfl rfl (by decide) rfl (by decide) rfl (yne (by omega) (yeq _ _ _ _)) ?_
  refine y_push rfl ?_
  refine y_icne rfl (fun q154 => ?_) (fun q154 => ?_)
  · skip
    refine y_aload rfl rfl rfl ?_
    refine y_gfi (v := p) rfl rfl (by decide) rfl (by decide) rfl (yne (by omega) (yeq _ _ _ _)) ?_
    refine y_push rfl ?_
    refine y_icne rfl (fun q177 => ?_) (fun q177 => ?_)
    · skip
      refine y_aload rfl rfl rfl ?_
      refine y_gfi (v := p) rfl rfl (by decide) rfl (by decide) rfl (yne (by omega) (yeq _ _ _ _)) ?_
      refine y_push rfl ?_
      refine y_icne rfl (fun q215 => ?_) (fun q215 => ?_)
      · skip
        refine y_aload rfl rfl rfl ?_
        refine y_gfi (v := p) rfl rfl (by decide) rfl (by decide) rfl (yne (by omega) (yeq _ _ _ _)) ?_
        refine y_push rfl ?_
        refine y_icne rfl (fun q233 => ?_) (fun q233 => ?_)
        · skip
          refine y_aload rfl rfl rfl ?_
          refine y_dup rfl rfl ?_
          refine y_gfi (v := q) rfl rfl (by decide) rfl (by decide) rfl (yne (by omega) (yne (by omega) (yeq _ _ _ _))) ?_
          refine y_push rfl ?_
          refine y_iadd (v := (q + 1)) rfl rfl (by omega) ?_
          refine y_pfi (j := 8) rfl rfl (by decide) rfl rfl rfl rfl rfl ?_
          refine y_aload rfl rfl rfl ?_
          refine y_dup rfl rfl ?_
          refine y_gfi (v := (σ 547 7)) rfl rfl (by decide) rfl (by decide) rfl (yne (by omega) (yne (by omega) (yne (by omega) (yne (by omega) rfl)))) ?_
          refine y_push rfl ?_
          refine y_iadd (v := ((σ 547 7) + 1)) rfl rfl (by omega) ?_
          refine y_pfi (j := 7) rfl rfl (by decide) rfl rfl rfl rfl rfl ?_
          refine y_ret rfl rfl ⟨rfl, ?_⟩
          subst hi
          have it0 : (σ 547 7 = 0 ∨ σ 547 7 ≠ 0) := by omega
          have hF : itF T L (σ 547 7) p = p := by unfold itF; rw [if_pos (by unfold itBad; omega)]
          have nf := nmS_r (T := T) (L := L) (p := q) (by omega)
          have r8_ : 0 ≤ (q + 1) ∧ (q + 1) ≤ 203 := by omega
          have e8 : (yset (yset (yset (yset (yset σ 547 8 q) 547 9 p) 552 (σ 547 7) (mword l)) 547 8 (q + 1)) 547 7 ((σ 547 7) + 1)) 547 8 = (q + 1) := (yne (by omega) (yeq _ _ _ _))
          refine ⟨⟨((yne (by omega) (yne (by omega) (yne (by omega) (yeq _ _ _ _))))).trans (hF.symm), ((yeq _ _ _ _)).trans (by rfl)⟩, by rw [e8]; exact r8_, fun z_ => ?_, fun x y a b c => by rw [yne (by omega) rfl, yne (by omega) rfl, yne (by omega) rfl, yne (by omega) rfl, yne (by omega) rfl]⟩
          exfalso
          rw [hF] at z_
          omega
        · exfalso; omega
      · exfalso; omega
    · exfalso; omega
  · exfalso; omega
theorem lm_item0 {g : Launch × XG × va_G} {σ : YS} {T : Int → Int} {L : Int} {p it q l : Int} (hL : σ 547 3 = L) (hT : ∀ k, 0 ≤ k → k < L → σ 550 k = T k) (hTr : ∀ k, 0 ≤ k → k < L → 0 ≤ T k ∧ T k ≤ 255) (hl : 0 ≤ L ∧ L ≤ 200) (ha : σ 547 8 = p) (hp : 0 ≤ p ∧ p ≤ L) (h9 : σ 547 9 = -1) (hi : σ 547 7 = it) (hi2 : 0 ≤ it ∧ it < 40) (hq : p ≤ q ∧ q ≤ L) (eq_ : itE T L p = q) (ew : mword l = lwd T L p) (hng : ¬ itBad T L it p) (hw : lwd T L p ≠ 1 ∧ lwd T L p ≠ 2 ∧ lwd T L p ≠ 3) : YW g 125 131 [some (2, 547), some (0, p), some (1, l), none, some (0, (mword l))] [(2, 547)] (yset σ 547 8 q) (fun rv σ' => rv = none ∧ ((σ' 547 9 = itF T L it p ∧ σ' 547 7 = it + 1) ∧ (0 ≤ σ' 547 8 ∧ σ' 547 8 ≤ 203) ∧ (itF T L it p = -1 → σ' 547 8 = itN T L p ∧ σ' 552 it = lwd T L p ∧ σ' 553 (3 * it) = nmV T L (itE T L p) ∧ (lwd T L p = 1 ∨ lwd T L p = 2 → σ' 553 (3 * it + 1) = nmV T L (nmD T L (itE T L p))) ∧ (lwd T L p = 3 → σ' 553 (3 * it + 1) = nmS T L (nmD T L (itE T L p)) + 1 ∧ σ' 553 (3 * it + 2) = sqG T L (nmD T L (itE T L p)) - nmS T L (nmD T L (itE T L p)) - 1)) ∧ (∀ x y, ¬ (x = 547 ∧ 7 ≤ y ∧ y ≤ 9) → ¬ (x = 552 ∧ y = it) → ¬ (x = 553 ∧ 3 * it ≤ y ∧ y ≤ 3 * it + 2) → σ' x y = σ x y))) := by
  have er := nmD_r (T := T) (L := L) (p := q) (by omega)
  have er2 := nmD_r (T := T) (L := L) (p := nmD T L q) (by omega)
  refine y_aload rfl rfl rfl ?_
  refine y_gfi (v := (σ 547 9)) rfl rfl (by decide) rfl (by decide) rfl (yne (by omega) rfl) ?_
  refine y_pfi (j := 9) rfl rfl (by decide) rfl rfl rfl rfl rfl ?_
  refine y_aload rfl rfl rfl ?_
  refine y_gfr (t := 552) rfl rfl (by decide) rfl (by decide) ?_
  refine y_aload rfl rfl rfl ?_
  refine y_gfi (v := (σ 547 7)) rfl rfl (by decide) rfl (by decide) rfl (yne (by omega) (yne (by omega) rfl)) ?_
  refine y_iload rfl rfl ?_
  refine y_iast (n := 40) rfl rfl (by decide) rfl (by omega) ?_
  refine y_aload rfl rfl rfl ?_
  refine y_gfi (v := (σ 547 9)) rfl rfl (by decide) rfl (by decide) rfl (yne (by omega) (yeq _ _ _ _)) ?_
  refine y_push rfl ?_
  refine y_icne rfl (fun q154 => ?_) (fun q154 => ?_)
  · exfalso; omega
  · skip
    refine y_aload rfl rfl rfl ?_
    refine y_gfr (t := 553) rfl rfl (by decide) rfl (by decide) ?_
    refine y_push rfl ?_
    refine y_aload rfl rfl rfl ?_
    refine y_gfi (v := (σ 547 7)) rfl rfl (by decide) rfl (by decide) rfl (yne (by omega) (yne (by omega) (yne (by omega) rfl))) ?_
    refine y_imul (v := (3 * (σ 547 7))) rfl rfl (by omega) ?_
    refine y_aload rfl rfl rfl ?_
    have h9_ : (yset (yset (yset σ 547 8 q) 547 9 (σ 547 9)) 552 (σ 547 7) (mword l)) 547 9 = σ 547 9 := (yne (by omega) (yeq _ _ _ _))
    refine y_vi (as := [(2, 547)]) (S := [(0, (3 * (σ 547 7))), (2, 553)]) rfl rfl rfl rfl rfl rfl (by decide) rfl (m_takeNumber (p := q) (by rw [yne (by omega) rfl, yne (by omega) rfl, yne (by omega) rfl]; exact hL) (fun k a b => by rw [yne (by omega) rfl, yne (by omega) rfl, yne (by omega) rfl]; exact hT k a b) hTr hl (yne (by omega) (yne (by omega) (yeq _ _ _ _))) (by omega)) ?_
    rintro b_ s_ (⟨ka, rfl, rfl⟩ | ⟨ka, rfl, rfl⟩)
    · skip
      rw [h9_]
      refine y_iast (n := 120) rfl rfl (by decide) rfl (by omega) ?_
      refine y_aload rfl rfl rfl ?_
      refine y_gfi (v := (σ 547 9)) rfl rfl (by decide) rfl (by decide) rfl (yne (by omega) (yeq _ _ _ _)) ?_
      refine y_push rfl ?_
      refine y_icne rfl (fun q177 => ?_) (fun q177 => ?_)
      · exfalso; omega
      · skip
        refine y_iload rfl rfl ?_
        refine y_i2l rfl ?_
        refine y_lconst (v := 1) rfl rfl ?_
        refine y_ldc2 (v := 2) rfl rfl ?_
        refine y_si (as := [(1, (mword l)), (1, 1), (1, 2)]) (S := []) rfl rfl rfl rfl rfl rfl m_lies ?_
        rintro _ _ ⟨rfl, rfl⟩
        refine y_ifeq rfl (fun q190 => ?_) (fun q190 => ?_)
        · skip
          replace q190 := yb_0.mp q190
          refine y_aload rfl rfl rfl ?_
          refine y_gfi (v := (σ 547 9)) rfl rfl (by decide) rfl (by decide) rfl (yne (by omega) (yeq _ _ _ _)) ?_
          refine y_push rfl ?_
          refine y_icne rfl (fun q215 => ?_) (fun q215 => ?_)
          · exfalso; omega
          · skip
            refine y_iload rfl rfl ?_
            refine y_push rfl ?_
            refine y_icne rfl (fun q221 => ?_) (fun q221 => ?_)
            · skip
              refine y_aload rfl rfl rfl ?_
              refine y_gfi (v := (σ 547 9)) rfl rfl (by decide) rfl (by decide) rfl (yne (by omega) (yeq _ _ _ _)) ?_
              refine y_push rfl ?_
              refine y_icne rfl (fun q233 => ?_) (fun q233 => ?_)
              · exfalso; omega
              · skip
                refine y_aload rfl rfl rfl ?_
                have sr1 := nmS_r (T := T) (L := L) (p := (nmD T L q)) (by omega)
                refine y_vi (as := [(2, 547)]) (S := []) rfl rfl rfl rfl rfl rfl (by decide) rfl (m_isEnd (p := (nmD T L q)) (by rw [yne (by omega) rfl, yne (by omega) rfl, yne (by omega) rfl, yne (by omega) rfl, yne (by omega) rfl, yne (by omega) rfl]; exact hL) (fun k a b => by rw [yne (by omega) rfl, yne (by omega) rfl, yne (by omega) rfl, yne (by omega) rfl, yne (by omega) rfl, yne (by omega) rfl]; exact hT k a b) hTr hl (yne (by omega) (yne (by omega) (yeq _ _ _ _))) (by omega)) ?_
                rintro _ _ ⟨rfl, rfl⟩
                refine y_ifne rfl (fun q240 => ?_) (fun q240 => ?_)
                · skip
                  replace q240 := yb_1.mp q240
                  refine y_aload rfl rfl rfl ?_
                  refine y_aload rfl rfl rfl ?_
                  refine y_gfi (v := (nmS T L (nmD T L q))) rfl rfl (by decide) rfl (by decide) rfl (yeq _ _ _ _) ?_
                  refine y_pfi (j := 9) rfl rfl (by decide) rfl rfl rfl rfl rfl ?_
                  refine y_aload rfl rfl rfl ?_
                  refine y_dup rfl rfl ?_
                  refine y_gfi (v := (nmS T L (nmD T L q))) rfl rfl (by decide) rfl (by decide) rfl (yne (by omega) (yeq _ _ _ _)) ?_
                  refine y_push rfl ?_
                  refine y_iadd (v := ((nmS T L (nmD T L q)) + 1)) rfl rfl (by omega) ?_
                  refine y_pfi (j := 8) rfl rfl (by decide) rfl rfl rfl rfl rfl ?_
                  refine y_aload rfl rfl rfl ?_
                  refine y_dup rfl rfl ?_
                  refine y_gfi (v := (σ 547 7)) rfl rfl (by decide) rfl (by decide) rfl (yne (by omega) (yne (by omega) (yne (by omega) (yne (by omega) (yne (by omega) (yne (by omega) (yne (by omega) (yne (by omega) (yne (by omega) rfl))))))))) ?_
                  refine y_push rfl ?_
                  refine y_iadd (v := ((σ 547 7) + 1)) rfl rfl (by omega) ?_
                  refine y_pfi (j := 7) rfl rfl (by decide) rfl rfl rfl rfl rfl ?_
                  refine y_ret rfl rfl ⟨rfl, ?_⟩
                  subst hi
                  have it0 : (σ 547 7 = 0 ∨ σ 547 7 ≠ 0) := by omega
                  have nb : ¬ itBad T L (σ 547 7) p := by unfold itBad; omega
                  have kone : nmF T L q = -1 := by assumption
                  have h2_ : itF2 T L p = -1 := by unfold itF2; rw [if_neg (by omega), if_neg (by omega)]
                  have hQ : itQ T L p = nmD T L q := by unfold itQ; rw [if_neg (by omega), if_neg (by omega), eq_]
                  have sr_ := nmS_r (T := T) (L := L) (p := (nmD T L q)) (by omega)
                  have hE : itF T L (σ 547 7) p = enF T L (nmD T L q) := by unfold itF; rw [if_neg nb, eq_, if_neg (fun z => z kone), h2_, if_neg (fun zz => zz rfl), hQ]
                  have tq_ : nmS T L (nmD T L q) < L → σ 550 (nmS T L (nmD T L q)) = T (nmS T L (nmD T L q)) := fun zz => by exact hT _ (by omega) zz
                  have hF : itF T L (σ 547 7) p = nmS T L (nmD T L q) := by rw [hE]; unfold enF; rw [if_pos (by first | exact Or.inl (by assumption) | (exact Or.inr (by have := tq_ (by omega); omega)))]
                  have nf := nmS_r (T := T) (L := L) (p := q) (by omega)
                  have r8_ : 0 ≤ ((nmS T L (nmD T L q)) + 1) ∧ ((nmS T L (nmD T L q)) + 1) ≤ 203 := by omega
                  have e8 : (yset (yset (yset (yset (yset (yset (yset (yset (yset (yset σ 547 8 q) 547 9 (σ 547 9)) 552 (σ 547 7) (mword l)) 547 8 (nmD T L q)) 547 9 (σ 547 9)) 553 (3 * (σ 547 7)) (nmV T L q)) 547 8 (nmS T L (nmD T L q))) 547 9 (nmS T L (nmD T L q))) 547 8 ((nmS T L (nmD T L q)) + 1)) 547 7 ((σ 547 7) + 1)) 547 8 = ((nmS T L (nmD T L q)) + 1) := (yne (by omega) (yeq _ _ _ _))
                  refine ⟨⟨((yne (by omega) (yne (by omega) (yeq _ _ _ _)))).trans (hF.symm), ((yeq _ _ _ _)).trans (by rfl)⟩, by rw [e8]; exact r8_, fun z_ => ?_, fun x y a b c => by rw [yne (by omega) rfl, yne (by omega) rfl, yne (by omega) rfl, yne (by omega) rfl, yne (by omega) rfl, yne (by omega) rfl, yne (by omega) rfl, yne (by omega) rfl, yne (by omega) rfl, yne (by omega) rfl]⟩
                  exfalso
                  rw [hF] at z_
                  omega
                · skip
                  replace q240 := yb_0.mp q240
                  refine y_aload rfl rfl rfl ?_
                  refine y_gfr (t := 550) rfl rfl (by decide) rfl (by decide) ?_
                  refine y_aload rfl rfl rfl ?_
                  refine y_gfi (v := (nmS T L (nmD T L q))) rfl rfl (by decide) rfl (by decide) rfl (yeq _ _ _ _) ?_
                  refine y_iald (v := (σ 550 (nmS T L (nmD T L q)))) (n := 200) rfl rfl (by decide) rfl (by omega) (yne (by omega) (yne (by omega) (yne (by omega) (yne (by omega) (yne (by omega) (yne (by omega) (yne (by omega) rfl))))))) ?_
                  refine y_push rfl ?_
                  refine y_iceq rfl (fun q254 => ?_) (fun q254 => ?_)
                  · skip
                    refine y_aload rfl rfl rfl ?_
                    refine y_dup rfl rfl ?_
                    refine y_gfi (v := (nmS T L (nmD T L q))) rfl rfl (by decide) rfl (by decide) rfl (yeq _ _ _ _) ?_
                    refine y_push rfl ?_
                    refine y_iadd (v := ((nmS T L (nmD T L q)) + 1)) rfl rfl (by omega) ?_
                    refine y_pfi (j := 8) rfl rfl (by decide) rfl rfl rfl rfl rfl ?_
                    refine y_aload rfl rfl rfl ?_
                    refine y_dup rfl rfl ?_
                    refine y_gfi (v := (σ 547 7)) rfl rfl (by decide) rfl (by decide) rfl (yne (by omega) (yne (by omega) (yne (by omega) (yne (by omega) (yne (by omega) (yne (by omega) (yne (by omega) (yne (by omega) rfl)))))))) ?_
                    refine y_push rfl ?_
                    refine y_iadd (v := ((σ 547 7) + 1)) rfl rfl (by omega) ?_
                    refine y_pfi (j := 7) rfl rfl (by decide) rfl rfl rfl rfl rfl ?_
                    refine y_ret rfl rfl ⟨rfl, ?_⟩
                    subst hi
                    have it0 : (σ 547 7 = 0 ∨ σ 547 7 ≠ 0) := by omega
                    have nb : ¬ itBad T L (σ 547 7) p := by unfold itBad; omega
                    have kone : nmF T L q = -1 := by assumption
                    have h2_ : itF2 T L p = -1 := by unfold itF2; rw [if_neg (by omega), if_neg (by omega)]
                    have hQ : itQ T L p = nmD T L q := by unfold itQ; rw [if_neg (by omega), if_neg (by omega), eq_]
                    have sr_ := nmS_r (T := T) (L := L) (p := (nmD T L q)) (by omega)
                    have hE : itF T L (σ 547 7) p = enF T L (nmD T L q) := by unfold itF; rw [if_neg nb, eq_, if_neg (fun z => z kone), h2_, if_neg (fun zz => zz rfl), hQ]
                    have tq_ : nmS T L (nmD T L q) < L → σ 550 (nmS T L (nmD T L q)) = T (nmS T L (nmD T L q)) := fun zz => by exact hT _ (by omega) zz
                    have hF : itF T L (σ 547 7) p = -1 := by rw [hE]; unfold enF; rw [if_neg (by have := tq_ (by omega); omega)]
                    have nf := nmS_r (T := T) (L := L) (p := q) (by omega)
                    have r8_ : 0 ≤ ((nmS T L (nmD T L q)) + 1) ∧ ((nmS T L (nmD T L q)) + 1) ≤ 203 := by omega
                    have e8 : (yset (yset (yset (yset (yset (yset (yset (yset (yset σ 547 8 q) 547 9 (σ 547 9)) 552 (σ 547 7) (mword l)) 547 8 (nmD T L q)) 547 9 (σ 547 9)) 553 (3 * (σ 547 7)) (nmV T L q)) 547 8 (nmS T L (nmD T L q))) 547 8 ((nmS T L (nmD T L q)) + 1)) 547 7 ((σ 547 7) + 1)) 547 8 = ((nmS T L (nmD T L q)) + 1) := (yne (by omega) (yeq _ _ _ _))
                    refine ⟨⟨((yne (by omega) (yne (by omega) (yne (by omega) (yne (by omega) (yeq _ _ _ _)))))).trans (h9.trans hF.symm), ((yeq _ _ _ _)).trans (by rfl)⟩, by rw [e8]; exact r8_, fun z_ => ?_, fun x y a b c => by rw [yne (by omega) rfl, yne (by omega) rfl, yne (by omega) rfl, yne (by omega) rfl, yne (by omega) rfl, yne (by omega) rfl, yne (by omega) rfl, yne (by omega) rfl, yne (by omega) rfl]⟩
                    have hN : itN T L p = nmS T L (nmD T L q) + 1 := by unfold itN; rw [hQ]
                    refine ⟨e8.trans hN.symm, ?_, ?_, fun c1 => ?_, fun c3 => ?_⟩
                    · rw [yne (by omega) rfl, yne (by omega) rfl, yne (by omega) rfl, yne (by omega) rfl, yne (by omega) rfl, yne (by omega) rfl, yeq]; exact ew
                    · rw [yne (by omega) rfl, yne (by omega) rfl, yne (by omega) rfl, yeq]; rw [eq_]
                    · exfalso; omega
                    · exfalso; omega
                  · skip
                    refine y_aload rfl rfl rfl ?_
                    refine y_aload rfl rfl rfl ?_
                    refine y_gfi (v := (nmS T L (nmD T L q))) rfl rfl (by decide) rfl (by decide) rfl (yeq _ _ _ _) ?_
                    refine y_pfi (j := 9) rfl rfl (by decide) rfl rfl rfl rfl rfl ?_
                    refine y_aload rfl rfl rfl ?_
                    refine y_dup rfl rfl ?_
                    refine y_gfi (v := (nmS T L (nmD T L q))) rfl rfl (by decide) rfl (by decide) rfl (yne (by omega) (yeq _ _ _ _)) ?_
                    refine y_push rfl ?_
                    refine y_iadd (v := ((nmS T L (nmD T L q)) + 1)) rfl rfl (by omega) ?_
                    refine y_pfi (j := 8) rfl rfl (by decide) rfl rfl rfl rfl rfl ?_
                    refine y_aload rfl rfl rfl ?_
                    refine y_dup rfl rfl ?_
                    refine y_gfi (v := (σ 547 7)) rfl rfl (by decide) rfl (by decide) rfl (yne (by omega) (yne (by omega) (yne (by omega) (yne (by omega) (yne (by omega) (yne (by omega) (yne (by omega) (yne (by omega) (yne (by omega) rfl))))))))) ?_
                    refine y_push rfl ?_
                    refine y_iadd (v := ((σ 547 7) + 1)) rfl rfl (by omega) ?_
                    refine y_pfi (j := 7) rfl rfl (by decide) rfl rfl rfl rfl rfl ?_
                    refine y_ret rfl rfl ⟨rfl, ?_⟩
                    subst hi
                    have it0 : (σ 547 7 = 0 ∨ σ 547 7 ≠ 0) := by omega
                    have nb : ¬ itBad T L (σ 547 7) p := by unfold itBad; omega
                    have kone : nmF T L q = -1 := by assumption
                    have h2_ : itF2 T L p = -1 := by unfold itF2; rw [if_neg (by omega), if_neg (by omega)]
                    have hQ : itQ T L p = nmD T L q := by unfold itQ; rw [if_neg (by omega), if_neg (by omega), eq_]
                    have sr_ := nmS_r (T := T) (L := L) (p := (nmD T L q)) (by omega)
                    have hE : itF T L (σ 547 7) p = enF T L (nmD T L q) := by unfold itF; rw [if_neg nb, eq_, if_neg (fun z => z kone), h2_, if_neg (fun zz => zz rfl), hQ]
                    have tq_ : nmS T L (nmD T L q) < L → σ 550 (nmS T L (nmD T L q)) = T (nmS T L (nmD T L q)) := fun zz => by exact hT _ (by omega) zz
                    have hF : itF T L (σ 547 7) p = nmS T L (nmD T L q) := by rw [hE]; unfold enF; rw [if_pos (by first | exact Or.inl (by assumption) | (exact Or.inr (by have := tq_ (by omega); omega)))]
                    have nf := nmS_r (T := T) (L := L) (p := q) (by omega)
                    have r8_ : 0 ≤ ((nmS T L (nmD T L q)) + 1) ∧ ((nmS T L (nmD T L q)) + 1) ≤ 203 := by omega
                    have e8 : (yset (yset (yset (yset (yset (yset (yset (yset (yset (yset σ 547 8 q) 547 9 (σ 547 9)) 552 (σ 547 7) (mword l)) 547 8 (nmD T L q)) 547 9 (σ 547 9)) 553 (3 * (σ 547 7)) (nmV T L q)) 547 8 (nmS T L (nmD T L q))) 547 9 (nmS T L (nmD T L q))) 547 8 ((nmS T L (nmD T L q)) + 1)) 547 7 ((σ 547 7) + 1)) 547 8 = ((nmS T L (nmD T L q)) + 1) := (yne (by omega) (yeq _ _ _ _))
                    refine ⟨⟨((yne (by omega) (yne (by omega) (yeq _ _ _ _)))).trans (hF.symm), ((yeq _ _ _ _)).trans (by rfl)⟩, by rw [e8]; exact r8_, fun z_ => ?_, fun x y a b c => by rw [yne (by omega) rfl, yne (by omega) rfl, yne (by omega) rfl, yne (by omega) rfl, yne (by omega) rfl, yne (by omega) rfl, yne (by omega) rfl, yne (by omega) rfl, yne (by omega) rfl, yne (by omega) rfl]⟩
                    exfalso
                    rw [hF] at z_
                    omega
            · exfalso; omega
        · replace q190 := yb_1.mp q190
          exfalso; omega
    · skip
      refine y_iast (n := 120) rfl rfl (by decide) rfl (by omega) ?_
      refine y_aload rfl rfl rfl ?_
      refine y_gfi (v := (nmF T L q)) rfl rfl (by decide) rfl (by decide) rfl (yne (by omega) (yeq _ _ _ _)) ?_
      refine y_push rfl ?_
      refine y_icne rfl (fun q177 => ?_) (fun q177 => ?_)
      · skip
        refine y_aload rfl rfl rfl ?_
        refine y_gfi (v := (nmF T L q)) rfl rfl (by decide) rfl (by decide) rfl (yne (by omega) (yeq _ _ _ _)) ?_
        refine y_push rfl ?_
        refine y_icne rfl (fun q215 => ?_) (fun q215 => ?_)
        · skip
          refine y_aload rfl rfl rfl ?_
          refine y_gfi (v := (nmF T L q)) rfl rfl (by decide) rfl (by decide) rfl (yne (by omega) (yeq _ _ _ _)) ?_
          refine y_push rfl ?_
          refine y_icne rfl (fun q233 => ?_) (fun q233 => ?_)
          · skip
            refine y_aload rfl rfl rfl ?_
            refine y_dup rfl rfl ?_
            refine y_gfi (v := (nmD T L q)) rfl rfl (by decide) rfl (by decide) rfl (yne (by omega) (yne (by omega) (yeq _ _ _ _))) ?_
            refine y_push rfl ?_
            refine y_iadd (v := ((nmD T L q) + 1)) rfl rfl (by omega) ?_
            refine y_pfi (j := 8) rfl rfl (by decide) rfl rfl rfl rfl rfl ?_
            refine y_aload rfl rfl rfl ?_
            refine y_dup rfl rfl ?_
            refine y_gfi (v := (σ 547 7)) rfl rfl (by decide) rfl (by decide) rfl (yne (by omega) (yne (by omega) (yne (by omega) (yne (by omega) (yne (by omega) (yne (by omega) (yne (by omega) rfl))))))) ?_
            refine y_push rfl ?_
            refine y_iadd (v := ((σ 547 7) + 1)) rfl rfl (by omega) ?_
            refine y_pfi (j := 7) rfl rfl (by decide) rfl rfl rfl rfl rfl ?_
            refine y_ret rfl rfl ⟨rfl, ?_⟩
            subst hi
            have it0 : (σ 547 7 = 0 ∨ σ 547 7 ≠ 0) := by omega
            have nb : ¬ itBad T L (σ 547 7) p := by unfold itBad; omega
            have hF : itF T L (σ 547 7) p = nmF T L q := by unfold itF; rw [if_neg nb, eq_, if_pos ka]
            have nf := nmS_r (T := T) (L := L) (p := q) (by omega)
            have r8_ : 0 ≤ ((nmD T L q) + 1) ∧ ((nmD T L q) + 1) ≤ 203 := by omega
            have e8 : (yset (yset (yset (yset (yset (yset (yset (yset σ 547 8 q) 547 9 (σ 547 9)) 552 (σ 547 7) (mword l)) 547 8 (nmD T L q)) 547 9 (nmF T L q)) 553 (3 * (σ 547 7)) (nmV T L q)) 547 8 ((nmD T L q) + 1)) 547 7 ((σ 547 7) + 1)) 547 8 = ((nmD T L q) + 1) := (yne (by omega) (yeq _ _ _ _))
            refine ⟨⟨((yne (by omega) (yne (by omega) (yne (by omega) (yeq _ _ _ _))))).trans (hF.symm), ((yeq _ _ _ _)).trans (by rfl)⟩, by rw [e8]; exact r8_, fun z_ => ?_, fun x y a b c => by rw [yne (by omega) rfl, yne (by omega) rfl, yne (by omega) rfl, yne (by omega) rfl, yne (by omega) rfl, yne (by omega) rfl, yne (by omega) rfl, yne (by omega) rfl]⟩
            exfalso
            rw [hF] at z_
            omega
          · exfalso; omega
        · exfalso; omega
      · exfalso; omega
theorem lm_item12 {g : Launch × XG × va_G} {σ : YS} {T : Int → Int} {L : Int} {p it q l : Int} (hL : σ 547 3 = L) (hT : ∀ k, 0 ≤ k → k < L → σ 550 k = T k) (hTr : ∀ k, 0 ≤ k → k < L → 0 ≤ T k ∧ T k ≤ 255) (hl : 0 ≤ L ∧ L ≤ 200) (ha : σ 547 8 = p) (hp : 0 ≤ p ∧ p ≤ L) (h9 : σ 547 9 = -1) (hi : σ 547 7 = it) (hi2 : 0 ≤ it ∧ it < 40) (hq : p ≤ q ∧ q ≤ L) (eq_ : itE T L p = q) (ew : mword l = lwd T L p) (hng : ¬ itBad T L it p) (hw : lwd T L p = 1 ∨ lwd T L p = 2) : YW g 125 131 [some (2, 547), some (0, p), some (1, l), none, some (0, (mword l))] [(2, 547)] (yset σ 547 8 q) (fun rv σ' => rv = none ∧ ((σ' 547 9 = itF T L it p ∧ σ' 547 7 = it + 1) ∧ (0 ≤ σ' 547 8 ∧ σ' 547 8 ≤ 203) ∧ (itF T L it p = -1 → σ' 547 8 = itN T L p ∧ σ' 552 it = lwd T L p ∧ σ' 553 (3 * it) = nmV T L (itE T L p) ∧ (lwd T L p = 1 ∨ lwd T L p = 2 → σ' 553 (3 * it + 1) = nmV T L (nmD T L (itE T L p))) ∧ (lwd T L p = 3 → σ' 553 (3 * it + 1) = nmS T L (nmD T L (itE T L p)) + 1 ∧ σ' 553 (3 * it + 2) = sqG T L (nmD T L (itE T L p)) - nmS T L (nmD T L (itE T L p)) - 1)) ∧ (∀ x y, ¬ (x = 547 ∧ 7 ≤ y ∧ y ≤ 9) → ¬ (x = 552 ∧ y = it) → ¬ (x = 553 ∧ 3 * it ≤ y ∧ y ≤ 3 * it + 2) → σ' x y = σ x y))) := by
  have er := nmD_r (T := T) (L := L) (p := q) (by omega)
  have er2 := nmD_r (T := T) (L := L) (p := nmD T L q) (by omega)
  refine y_aload rfl rfl rfl ?_
  refine y_gfi (v := (σ 547 9)) rfl rfl (by decide) rfl (by decide) rfl (yne (by omega) rfl) ?_
  refine y_pfi (j := 9) rfl rfl (by decide) rfl rfl rfl rfl rfl ?_
  refine y_aload rfl rfl rfl ?_
  refine y_gfr (t := 552) rfl rfl (by decide) rfl (by decide) ?_
  refine y_aload rfl rfl rfl ?_
  refine y_gfi (v := (σ 547 7)) rfl rfl (by decide) rfl (by decide) rfl (yne (by omega) (yne (by omega) rfl)) ?_
  refine y_iload rfl rfl ?_
  refine y_iast (n := 40) rfl rfl (by decide) rfl (by omega) ?_
  refine y_aload rfl rfl rfl ?_
  refine y_gfi (v := (σ 547 9)) rfl rfl (by decide) rfl (by decide) rfl (yne (by omega) (yeq _ _ _ _)) ?_
  refine y_push rfl ?_
  refine y_icne rfl (fun q154 => ?_) (fun q154 => ?_)
  · exfalso; omega
  · skip
    refine y_aload rfl rfl rfl ?_
    refine y_gfr (t := 553) rfl rfl (by decide) rfl (by decide) ?_
    refine y_push rfl ?_
    refine y_aload rfl rfl rfl ?_
    refine y_gfi (v := (σ 547 7)) rfl rfl (by decide) rfl (by decide) rfl (yne (by omega) (yne (by omega) (yne (by omega) rfl))) ?_
    refine y_imul (v := (3 * (σ 547 7))) rfl rfl (by omega) ?_
    refine y_aload rfl rfl rfl ?_
    have h9_ : (yset (yset (yset σ 547 8 q) 547 9 (σ 547 9)) 552 (σ 547 7) (mword l)) 547 9 = σ 547 9 := (yne (by omega) (yeq _ _ _ _))
    refine y_vi (as := [(2, 547)]) (S := [(0, (3 * (σ 547 7))), (2, 553)]) rfl rfl rfl rfl rfl rfl (by decide) rfl (m_takeNumber (p := q) (by rw [yne (by omega) rfl, yne (by omega) rfl, yne (by omega) rfl]; exact hL) (fun k a b => by rw [yne (by omega) rfl, yne (by omega) rfl, yne (by omega) rfl]; exact hT k a b) hTr hl (yne (by omega) (yne (by omega) (yeq _ _ _ _))) (by omega)) ?_
    rintro b_ s_ (⟨ka, rfl, rfl⟩ | ⟨ka, rfl, rfl⟩)
    · skip
      rw [h9_]
      refine y_iast (n := 120) rfl rfl (by decide) rfl (by omega) ?_
      refine y_aload rfl rfl rfl ?_
      refine y_gfi (v := (σ 547 9)) rfl rfl (by decide) rfl (by decide) rfl (yne (by omega) (yeq _ _ _ _)) ?_
      refine y_push rfl ?_
      refine y_icne rfl (fun q177 => ?_) (fun q177 => ?_)
      · exfalso; omega
      · skip
        refine y_iload rfl rfl ?_
        refine y_i2l rfl ?_
        refine y_lconst (v := 1) rfl rfl ?_
        refine y_ldc2 (v := 2) rfl rfl ?_
        refine y_si (as := [(1, (mword l)), (1, 1), (1, 2)]) (S := []) rfl rfl rfl rfl rfl rfl m_lies ?_
        rintro _ _ ⟨rfl, rfl⟩
        refine y_ifeq rfl (fun q190 => ?_) (fun q190 => ?_)
        · replace q190 := yb_0.mp q190
          exfalso; omega
        · skip
          replace q190 := yb_1.mp q190
          refine y_aload rfl rfl rfl ?_
          refine y_gfr (t := 553) rfl rfl (by decide) rfl (by decide) ?_
          refine y_push rfl ?_
          refine y_aload rfl rfl rfl ?_
          refine y_gfi (v := (σ 547 7)) rfl rfl (by decide) rfl (by decide) rfl (yne (by omega) (yne (by omega) (yne (by omega) (yne (by omega) (yne (by omega) (yne (by omega) rfl)))))) ?_
          refine y_imul (v := (3 * (σ 547 7))) rfl rfl (by omega) ?_
          refine y_push rfl ?_
          refine y_iadd (v := ((3 * (σ 547 7)) + 1)) rfl rfl (by omega) ?_
          refine y_aload rfl rfl rfl ?_
          have h9_ : (yset (yset (yset (yset (yset (yset σ 547 8 q) 547 9 (σ 547 9)) 552 (σ 547 7) (mword l)) 547 8 (nmD T L q)) 547 9 (σ 547 9)) 553 (3 * (σ 547 7)) (nmV T L q)) 547 9 = σ 547 9 := (yne (by omega) (yeq _ _ _ _))
          refine y_vi (as := [(2, 547)]) (S := [(0, ((3 * (σ 547 7)) + 1)), (2, 553)]) rfl rfl rfl rfl rfl rfl (by decide) rfl (m_takeNumber (p := (nmD T L q)) (by rw [yne (by omega) rfl, yne (by omega) rfl, yne (by omega) rfl, yne (by omega) rfl, yne (by omega) rfl, yne (by omega) rfl]; exact hL) (fun k a b => by rw [yne (by omega) rfl, yne (by omega) rfl, yne (by omega) rfl, yne (by omega) rfl, yne (by omega) rfl, yne (by omega) rfl]; exact hT k a b) hTr hl (yne (by omega) (yne (by omega) (yeq _ _ _ _))) (by omega)) ?_
          rintro b_ s_ (⟨kb, rfl, rfl⟩ | ⟨kb, rfl, rfl⟩)
          · skip
            rw [h9_]
            refine y_iast (n := 120) rfl rfl (by decide) rfl (by omega) ?_
            refine y_aload rfl rfl rfl ?_
            refine y_gfi (v := (σ 547 9)) rfl rfl (by decide) rfl (by decide) rfl (yne (by omega) (yeq _ _ _ _)) ?_
            refine y_push rfl ?_
            refine y_icne rfl (fun q215 => ?_) (fun q215 => ?_)
            · exfalso; omega
            · skip
              refine y_iload rfl rfl ?_
              refine y_push rfl ?_
              refine y_icne rfl (fun q221 => ?_) (fun q221 => ?_)
              · skip
                refine y_aload rfl rfl rfl ?_
                refine y_gfi (v := (σ 547 9)) rfl rfl (by decide) rfl (by decide) rfl (yne (by omega) (yeq _ _ _ _)) ?_
                refine y_push rfl ?_
                refine y_icne rfl (fun q233 => ?_) (fun q233 => ?_)
                · exfalso; omega
                · skip
                  refine y_aload rfl rfl rfl ?_
                  have sr1 := nmS_r (T := T) (L := L) (p := (nmD T L (nmD T L q))) (by omega)
                  refine y_vi (as := [(2, 547)]) (S := []) rfl rfl rfl rfl rfl rfl (by decide) rfl (m_isEnd (p := (nmD T L (nmD T L q))) (by rw [yne (by omega) rfl, yne (by omega) rfl, yne (by omega) rfl, yne (by omega) rfl, yne (by omega) rfl, yne (by omega) rfl, yne (by omega) rfl, yne (by omega) rfl, yne (by omega) rfl]; exact hL) (fun k a b => by rw [yne (by omega) rfl, yne (by omega) rfl, yne (by omega) rfl, yne (by omega) rfl, yne (by omega) rfl, yne (by omega) rfl, yne (by omega) rfl, yne (by omega) rfl, yne (by omega) rfl]; exact hT k a b) hTr hl (yne (by omega) (yne (by omega) (yeq _ _ _ _))) (by omega)) ?_
                  rintro _ _ ⟨rfl, rfl⟩
                  refine y_ifne rfl (fun q240 => ?_) (fun q240 => ?_)
                  · skip
                    replace q240 := yb_1.mp q240
                    refine y_aload rfl rfl rfl ?_
                    refine y_aload rfl rfl rfl ?_
                    refine y_gfi (v := (nmS T L (nmD T L (nmD T L q)))) rfl rfl (by decide) rfl (by decide) rfl (yeq _ _ _ _) ?_
                    refine y_pfi (j := 9) rfl rfl (by decide) rfl rfl rfl rfl rfl ?_
                    refine y_aload rfl rfl rfl ?_
                    refine y_dup rfl rfl ?_
                    refine y_gfi (v := (nmS T L (nmD T L (nmD T L q)))) rfl rfl (by decide) rfl (by decide) rfl (yne (by omega) (yeq _ _ _ _)) ?_
                    refine y_push rfl ?_
                    refine y_iadd (v := ((nmS T L (nmD T L (nmD T L q))) + 1)) rfl rfl (by omega) ?_
                    refine y_pfi (j := 8) rfl rfl (by decide) rfl rfl rfl rfl rfl ?_
                    refine y_aload rfl rfl rfl ?_
                    refine y_dup rfl rfl ?_
                    refine y_gfi (v := (σ 547 7)) rfl rfl (by decide) rfl (by decide) rfl (yne (by omega) (yne (by omega) (yne (by omega) (yne (by omega) (yne (by omega) (yne (by omega) (yne (by omega) (yne (by omega) (yne (by omega) (yne (by omega) (yne (by omega) (yne (by omega) rfl)))))))))))) ?_
                    refine y_push rfl ?_
                    refine y_iadd (v := ((σ 547 7) + 1)) rfl rfl (by omega) ?_
                    refine y_pfi (j := 7) rfl rfl (by decide) rfl rfl rfl rfl rfl ?_
                    refine y_ret rfl rfl ⟨rfl, ?_⟩
                    subst hi
                    have it0 : (σ 547 7 = 0 ∨ σ 547 7 ≠ 0) := by omega
                    have nb : ¬ itBad T L (σ 547 7) p := by unfold itBad; omega
                    have kone : nmF T L q = -1 := by assumption
                    have h2_ : itF2 T L p = nmF T L (nmD T L q) := by unfold itF2; rw [if_pos (by omega), eq_]
                    have hQ : itQ T L p = nmD T L (nmD T L q) := by unfold itQ; rw [if_pos (by omega), eq_]
                    have sr_ := nmS_r (T := T) (L := L) (p := (nmD T L (nmD T L q))) (by omega)
                    have hE : itF T L (σ 547 7) p = enF T L (nmD T L (nmD T L q)) := by unfold itF; rw [if_neg nb, eq_, if_neg (fun z => z kone), h2_, if_neg (fun zz => zz (by assumption)), hQ]
                    have tq_ : nmS T L (nmD T L (nmD T L q)) < L → σ 550 (nmS T L (nmD T L (nmD T L q))) = T (nmS T L (nmD T L (nmD T L q))) := fun zz => by exact hT _ (by omega) zz
                    have hF : itF T L (σ 547 7) p = nmS T L (nmD T L (nmD T L q)) := by rw [hE]; unfold enF; rw [if_pos (by first | exact Or.inl (by assumption) | (exact Or.inr (by have := tq_ (by omega); omega)))]
                    have nf := nmS_r (T := T) (L := L) (p := q) (by omega)
                    have r8_ : 0 ≤ ((nmS T L (nmD T L (nmD T L q))) + 1) ∧ ((nmS T L (nmD T L (nmD T L q))) + 1) ≤ 203 := by omega
                    have e8 : (yset (yset (yset (yset (yset (yset (yset (yset (yset (yset (yset (yset (yset σ 547 8 q) 547 9 (σ 547 9)) 552 (σ 547 7) (mword l)) 547 8 (nmD T L q)) 547 9 (σ 547 9)) 553 (3 * (σ 547 7)) (nmV T L q)) 547 8 (nmD T L (nmD T L q))) 547 9 (σ 547 9)) 553 ((3 * (σ 547 7)) + 1) (nmV T L (nmD T L q))) 547 8 (nmS T L (nmD T L (nmD T L q)))) 547 9 (nmS T L (nmD T L (nmD T L q)))) 547 8 ((nmS T L (nmD T L (nmD T L q))) + 1)) 547 7 ((σ 547 7) + 1)) 547 8 = ((nmS T L (nmD T L (nmD T L q))) + 1) := (yne (by omega) (yeq _ _ _ _))
                    refine ⟨⟨((yne (by omega) (yne (by omega) (yeq _ _ _ _)))).trans (hF.symm), ((yeq _ _ _ _)).trans (by rfl)⟩, by rw [e8]; exact r8_, fun z_ => ?_, fun x y a b c => by rw [yne (by omega) rfl, yne (by omega) rfl, yne (by omega) rfl, yne (by omega) rfl, yne (by omega) rfl, yne (by omega) rfl, yne (by omega) rfl, yne (by omega) rfl, yne (by omega) rfl, yne (by omega) rfl, yne (by omega) rfl, yne (by omega) rfl, yne (by omega) rfl]⟩
                    exfalso
                    rw [hF] at z_
                    omega
                  · skip
                    replace q240 := yb_0.mp q240
                    refine y_aload rfl rfl rfl ?_
                    refine y_gfr (t := 550) rfl rfl (by decide) rfl (by decide) ?_
                    refine y_aload rfl rfl rfl ?_
                    refine y_gfi (v := (nmS T L (nmD T L (nmD T L q)))) rfl rfl (by decide) rfl (by decide) rfl (yeq _ _ _ _) ?_
                    refine y_iald (v := (σ 550 (nmS T L (nmD T L (nmD T L q))))) (n := 200) rfl rfl (by decide) rfl (by omega) (yne (by omega) (yne (by omega) (yne (by omega) (yne (by omega) (yne (by omega) (yne (by omega) (yne (by omega) (yne (by omega) (yne (by omega) (yne (by omega) rfl)))))))))) ?_
                    refine y_push rfl ?_
                    refine y_iceq rfl (fun q254 => ?_) (fun q254 => ?_)
                    · skip
                      refine y_aload rfl rfl rfl ?_
                      refine y_dup rfl rfl ?_
                      refine y_gfi (v := (nmS T L (nmD T L (nmD T L q)))) rfl rfl (by decide) rfl (by decide) rfl (yeq _ _ _ _) ?_
                      refine y_push rfl ?_
                      refine y_iadd (v := ((nmS T L (nmD T L (nmD T L q))) + 1)) rfl rfl (by omega) ?_
                      refine y_pfi (j := 8) rfl rfl (by decide) rfl rfl rfl rfl rfl ?_
                      refine y_aload rfl rfl rfl ?_
                      refine y_dup rfl rfl ?_
                      refine y_gfi (v := (σ 547 7)) rfl rfl (by decide) rfl (by decide) rfl (yne (by omega) (yne (by omega) (yne (by omega) (yne (by omega) (yne (by omega) (yne (by omega) (yne (by omega) (yne (by omega) (yne (by omega) (yne (by omega) (yne (by omega) rfl))))))))))) ?_
                      refine y_push rfl ?_
                      refine y_iadd (v := ((σ 547 7) + 1)) rfl rfl (by omega) ?_
                      refine y_pfi (j := 7) rfl rfl (by decide) rfl rfl rfl rfl rfl ?_
                      refine y_ret rfl rfl ⟨rfl, ?_⟩
                      subst hi
                      have it0 : (σ 547 7 = 0 ∨ σ 547 7 ≠ 0) := by omega
                      have nb : ¬ itBad T L (σ 547 7) p := by unfold itBad; omega
                      have kone : nmF T L q = -1 := by assumption
                      have h2_ : itF2 T L p = nmF T L (nmD T L q) := by unfold itF2; rw [if_pos (by omega), eq_]
                      have hQ : itQ T L p = nmD T L (nmD T L q) := by unfold itQ; rw [if_pos (by omega), eq_]
                      have sr_ := nmS_r (T := T) (L := L) (p := (nmD T L (nmD T L q))) (by omega)
                      have hE : itF T L (σ 547 7) p = enF T L (nmD T L (nmD T L q)) := by unfold itF; rw [if_neg nb, eq_, if_neg (fun z => z kone), h2_, if_neg (fun zz => zz (by assumption)), hQ]
                      have tq_ : nmS T L (nmD T L (nmD T L q)) < L → σ 550 (nmS T L (nmD T L (nmD T L q))) = T (nmS T L (nmD T L (nmD T L q))) := fun zz => by exact hT _ (by omega) zz
                      have hF : itF T L (σ 547 7) p = -1 := by rw [hE]; unfold enF; rw [if_neg (by have := tq_ (by omega); omega)]
                      have nf := nmS_r (T := T) (L := L) (p := q) (by omega)
                      have r8_ : 0 ≤ ((nmS T L (nmD T L (nmD T L q))) + 1) ∧ ((nmS T L (nmD T L (nmD T L q))) + 1) ≤ 203 := by omega
                      have e8 : (yset (yset (yset (yset (yset (yset (yset (yset (yset (yset (yset (yset σ 547 8 q) 547 9 (σ 547 9)) 552 (σ 547 7) (mword l)) 547 8 (nmD T L q)) 547 9 (σ 547 9)) 553 (3 * (σ 547 7)) (nmV T L q)) 547 8 (nmD T L (nmD T L q))) 547 9 (σ 547 9)) 553 ((3 * (σ 547 7)) + 1) (nmV T L (nmD T L q))) 547 8 (nmS T L (nmD T L (nmD T L q)))) 547 8 ((nmS T L (nmD T L (nmD T L q))) + 1)) 547 7 ((σ 547 7) + 1)) 547 8 = ((nmS T L (nmD T L (nmD T L q))) + 1) := (yne (by omega) (yeq _ _ _ _))
                      refine ⟨⟨((yne (by omega) (yne (by omega) (yne (by omega) (yne (by omega) (yeq _ _ _ _)))))).trans (h9.trans hF.symm), ((yeq _ _ _ _)).trans (by rfl)⟩, by rw [e8]; exact r8_, fun z_ => ?_, fun x y a b c => by rw [yne (by omega) rfl, yne (by omega) rfl, yne (by omega) rfl, yne (by omega) rfl, yne (by omega) rfl, yne (by omega) rfl, yne (by omega) rfl, yne (by omega) rfl, yne (by omega) rfl, yne (by omega) rfl, yne (by omega) rfl, yne (by omega) rfl]⟩
                      have hN : itN T L p = nmS T L (nmD T L (nmD T L q)) + 1 := by unfold itN; rw [hQ]
                      refine ⟨e8.trans hN.symm, ?_, ?_, fun c1 => ?_, fun c3 => ?_⟩
                      · rw [yne (by omega) rfl, yne (by omega) rfl, yne (by omega) rfl, yne (by omega) rfl, yne (by omega) rfl, yne (by omega) rfl, yne (by omega) rfl, yne (by omega) rfl, yne (by omega) rfl, yeq]; exact ew
                      · rw [yne (by omega) rfl, yne (by omega) rfl, yne (by omega) rfl, yne (by omega) rfl, yne (by omega) rfl, yne (by omega) rfl, yeq]; rw [eq_]
                      · rw [yne (by omega) rfl, yne (by omega) rfl, yne (by omega) rfl, yeq]; rw [eq_]
                      · exfalso; omega
                    · skip
                      refine y_aload rfl rfl rfl ?_
                      refine y_aload rfl rfl rfl ?_
                      refine y_gfi (v := (nmS T L (nmD T L (nmD T L q)))) rfl rfl (by decide) rfl (by decide) rfl (yeq _ _ _ _) ?_
                      refine y_pfi (j := 9) rfl rfl (by decide) rfl rfl rfl rfl rfl ?_
                      refine y_aload rfl rfl rfl ?_
                      refine y_dup rfl rfl ?_
                      refine y_gfi (v := (nmS T L (nmD T L (nmD T L q)))) rfl rfl (by decide) rfl (by decide) rfl (yne (by omega) (yeq _ _ _ _)) ?_
                      refine y_push rfl ?_
                      refine y_iadd (v := ((nmS T L (nmD T L (nmD T L q))) + 1)) rfl rfl (by omega) ?_
                      refine y_pfi (j := 8) rfl rfl (by decide) rfl rfl rfl rfl rfl ?_
                      refine y_aload rfl rfl rfl ?_
                      refine y_dup rfl rfl ?_
                      refine y_gfi (v := (σ 547 7)) rfl rfl (by decide) rfl (by decide) rfl (yne (by omega) (yne (by omega) (yne (by omega) (yne (by omega) (yne (by omega) (yne (by omega) (yne (by omega) (yne (by omega) (yne (by omega) (yne (by omega) (yne (by omega) (yne (by omega) rfl)))))))))))) ?_
                      refine y_push rfl ?_
                      refine y_iadd (v := ((σ 547 7) + 1)) rfl rfl (by omega) ?_
                      refine y_pfi (j := 7) rfl rfl (by decide) rfl rfl rfl rfl rfl ?_
                      refine y_ret rfl rfl ⟨rfl, ?_⟩
                      subst hi
                      have it0 : (σ 547 7 = 0 ∨ σ 547 7 ≠ 0) := by omega
                      have nb : ¬ itBad T L (σ 547 7) p := by unfold itBad; omega
                      have kone : nmF T L q = -1 := by assumption
                      have h2_ : itF2 T L p = nmF T L (nmD T L q) := by unfold itF2; rw [if_pos (by omega), eq_]
                      have hQ : itQ T L p = nmD T L (nmD T L q) := by unfold itQ; rw [if_pos (by omega), eq_]
                      have sr_ := nmS_r (T := T) (L := L) (p := (nmD T L (nmD T L q))) (by omega)
                      have hE : itF T L (σ 547 7) p = enF T L (nmD T L (nmD T L q)) := by unfold itF; rw [if_neg nb, eq_, if_neg (fun z => z kone), h2_, if_neg (fun zz => zz (by assumption)), hQ]
                      have tq_ : nmS T L (nmD T L (nmD T L q)) < L → σ 550 (nmS T L (nmD T L (nmD T L q))) = T (nmS T L (nmD T L (nmD T L q))) := fun zz => by exact hT _ (by omega) zz
                      have hF : itF T L (σ 547 7) p = nmS T L (nmD T L (nmD T L q)) := by rw [hE]; unfold enF; rw [if_pos (by first | exact Or.inl (by assumption) | (exact Or.inr (by have := tq_ (by omega); omega)))]
                      have nf := nmS_r (T := T) (L := L) (p := q) (by omega)
                      have r8_ : 0 ≤ ((nmS T L (nmD T L (nmD T L q))) + 1) ∧ ((nmS T L (nmD T L (nmD T L q))) + 1) ≤ 203 := by omega
                      have e8 : (yset (yset (yset (yset (yset (yset (yset (yset (yset (yset (yset (yset (yset σ 547 8 q) 547 9 (σ 547 9)) 552 (σ 547 7) (mword l)) 547 8 (nmD T L q)) 547 9 (σ 547 9)) 553 (3 * (σ 547 7)) (nmV T L q)) 547 8 (nmD T L (nmD T L q))) 547 9 (σ 547 9)) 553 ((3 * (σ 547 7)) + 1) (nmV T L (nmD T L q))) 547 8 (nmS T L (nmD T L (nmD T L q)))) 547 9 (nmS T L (nmD T L (nmD T L q)))) 547 8 ((nmS T L (nmD T L (nmD T L q))) + 1)) 547 7 ((σ 547 7) + 1)) 547 8 = ((nmS T L (nmD T L (nmD T L q))) + 1) := (yne (by omega) (yeq _ _ _ _))
                      refine ⟨⟨((yne (by omega) (yne (by omega) (yeq _ _ _ _)))).trans (hF.symm), ((yeq _ _ _ _)).trans (by rfl)⟩, by rw [e8]; exact r8_, fun z_ => ?_, fun x y a b c => by rw [yne (by omega) rfl, yne (by omega) rfl, yne (by omega) rfl, yne (by omega) rfl, yne (by omega) rfl, yne (by omega) rfl, yne (by omega) rfl, yne (by omega) rfl, yne (by omega) rfl, yne (by omega) rfl, yne (by omega) rfl, yne (by omega) rfl, yne (by omega) rfl]⟩
                      exfalso
                      rw [hF] at z_
                      omega
              · exfalso; omega
          · skip
            refine y_iast (n := 120) rfl rfl (by decide) rfl (by omega) ?_
            refine y_aload rfl rfl rfl ?_
            refine y_gfi (v := (nmF T L (nmD T L q))) rfl rfl (by decide) rfl (by decide) rfl (yne (by omega) (yeq _ _ _ _)) ?_
            refine y_push rfl ?_
            refine y_icne rfl (fun q215 => ?_) (fun q215 => ?_)
            · skip
              refine y_aload rfl rfl rfl ?_
              refine y_gfi (v := (nmF T L (nmD T L q))) rfl rfl (by decide) rfl (by decide) rfl (yne (by omega) (yeq _ _ _ _)) ?_
              refine y_push rfl ?_
              refine y_icne rfl (fun q233 => ?_) (fun q233 => ?_)
              · skip
                refine y_aload rfl rfl rfl ?_
                refine y_dup rfl rfl ?_
                refine y_gfi (v := (nmD T L (nmD T L q))) rfl rfl (by decide) rfl (by decide) rfl (yne (by omega) (yne (by omega) (yeq _ _ _ _))) ?_
                refine y_push rfl ?_
                refine y_iadd (v := ((nmD T L (nmD T L q)) + 1)) rfl rfl (by omega) ?_
                refine y_pfi (j := 8) rfl rfl (by decide) rfl rfl rfl rfl rfl ?_
                refine y_aload rfl rfl rfl ?_
                refine y_dup rfl rfl ?_
                refine y_gfi (v := (σ 547 7)) rfl rfl (by decide) rfl (by decide) rfl (yne (by omega) (yne (by omega) (yne (by omega) (yne (by omega) (yne (by omega) (yne (by omega) (yne (by omega) (yne (by omega) (yne (by omega) (yne (by omega) rfl)))))))))) ?_
                refine y_push rfl ?_
                refine y_iadd (v := ((σ 547 7) + 1)) rfl rfl (by omega) ?_
                refine y_pfi (j := 7) rfl rfl (by decide) rfl rfl rfl rfl rfl ?_
                refine y_ret rfl rfl ⟨rfl, ?_⟩
                subst hi
                have it0 : (σ 547 7 = 0 ∨ σ 547 7 ≠ 0) := by omega
                have nb : ¬ itBad T L (σ 547 7) p := by unfold itBad; omega
                have kone : nmF T L q = -1 := by assumption
                have h2_ : itF2 T L p = nmF T L (nmD T L q) := by unfold itF2; rw [if_pos (by omega), eq_]
                have hQ : itQ T L p = nmD T L (nmD T L q) := by unfold itQ; rw [if_pos (by omega), eq_]
                have hF : itF T L (σ 547 7) p = nmF T L (nmD T L q) := by unfold itF; rw [if_neg nb, eq_, if_neg (fun z => z kone), h2_, if_pos (by assumption)]
                have nf := nmS_r (T := T) (L := L) (p := q) (by omega)
                have r8_ : 0 ≤ ((nmD T L (nmD T L q)) + 1) ∧ ((nmD T L (nmD T L q)) + 1) ≤ 203 := by omega
                have e8 : (yset (yset (yset (yset (yset (yset (yset (yset (yset (yset (yset σ 547 8 q) 547 9 (σ 547 9)) 552 (σ 547 7) (mword l)) 547 8 (nmD T L q)) 547 9 (σ 547 9)) 553 (3 * (σ 547 7)) (nmV T L q)) 547 8 (nmD T L (nmD T L q))) 547 9 (nmF T L (nmD T L q))) 553 ((3 * (σ 547 7)) + 1) (nmV T L (nmD T L q))) 547 8 ((nmD T L (nmD T L q)) + 1)) 547 7 ((σ 547 7) + 1)) 547 8 = ((nmD T L (nmD T L q)) + 1) := (yne (by omega) (yeq _ _ _ _))
                refine ⟨⟨((yne (by omega) (yne (by omega) (yne (by omega) (yeq _ _ _ _))))).trans (hF.symm), ((yeq _ _ _ _)).trans (by rfl)⟩, by rw [e8]; exact r8_, fun z_ => ?_, fun x y a b c => by rw [yne (by omega) rfl, yne (by omega) rfl, yne (by omega) rfl, yne (by omega) rfl, yne (by omega) rfl, yne (by omega) rfl, yne (by omega) rfl, yne (by omega) rfl, yne (by omega) rfl, yne (by omega) rfl, yne (by omega) rfl]⟩
                exfalso
                rw [hF] at z_
                omega
              · exfalso; omega
            · exfalso; omega
    · skip
      refine y_iast (n := 120) rfl rfl (by decide) rfl (by omega) ?_
      refine y_aload rfl rfl rfl ?_
      refine y_gfi (v := (nmF T L q)) rfl rfl (by decide) rfl (by decide) rfl (yne (by omega) (yeq _ _ _ _)) ?_
      refine y_push rfl ?_
      refine y_icne rfl (fun q177 => ?_) (fun q177 => ?_)
      · skip
        refine y_aload rfl rfl rfl ?_
        refine y_gfi (v := (nmF T L q)) rfl rfl (by decide) rfl (by decide) rfl (yne (by omega) (yeq _ _ _ _)) ?_
        refine y_push rfl ?_
        refine y_icne rfl (fun q215 => ?_) (fun q215 => ?_)
        · skip
          refine y_aload rfl rfl rfl ?_
          refine y_gfi (v := (nmF T L q)) rfl rfl (by decide) rfl (by decide) rfl (yne (by omega) (yeq _ _ _ _)) ?_
          refine y_push rfl ?_
          refine y_icne rfl (fun q233 => ?_) (fun q233 => ?_)
          · skip
            refine y_aload rfl rfl rfl ?_
            refine y_dup rfl rfl ?_
            refine y_gfi (v := (nmD T L q)) rfl rfl (by decide) rfl (by decide) rfl (yne (by omega) (yne (by omega) (yeq _ _ _ _))) ?_
            refine y_push rfl ?_
            refine y_iadd (v := ((nmD T L q) + 1)) rfl rfl (by omega) ?_
            refine y_pfi (j := 8) rfl rfl (by decide) rfl rfl rfl rfl rfl ?_
            refine y_aload rfl rfl rfl ?_
            refine y_dup rfl rfl ?_
            refine y_gfi (v := (σ 547 7)) rfl rfl (by decide) rfl (by decide) rfl (yne (by omega) (yne (by omega) (yne (by omega) (yne (by omega) (yne (by omega) (yne (by omega) (yne (by omega) rfl))))))) ?_
            refine y_push rfl ?_
            refine y_iadd (v := ((σ 547 7) + 1)) rfl rfl (by omega) ?_
            refine y_pfi (j := 7) rfl rfl (by decide) rfl rfl rfl rfl rfl ?_
            refine y_ret rfl rfl ⟨rfl, ?_⟩
            subst hi
            have it0 : (σ 547 7 = 0 ∨ σ 547 7 ≠ 0) := by omega
            have nb : ¬ itBad T L (σ 547 7) p := by unfold itBad; omega
            have hF : itF T L (σ 547 7) p = nmF T L q := by unfold itF; rw [if_neg nb, eq_, if_pos ka]
            have nf := nmS_r (T := T) (L := L) (p := q) (by omega)
            have r8_ : 0 ≤ ((nmD T L q) + 1) ∧ ((nmD T L q) + 1) ≤ 203 := by omega
            have e8 : (yset (yset (yset (yset (yset (yset (yset (yset σ 547 8 q) 547 9 (σ 547 9)) 552 (σ 547 7) (mword l)) 547 8 (nmD T L q)) 547 9 (nmF T L q)) 553 (3 * (σ 547 7)) (nmV T L q)) 547 8 ((nmD T L q) + 1)) 547 7 ((σ 547 7) + 1)) 547 8 = ((nmD T L q) + 1) := (yne (by omega) (yeq _ _ _ _))
            refine ⟨⟨((yne (by omega) (yne (by omega) (yne (by omega) (yeq _ _ _ _))))).trans (hF.symm), ((yeq _ _ _ _)).trans (by rfl)⟩, by rw [e8]; exact r8_, fun z_ => ?_, fun x y a b c => by rw [yne (by omega) rfl, yne (by omega) rfl, yne (by omega) rfl, yne (by omega) rfl, yne (by omega) rfl, yne (by omega) rfl, yne (by omega) rfl, yne (by omega) rfl]⟩
            exfalso
            rw [hF] at z_
            omega
          · exfalso; omega
        · exfalso; omega
      · exfalso; omega
theorem lm_item3 {g : Launch × XG × va_G} {σ : YS} {T : Int → Int} {L : Int} {p it q l : Int} (hL : σ 547 3 = L) (hT : ∀ k, 0 ≤ k → k < L → σ 550 k = T k) (hTr : ∀ k, 0 ≤ k → k < L → 0 ≤ T k ∧ T k ≤ 255) (hl : 0 ≤ L ∧ L ≤ 200) (ha : σ 547 8 = p) (hp : 0 ≤ p ∧ p ≤ L) (h9 : σ 547 9 = -1) (hi : σ 547 7 = it) (hi2 : 0 ≤ it ∧ it < 40) (hq : p ≤ q ∧ q ≤ L) (eq_ : itE T L p = q) (ew : mword l = lwd T L p) (hng : ¬ itBad T L it p) (hw : lwd T L p = 3) : YW g 125 131 [some (2, 547), some (0, p), some (1, l), none, some (0, (mword l))] [(2, 547)] (yset σ 547 8 q) (fun rv σ' => rv = none ∧ ((σ' 547 9 = itF T L it p ∧ σ' 547 7 = it + 1) ∧ (0 ≤ σ' 547 8 ∧ σ' 547 8 ≤ 203) ∧ (itF T L it p = -1 → σ' 547 8 = itN T L p ∧ σ' 552 it = lwd T L p ∧ σ' 553 (3 * it) = nmV T L (itE T L p) ∧ (lwd T L p = 1 ∨ lwd T L p = 2 → σ' 553 (3 * it + 1) = nmV T L (nmD T L (itE T L p))) ∧ (lwd T L p = 3 → σ' 553 (3 * it + 1) = nmS T L (nmD T L (itE T L p)) + 1 ∧ σ' 553 (3 * it + 2) = sqG T L (nmD T L (itE T L p)) - nmS T L (nmD T L (itE T L p)) - 1)) ∧ (∀ x y, ¬ (x = 547 ∧ 7 ≤ y ∧ y ≤ 9) → ¬ (x = 552 ∧ y = it) → ¬ (x = 553 ∧ 3 * it ≤ y ∧ y ≤ 3 * it + 2) → σ' x y = σ x y))) := by
  have er := nmD_r (T := T) (L := L) (p := q) (by omega)
  have er2 := nmD_r (T := T) (L := L) (p := nmD T L q) (by omega)
  refine y_aload rfl rfl rfl ?_
  refine y_gfi (v := (σ 547 9)) rfl rfl (by decide) rfl (by decide) rfl (yne (by omega) rfl) ?_
  refine y_pfi (j := 9) rfl rfl (by decide) rfl rfl rfl rfl rfl ?_
  refine y_aload rfl rfl rfl ?_
  refine y_gfr (t := 552) rfl rfl (by decide) rfl (by decide) ?_
  refine y_aload rfl rfl rfl ?_
  refine y_gfi (v := (σ 547 7)) rfl rfl (by decide) rfl (by decide) rfl (yne (by omega) (yne (by omega) rfl)) ?_
  refine y_iload rfl rfl ?_
  refine y_iast (n := 40) rfl rfl (by decide) rfl (by omega) ?_
  refine y_aload rfl rfl rfl ?_
  refine y_gfi (v := (σ 547 9)) rfl rfl (by decide) rfl (by decide) rfl (yne (by omega) (yeq _ _ _ _)) ?_
  refine y_push rfl ?_
  refine y_icne rfl (fun q154 => ?_) (fun q154 => ?_)
  · exfalso; omega
  · skip
    refine y_aload rfl rfl rfl ?_
    refine y_gfr (t := 553) rfl rfl (by decide) rfl (by decide) ?_
    refine y_push rfl ?_
    refine y_aload rfl rfl rfl ?_
    refine y_gfi (v := (σ 547 7)) rfl rfl (by decide) rfl (by decide) rfl (yne (by omega) (yne (by omega) (yne (by omega) rfl))) ?_
    refine y_imul (v := (3 * (σ 547 7))) rfl rfl (by omega) ?_
    refine y_aload rfl rfl rfl ?_
    have h9_ : (yset (yset (yset σ 547 8 q) 547 9 (σ 547 9)) 552 (σ 547 7) (mword l)) 547 9 = σ 547 9 := (yne (by omega) (yeq _ _ _ _))
    refine y_vi (as := [(2, 547)]) (S := [(0, (3 * (σ 547 7))), (2, 553)]) rfl rfl rfl rfl rfl rfl (by decide) rfl (m_takeNumber (p := q) (by rw [yne (by omega) rfl, yne (by omega) rfl, yne (by omega) rfl]; exact hL) (fun k a b => by rw [yne (by omega) rfl, yne (by omega) rfl, yne (by omega) rfl]; exact hT k a b) hTr hl (yne (by omega) (yne (by omega) (yeq _ _ _ _))) (by omega)) ?_
    rintro b_ s_ (⟨ka, rfl, rfl⟩ | ⟨ka, rfl, rfl⟩)
    · skip
      rw [h9_]
      refine y_iast (n := 120) rfl rfl (by decide) rfl (by omega) ?_
      refine y_aload rfl rfl rfl ?_
      refine y_gfi (v := (σ 547 9)) rfl rfl (by decide) rfl (by decide) rfl (yne (by omega) (yeq _ _ _ _)) ?_
      refine y_push rfl ?_
      refine y_icne rfl (fun q177 => ?_) (fun q177 => ?_)
      · exfalso; omega
      · skip
        refine y_iload rfl rfl ?_
        refine y_i2l rfl ?_
        refine y_lconst (v := 1) rfl rfl ?_
        refine y_ldc2 (v := 2) rfl rfl ?_
        refine y_si (as := [(1, (mword l)), (1, 1), (1, 2)]) (S := []) rfl rfl rfl rfl rfl rfl m_lies ?_
        rintro _ _ ⟨rfl, rfl⟩
        refine y_ifeq rfl (fun q190 => ?_) (fun q190 => ?_)
        · skip
          replace q190 := yb_0.mp q190
          refine y_aload rfl rfl rfl ?_
          refine y_gfi (v := (σ 547 9)) rfl rfl (by decide) rfl (by decide) rfl (yne (by omega) (yeq _ _ _ _)) ?_
          refine y_push rfl ?_
          refine y_icne rfl (fun q215 => ?_) (fun q215 => ?_)
          · exfalso; omega
          · skip
            refine y_iload rfl rfl ?_
            refine y_push rfl ?_
            refine y_icne rfl (fun q221 => ?_) (fun q221 => ?_)
            · exfalso; omega
            · skip
              refine y_aload rfl rfl rfl ?_
              refine y_vu (as := [(2, 547)]) (S := []) rfl rfl rfl rfl rfl rfl (by decide) rfl (m_takeSigns (p := (nmD T L q)) (it := it) (by rw [yne (by omega) rfl, yne (by omega) rfl, yne (by omega) rfl, yne (by omega) rfl, yne (by omega) rfl, yne (by omega) rfl]; exact hL) (fun k a b => by rw [yne (by omega) rfl, yne (by omega) rfl, yne (by omega) rfl, yne (by omega) rfl, yne (by omega) rfl, yne (by omega) rfl]; exact hT k a b) hTr hl (yne (by omega) (yne (by omega) (yeq _ _ _ _))) (by omega) (by rw [yne (by omega) rfl, yne (by omega) rfl, yne (by omega) rfl, yne (by omega) rfl, yne (by omega) rfl, yne (by omega) rfl]; exact hi) hi2) ?_
              rintro s9 ⟨g1, g2, g3, g4⟩
              have r9 : (yset (yset (yset (yset (yset (yset σ 547 8 q) 547 9 (σ 547 9)) 552 (σ 547 7) (mword l)) 547 8 (nmD T L q)) 547 9 (σ 547 9)) 553 (3 * (σ 547 7)) (nmV T L q)) 547 9 = -1 := by rw [yne (by omega) rfl, yeq]; exact h9
              rw [r9] at g1
              have g37 : s9 547 7 = σ 547 7 := by rw [g3 _ _ (by omega) (by omega), yne (by omega) rfl, yne (by omega) rfl, yne (by omega) rfl, yne (by omega) rfl, yne (by omega) rfl, yne (by omega) rfl]
              refine y_aload rfl rfl rfl ?_
              refine y_gfi (v := (s9 547 9)) rfl rfl (by decide) rfl (by decide) rfl rfl ?_
              refine y_push rfl ?_
              refine y_icne rfl (fun q233 => ?_) (fun q233 => ?_)
              · skip
                refine y_aload rfl rfl rfl ?_
                refine y_dup rfl rfl ?_
                refine y_gfi (v := (s9 547 8)) rfl rfl (by decide) rfl (by decide) rfl rfl ?_
                refine y_push rfl ?_
                refine y_iadd (v := ((s9 547 8) + 1)) rfl rfl (by omega) ?_
                refine y_pfi (j := 8) rfl rfl (by decide) rfl rfl rfl rfl rfl ?_
                refine y_aload rfl rfl rfl ?_
                refine y_dup rfl rfl ?_
                refine y_gfi (v := (s9 547 7)) rfl rfl (by decide) rfl (by decide) rfl (yne (by omega) rfl) ?_
                refine y_push rfl ?_
                refine y_iadd (v := ((s9 547 7) + 1)) rfl rfl (by omega) ?_
                refine y_pfi (j := 7) rfl rfl (by decide) rfl rfl rfl rfl rfl ?_
                refine y_ret rfl rfl ⟨rfl, ?_⟩
                subst hi
                have it0 : (σ 547 7 = 0 ∨ σ 547 7 ≠ 0) := by omega
                have nb : ¬ itBad T L (σ 547 7) p := by unfold itBad; omega
                have kone : nmF T L q = -1 := by assumption
                have h2_ : itF2 T L p = sqF T L (nmD T L q) := by unfold itF2; rw [if_neg (by omega), if_pos (by omega), eq_]
                have hQ : itQ T L p = sqG T L (nmD T L q) + 1 := by unfold itQ; rw [if_neg (by omega), if_pos (by omega), eq_]
                have hs_ : sqF T L (nmD T L q) ≠ -1 := fun zz => by rw [if_pos zz] at g1; omega
                rw [if_neg hs_] at g1
                have hF : itF T L (σ 547 7) p = sqF T L (nmD T L q) := by unfold itF; rw [if_neg nb, eq_, if_neg (fun z => z kone), h2_, if_pos hs_]
                have nf := nmS_r (T := T) (L := L) (p := q) (by omega)
                have r8_ : 0 ≤ ((s9 547 8) + 1) ∧ ((s9 547 8) + 1) ≤ 203 := by omega
                have e8 : (yset (yset s9 547 8 ((s9 547 8) + 1)) 547 7 ((s9 547 7) + 1)) 547 8 = ((s9 547 8) + 1) := (yne (by omega) (yeq _ _ _ _))
                refine ⟨⟨((yne (by omega) (yne (by omega) rfl))).trans (g1.trans hF.symm), ((yeq _ _ _ _)).trans (by rw [g37])⟩, by rw [e8]; exact r8_, fun z_ => ?_, fun x y a b c => by rw [yne (by omega) rfl, yne (by omega) rfl, g3 _ _ (by omega) (by omega), yne (by omega) rfl, yne (by omega) rfl, yne (by omega) rfl, yne (by omega) rfl, yne (by omega) rfl, yne (by omega) rfl]⟩
                exfalso
                rw [hF] at z_
                exact hs_ z_
              · skip
                refine y_aload rfl rfl rfl ?_
                have hsf : sqF T L (nmD T L q) = -1 := by rcases (by omega : sqF T L (nmD T L q) = -1 ∨ sqF T L (nmD T L q) ≠ -1) with z | z; exact z; rw [if_neg z] at g1; omega
                have hso : sqG T L (nmD T L q) < L ∧ 0 ≤ sqG T L (nmD T L q) := by
                  unfold sqF at hsf
                  split at hsf
                  · omega
                  · split at hsf
                    · rename_i z; have := z.2.1; have := nmS_r (T := T) (L := L) (p := (nmD T L q)) (by omega); have := z.2.2.2.1; exact ⟨by assumption, by omega⟩
                    · have := nmS_r (T := T) (L := L) (p := (nmD T L q)) (by omega); omega
                have sr1 := nmS_r (T := T) (L := L) (p := (sqG T L (nmD T L q) + 1)) (by omega)
                refine y_vi (as := [(2, 547)]) (S := []) rfl rfl rfl rfl rfl rfl (by decide) rfl (m_isEnd (p := (sqG T L (nmD T L q) + 1)) (by rw [g3 _ _ (by omega) (by omega), yne (by omega) rfl, yne (by omega) rfl, yne (by omega) rfl, yne (by omega) rfl, yne (by omega) rfl, yne (by omega) rfl]; exact hL) (fun k a b => by rw [g3 _ _ (by omega) (by omega), yne (by omega) rfl, yne (by omega) rfl, yne (by omega) rfl, yne (by omega) rfl, yne (by omega) rfl, yne (by omega) rfl]; exact hT k a b) hTr hl (g2 hsf).1 (by omega)) ?_
                rintro _ _ ⟨rfl, rfl⟩
                refine y_ifne rfl (fun q240 => ?_) (fun q240 => ?_)
                · skip
                  replace q240 := yb_1.mp q240
                  refine y_aload rfl rfl rfl ?_
                  refine y_aload rfl rfl rfl ?_
                  refine y_gfi (v := (nmS T L (sqG T L (nmD T L q) + 1))) rfl rfl (by decide) rfl (by decide) rfl (yeq _ _ _ _) ?_
                  refine y_pfi (j := 9) rfl rfl (by decide) rfl rfl rfl rfl rfl ?_
                  refine y_aload rfl rfl rfl ?_
                  refine y_dup rfl rfl ?_
                  refine y_gfi (v := (nmS T L (sqG T L (nmD T L q) + 1))) rfl rfl (by decide) rfl (by decide) rfl (yne (by omega) (yeq _ _ _ _)) ?_
                  refine y_push rfl ?_
                  refine y_iadd (v := ((nmS T L (sqG T L (nmD T L q) + 1)) + 1)) rfl rfl (by omega) ?_
                  refine y_pfi (j := 8) rfl rfl (by decide) rfl rfl rfl rfl rfl ?_
                  refine y_aload rfl rfl rfl ?_
                  refine y_dup rfl rfl ?_
                  refine y_gfi (v := (s9 547 7)) rfl rfl (by decide) rfl (by decide) rfl (yne (by omega) (yne (by omega) (yne (by omega) rfl))) ?_
                  refine y_push rfl ?_
                  refine y_iadd (v := ((s9 547 7) + 1)) rfl rfl (by omega) ?_
                  refine y_pfi (j := 7) rfl rfl (by decide) rfl rfl rfl rfl rfl ?_
                  refine y_ret rfl rfl ⟨rfl, ?_⟩
                  subst hi
                  have it0 : (σ 547 7 = 0 ∨ σ 547 7 ≠ 0) := by omega
                  have nb : ¬ itBad T L (σ 547 7) p := by unfold itBad; omega
                  have kone : nmF T L q = -1 := by assumption
                  have h2_ : itF2 T L p = sqF T L (nmD T L q) := by unfold itF2; rw [if_neg (by omega), if_pos (by omega), eq_]
                  have hQ : itQ T L p = sqG T L (nmD T L q) + 1 := by unfold itQ; rw [if_neg (by omega), if_pos (by omega), eq_]
                  have sr_ := nmS_r (T := T) (L := L) (p := (sqG T L (nmD T L q) + 1)) (by omega)
                  have hE : itF T L (σ 547 7) p = enF T L (sqG T L (nmD T L q) + 1) := by unfold itF; rw [if_neg nb, eq_, if_neg (fun z => z kone), h2_, if_neg (fun zz => zz hsf), hQ]
                  have tq_ : nmS T L (sqG T L (nmD T L q) + 1) < L → s9 550 (nmS T L (sqG T L (nmD T L q) + 1)) = T (nmS T L (sqG T L (nmD T L q) + 1)) := fun zz => by rw [g3 _ _ (by omega) (by omega), yne (by omega) rfl, yne (by omega) rfl, yne (by omega) rfl, yne (by omega) rfl, yne (by omega) rfl, yne (by omega) rfl]; exact hT _ (by omega) zz
                  have hF : itF T L (σ 547 7) p = nmS T L (sqG T L (nmD T L q) + 1) := by rw [hE]; unfold enF; rw [if_pos (by first | exact Or.inl (by assumption) | (exact Or.inr (by have := tq_ (by omega); omega)))]
                  have nf := nmS_r (T := T) (L := L) (p := q) (by omega)
                  have r8_ : 0 ≤ ((nmS T L (sqG T L (nmD T L q) + 1)) + 1) ∧ ((nmS T L (sqG T L (nmD T L q) + 1)) + 1) ≤ 203 := by omega
                  have e8 : (yset (yset (yset (yset s9 547 8 (nmS T L (sqG T L (nmD T L q) + 1))) 547 9 (nmS T L (sqG T L (nmD T L q) + 1))) 547 8 ((nmS T L (sqG T L (nmD T L q) + 1)) + 1)) 547 7 ((s9 547 7) + 1)) 547 8 = ((nmS T L (sqG T L (nmD T L q) + 1)) + 1) := (yne (by omega) (yeq _ _ _ _))
                  refine ⟨⟨((yne (by omega) (yne (by omega) (yeq _ _ _ _)))).trans (hF.symm), ((yeq _ _ _ _)).trans (by rw [g37])⟩, by rw [e8]; exact r8_, fun z_ => ?_, fun x y a b c => by rw [yne (by omega) rfl, yne (by omega) rfl, yne (by omega) rfl, yne (by omega) rfl, g3 _ _ (by omega) (by omega), yne (by omega) rfl, yne (by omega) rfl, yne (by omega) rfl, yne (by omega) rfl, yne (by omega) rfl, yne (by omega) rfl]⟩
                  exfalso
                  rw [hF] at z_
                  omega
                · skip
                  replace q240 := yb_0.mp q240
                  refine y_aload rfl rfl rfl ?_
                  refine y_gfr (t := 550) rfl rfl (by decide) rfl (by decide) ?_
                  refine y_aload rfl rfl rfl ?_
                  refine y_gfi (v := (nmS T L (sqG T L (nmD T L q) + 1))) rfl rfl (by decide) rfl (by decide) rfl (yeq _ _ _ _) ?_
                  refine y_iald (v := (s9 550 (nmS T L (sqG T L (nmD T L q) + 1)))) (n := 200) rfl rfl (by decide) rfl (by omega) (yne (by omega) rfl) ?_
                  refine y_push rfl ?_
                  refine y_iceq rfl (fun q254 => ?_) (fun q254 => ?_)
                  · skip
                    refine y_aload rfl rfl rfl ?_
                    refine y_dup rfl rfl ?_
                    refine y_gfi (v := (nmS T L (sqG T L (nmD T L q) + 1))) rfl rfl (by decide) rfl (by decide) rfl (yeq _ _ _ _) ?_
                    refine y_push rfl ?_
                    refine y_iadd (v := ((nmS T L (sqG T L (nmD T L q) + 1)) + 1)) rfl rfl (by omega) ?_
                    refine y_pfi (j := 8) rfl rfl (by decide) rfl rfl rfl rfl rfl ?_
                    refine y_aload rfl rfl rfl ?_
                    refine y_dup rfl rfl ?_
                    refine y_gfi (v := (s9 547 7)) rfl rfl (by decide) rfl (by decide) rfl (yne (by omega) (yne (by omega) rfl)) ?_
                    refine y_push rfl ?_
                    refine y_iadd (v := ((s9 547 7) + 1)) rfl rfl (by omega) ?_
                    refine y_pfi (j := 7) rfl rfl (by decide) rfl rfl rfl rfl rfl ?_
                    refine y_ret rfl rfl ⟨rfl, ?_⟩
                    subst hi
                    have it0 : (σ 547 7 = 0 ∨ σ 547 7 ≠ 0) := by omega
                    have nb : ¬ itBad T L (σ 547 7) p := by unfold itBad; omega
                    have kone : nmF T L q = -1 := by assumption
                    have h2_ : itF2 T L p = sqF T L (nmD T L q) := by unfold itF2; rw [if_neg (by omega), if_pos (by omega), eq_]
                    have hQ : itQ T L p = sqG T L (nmD T L q) + 1 := by unfold itQ; rw [if_neg (by omega), if_pos (by omega), eq_]
                    have sr_ := nmS_r (T := T) (L := L) (p := (sqG T L (nmD T L q) + 1)) (by omega)
                    have hE : itF T L (σ 547 7) p = enF T L (sqG T L (nmD T L q) + 1) := by unfold itF; rw [if_neg nb, eq_, if_neg (fun z => z kone), h2_, if_neg (fun zz => zz hsf), hQ]
                    have tq_ : nmS T L (sqG T L (nmD T L q) + 1) < L → s9 550 (nmS T L (sqG T L (nmD T L q) + 1)) = T (nmS T L (sqG T L (nmD T L q) + 1)) := fun zz => by rw [g3 _ _ (by omega) (by omega), yne (by omega) rfl, yne (by omega) rfl, yne (by omega) rfl, yne (by omega) rfl, yne (by omega) rfl, yne (by omega) rfl]; exact hT _ (by omega) zz
                    have hF : itF T L (σ 547 7) p = -1 := by rw [hE]; unfold enF; rw [if_neg (by have := tq_ (by omega); omega)]
                    have nf := nmS_r (T := T) (L := L) (p := q) (by omega)
                    have r8_ : 0 ≤ ((nmS T L (sqG T L (nmD T L q) + 1)) + 1) ∧ ((nmS T L (sqG T L (nmD T L q) + 1)) + 1) ≤ 203 := by omega
                    have e8 : (yset (yset (yset s9 547 8 (nmS T L (sqG T L (nmD T L q) + 1))) 547 8 ((nmS T L (sqG T L (nmD T L q) + 1)) + 1)) 547 7 ((s9 547 7) + 1)) 547 8 = ((nmS T L (sqG T L (nmD T L q) + 1)) + 1) := (yne (by omega) (yeq _ _ _ _))
                    refine ⟨⟨((yne (by omega) (yne (by omega) (yne (by omega) rfl)))).trans ((by rw [g1, if_pos hsf] : s9 547 9 = -1).trans hF.symm), ((yeq _ _ _ _)).trans (by rw [g37])⟩, by rw [e8]; exact r8_, fun z_ => ?_, fun x y a b c => by rw [yne (by omega) rfl, yne (by omega) rfl, yne (by omega) rfl, g3 _ _ (by omega) (by omega), yne (by omega) rfl, yne (by omega) rfl, yne (by omega) rfl, yne (by omega) rfl, yne (by omega) rfl, yne (by omega) rfl]⟩
                    have hN : itN T L p = nmS T L (sqG T L (nmD T L q) + 1) + 1 := by unfold itN; rw [hQ]
                    refine ⟨e8.trans hN.symm, ?_, ?_, fun c1 => ?_, fun c3 => ?_⟩
                    · rw [yne (by omega) rfl, yne (by omega) rfl, yne (by omega) rfl, g3 _ _ (by omega) (by omega), yne (by omega) rfl, yne (by omega) rfl, yne (by omega) rfl, yeq]; exact ew
                    · rw [yne (by omega) rfl, yne (by omega) rfl, yne (by omega) rfl, g3 _ _ (by omega) (by omega), yeq]; rw [eq_]
                    · exfalso; omega
                    · rw [eq_]; have g2_ := g2 hsf; exact ⟨by rw [yne (by omega) rfl, yne (by omega) rfl, yne (by omega) rfl]; exact g2_.2.1, by rw [yne (by omega) rfl, yne (by omega) rfl, yne (by omega) rfl]; exact g2_.2.2⟩
                  · skip
                    refine y_aload rfl rfl rfl ?_
                    refine y_aload rfl rfl rfl ?_
                    refine y_gfi (v := (nmS T L (sqG T L (nmD T L q) + 1))) rfl rfl (by decide) rfl (by decide) rfl (yeq _ _ _ _) ?_
                    refine y_pfi (j := 9) rfl rfl (by decide) rfl rfl rfl rfl rfl ?_
                    refine y_aload rfl rfl rfl ?_
                    refine y_dup rfl rfl ?_
                    refine y_gfi (v := (nmS T L (sqG T L (nmD T L q) + 1))) rfl rfl (by decide) rfl (by decide) rfl (yne (by omega) (yeq _ _ _ _)) ?_
                    refine y_push rfl ?_
                    refine y_iadd (v := ((nmS T L (sqG T L (nmD T L q) + 1)) + 1)) rfl rfl (by omega) ?_
                    refine y_pfi (j := 8) rfl rfl (by decide) rfl rfl rfl rfl rfl ?_
                    refine y_aload rfl rfl rfl ?_
                    refine y_dup rfl rfl ?_
                    refine y_gfi (v := (s9 547 7)) rfl rfl (by decide) rfl (by decide) rfl (yne (by omega) (yne (by omega) (yne (by omega) rfl))) ?_
                    refine y_push rfl ?_
                    refine y_iadd (v := ((s9 547 7) + 1)) rfl rfl (by omega) ?_
                    refine y_pfi (j := 7) rfl rfl (by decide) rfl rfl rfl rfl rfl ?_
                    refine y_ret rfl rfl ⟨rfl, ?_⟩
                    subst hi
                    have it0 : (σ 547 7 = 0 ∨ σ 547 7 ≠ 0) := by omega
                    have nb : ¬ itBad T L (σ 547 7) p := by unfold itBad; omega
                    have kone : nmF T L q = -1 := by assumption
                    have h2_ : itF2 T L p = sqF T L (nmD T L q) := by unfold itF2; rw [if_neg (by omega), if_pos (by omega), eq_]
                    have hQ : itQ T L p = sqG T L (nmD T L q) + 1 := by unfold itQ; rw [if_neg (by omega), if_pos (by omega), eq_]
                    have sr_ := nmS_r (T := T) (L := L) (p := (sqG T L (nmD T L q) + 1)) (by omega)
                    have hE : itF T L (σ 547 7) p = enF T L (sqG T L (nmD T L q) + 1) := by unfold itF; rw [if_neg nb, eq_, if_neg (fun z => z kone), h2_, if_neg (fun zz => zz hsf), hQ]
                    have tq_ : nmS T L (sqG T L (nmD T L q) + 1) < L → s9 550 (nmS T L (sqG T L (nmD T L q) + 1)) = T (nmS T L (sqG T L (nmD T L q) + 1)) := fun zz => by rw [g3 _ _ (by omega) (by omega), yne (by omega) rfl, yne (by omega) rfl, yne (by omega) rfl, yne (by omega) rfl, yne (by omega) rfl, yne (by omega) rfl]; exact hT _ (by omega) zz
                    have hF : itF T L (σ 547 7) p = nmS T L (sqG T L (nmD T L q) + 1) := by rw [hE]; unfold enF; rw [if_pos (by first | exact Or.inl (by assumption) | (exact Or.inr (by have := tq_ (by omega); omega)))]
                    have nf := nmS_r (T := T) (L := L) (p := q) (by omega)
                    have r8_ : 0 ≤ ((nmS T L (sqG T L (nmD T L q) + 1)) + 1) ∧ ((nmS T L (sqG T L (nmD T L q) + 1)) + 1) ≤ 203 := by omega
                    have e8 : (yset (yset (yset (yset s9 547 8 (nmS T L (sqG T L (nmD T L q) + 1))) 547 9 (nmS T L (sqG T L (nmD T L q) + 1))) 547 8 ((nmS T L (sqG T L (nmD T L q) + 1)) + 1)) 547 7 ((s9 547 7) + 1)) 547 8 = ((nmS T L (sqG T L (nmD T L q) + 1)) + 1) := (yne (by omega) (yeq _ _ _ _))
                    refine ⟨⟨((yne (by omega) (yne (by omega) (yeq _ _ _ _)))).trans (hF.symm), ((yeq _ _ _ _)).trans (by rw [g37])⟩, by rw [e8]; exact r8_, fun z_ => ?_, fun x y a b c => by rw [yne (by omega) rfl, yne (by omega) rfl, yne (by omega) rfl, yne (by omega) rfl, g3 _ _ (by omega) (by omega), yne (by omega) rfl, yne (by omega) rfl, yne (by omega) rfl, yne (by omega) rfl, yne (by omega) rfl, yne (by omega) rfl]⟩
                    exfalso
                    rw [hF] at z_
                    omega
        · replace q190 := yb_1.mp q190
          exfalso; omega
    · skip
      refine y_iast (n := 120) rfl rfl (by decide) rfl (by omega) ?_
      refine y_aload rfl rfl rfl ?_
      refine y_gfi (v := (nmF T L q)) rfl rfl (by decide) rfl (by decide) rfl (yne (by omega) (yeq _ _ _ _)) ?_
      refine y_push rfl ?_
      refine y_icne rfl (fun q177 => ?_) (fun q177 => ?_)
      · skip
        refine y_aload rfl rfl rfl ?_
        refine y_gfi (v := (nmF T L q)) rfl rfl (by decide) rfl (by decide) rfl (yne (by omega) (yeq _ _ _ _)) ?_
        refine y_push rfl ?_
        refine y_icne rfl (fun q215 => ?_) (fun q215 => ?_)
        · skip
          refine y_aload rfl rfl rfl ?_
          refine y_gfi (v := (nmF T L q)) rfl rfl (by decide) rfl (by decide) rfl (yne (by omega) (yeq _ _ _ _)) ?_
          refine y_push rfl ?_
          refine y_icne rfl (fun q233 => ?_) (fun q233 => ?_)
          · skip
            refine y_aload rfl rfl rfl ?_
            refine y_dup rfl rfl ?_
            refine y_gfi (v := (nmD T L q)) rfl rfl (by decide) rfl (by decide) rfl (yne (by omega) (yne (by omega) (yeq _ _ _ _))) ?_
            refine y_push rfl ?_
            refine y_iadd (v := ((nmD T L q) + 1)) rfl rfl (by omega) ?_
            refine y_pfi (j := 8) rfl rfl (by decide) rfl rfl rfl rfl rfl ?_
            refine y_aload rfl rfl rfl ?_
            refine y_dup rfl rfl ?_
            refine y_gfi (v := (σ 547 7)) rfl rfl (by decide) rfl (by decide) rfl (yne (by omega) (yne (by omega) (yne (by omega) (yne (by omega) (yne (by omega) (yne (by omega) (yne (by omega) rfl))))))) ?_
            refine y_push rfl ?_
            refine y_iadd (v := ((σ 547 7) + 1)) rfl rfl (by omega) ?_
            refine y_pfi (j := 7) rfl rfl (by decide) rfl rfl rfl rfl rfl ?_
            refine y_ret rfl rfl ⟨rfl, ?_⟩
            subst hi
            have it0 : (σ 547 7 = 0 ∨ σ 547 7 ≠ 0) := by omega
            have nb : ¬ itBad T L (σ 547 7) p := by unfold itBad; omega
            have hF : itF T L (σ 547 7) p = nmF T L q := by unfold itF; rw [if_neg nb, eq_, if_pos ka]
            have nf := nmS_r (T := T) (L := L) (p := q) (by omega)
            have r8_ : 0 ≤ ((nmD T L q) + 1) ∧ ((nmD T L q) + 1) ≤ 203 := by omega
            have e8 : (yset (yset (yset (yset (yset (yset (yset (yset σ 547 8 q) 547 9 (σ 547 9)) 552 (σ 547 7) (mword l)) 547 8 (nmD T L q)) 547 9 (nmF T L q)) 553 (3 * (σ 547 7)) (nmV T L q)) 547 8 ((nmD T L q) + 1)) 547 7 ((σ 547 7) + 1)) 547 8 = ((nmD T L q) + 1) := (yne (by omega) (yeq _ _ _ _))
            refine ⟨⟨((yne (by omega) (yne (by omega) (yne (by omega) (yeq _ _ _ _))))).trans (hF.symm), ((yeq _ _ _ _)).trans (by rfl)⟩, by rw [e8]; exact r8_, fun z_ => ?_, fun x y a b c => by rw [yne (by omega) rfl, yne (by omega) rfl, yne (by omega) rfl, yne (by omega) rfl, yne (by omega) rfl, yne (by omega) rfl, yne (by omega) rfl, yne (by omega) rfl]⟩
            exfalso
            rw [hF] at z_
            omega
          · exfalso; omega
        · exfalso; omega
      · exfalso; omega
theorem lm_takeItem {g : Launch × XG × va_G} {σ : YS} {T : Int → Int} {L : Int} {p it : Int} (hL : σ 547 3 = L) (hT : ∀ k, 0 ≤ k → k < L → σ 550 k = T k) (hTr : ∀ k, 0 ≤ k → k < L → 0 ≤ T k ∧ T k ≤ 255) (hl : 0 ≤ L ∧ L ≤ 200) (ha : σ 547 8 = p) (hp : 0 ≤ p ∧ p ≤ L) (h9 : σ 547 9 = -1) (hi : σ 547 7 = it) (hi2 : 0 ≤ it ∧ it < 40) : ∀ (nn : Nat) (q : Int) (l : Int), L - q < (nn : Int) → (p ≤ q ∧ q ≤ L) → (rend isLet T L q = rend isLet T L p) → (∀ k, p ≤ k → k < q → 97 ≤ T k ∧ T k ≤ 122) → (l = lcode T p (min (q - p) 7).toNat) → YW g 125 7 [some (2, 547), some (0, p), some (1, l), none, none] [] (yset σ 547 8 q) (fun rv σ' => rv = none ∧ ((σ' 547 9 = itF T L it p ∧ σ' 547 7 = it + 1) ∧ (0 ≤ σ' 547 8 ∧ σ' 547 8 ≤ 203) ∧ (itF T L it p = -1 → σ' 547 8 = itN T L p ∧ σ' 552 it = lwd T L p ∧ σ' 553 (3 * it) = nmV T L (itE T L p) ∧ (lwd T L p = 1 ∨ lwd T L p = 2 → σ' 553 (3 * it + 1) = nmV T L (nmD T L (itE T L p))) ∧ (lwd T L p = 3 → σ' 553 (3 * it + 1) = nmS T L (nmD T L (itE T L p)) + 1 ∧ σ' 553 (3 * it + 2) = sqG T L (nmD T L (itE T L p)) - nmS T L (nmD T L (itE T L p)) - 1)) ∧ (∀ x y, ¬ (x = 547 ∧ 7 ≤ y ∧ y ≤ 9) → ¬ (x = 552 ∧ y = it) → ¬ (x = 553 ∧ 3 * it ≤ y ∧ y ≤ 3 * it + 2) → σ' x y = σ x y))) := by
  intro nn
  induction nn with
  | zero =>
    intro q l hn h0 h1 h2 h3
    exfalso
    omega
  | succ nn ih =>
    intro q l hn h0 h1 h2 h3
    refine y_aload rfl rfl rfl ?_
    refine y_gfi (v := q) rfl rfl (by decide) rfl (by decide) rfl (yeq _ _ _ _) ?_
    refine y_aload rfl rfl rfl ?_
    refine y_gfi (v := (σ 547 3)) rfl rfl (by decide) rfl (by decide) rfl (yne (by omega) rfl) ?_
    refine y_icge rfl (fun q15 => ?_) (fun q15 => ?_)
    · skip
      have e : rend isLet T L q = q := rend_at (fun z => by have z2 := z.2; unfold isLet at z2; have z3 := of_decide_eq_true z2; first | omega | (have := hT q (by omega) (by omega); omega))
      have eq_ : itE T L p = q := by unfold itE; rw [← h1, e]
      have ew := lwd_of (T := T) (L := L) (p := p) (q := q) (by rw [← h1, e])
      rw [← h3] at ew
      refine y_lload rfl rfl ?_
      refine y_si (as := [(1, l)]) (S := []) rfl rfl rfl rfl rfl rfl m_wordOf ?_
      rintro _ _ ⟨rfl, rfl⟩
      refine y_istore (L' := [some (2, 547), some (0, p), some (1, l), none, some (0, (mword l))]) rfl rfl rfl rfl ?_
      refine y_aload rfl rfl rfl ?_
      refine y_iload rfl rfl ?_
      refine y_push rfl ?_
      refine y_iceq rfl (fun q99 => ?_) (fun q99 => ?_)
      · skip
        exact lm_itemBad hL hT hTr hl ha hp h9 hi hi2 h0 eq_ ew (by unfold itBad; omega)
      · skip
        refine y_iload rfl rfl ?_
        refine y_ifne rfl (fun q104 => ?_) (fun q104 => ?_)
        · skip
          refine y_push rfl ?_
          refine y_aload rfl rfl rfl ?_
          refine y_gfi (v := (σ 547 7)) rfl rfl (by decide) rfl (by decide) rfl (yne (by omega) rfl) ?_
          refine y_ifne rfl (fun q116 => ?_) (fun q116 => ?_)
          · skip
            refine y_push rfl ?_
            refine y_iceq rfl (fun q124 => ?_) (fun q124 => ?_)
            · skip
              have hng : ¬ itBad T L it p := by unfold itBad; omega
              rcases (by omega : (lwd T L p ≠ 1 ∧ lwd T L p ≠ 2 ∧ lwd T L p ≠ 3) ∨ (lwd T L p = 1 ∨ lwd T L p = 2) ∨ lwd T L p = 3) with hw | hw | hw
              · exact lm_item0 hL hT hTr hl ha hp h9 hi hi2 h0 eq_ ew hng hw
              · exact lm_item12 hL hT hTr hl ha hp h9 hi hi2 h0 eq_ ew hng hw
              · exact lm_item3 hL hT hTr hl ha hp h9 hi hi2 h0 eq_ ew hng hw
            · exfalso; omega
          · skip
            refine y_push rfl ?_
            refine y_goto rfl ?_
            refine y_iceq rfl (fun q124 => ?_) (fun q124 => ?_)
            · exfalso; omega
            · skip
              exact lm_itemBad hL hT hTr hl ha hp h9 hi hi2 h0 eq_ ew (by unfold itBad; omega)
        · skip
          refine y_push rfl ?_
          refine y_goto rfl ?_
          refine y_aload rfl rfl rfl ?_
          refine y_gfi (v := (σ 547 7)) rfl rfl (by decide) rfl (by decide) rfl (yne (by omega) rfl) ?_
          refine y_ifne rfl (fun q116 => ?_) (fun q116 => ?_)
          · skip
            refine y_push rfl ?_
            refine y_iceq rfl (fun q124 => ?_) (fun q124 => ?_)
            · exfalso; omega
            · skip
              exact lm_itemBad hL hT hTr hl ha hp h9 hi hi2 h0 eq_ ew (by unfold itBad; omega)
          · skip
            refine y_push rfl ?_
            refine y_goto rfl ?_
            refine y_iceq rfl (fun q124 => ?_) (fun q124 => ?_)
            · skip
              have hng : ¬ itBad T L it p := by unfold itBad; omega
              rcases (by omega : (lwd T L p ≠ 1 ∧ lwd T L p ≠ 2 ∧ lwd T L p ≠ 3) ∨ (lwd T L p = 1 ∨ lwd T L p = 2) ∨ lwd T L p = 3) with hw | hw | hw
              · exact lm_item0 hL hT hTr hl ha hp h9 hi hi2 h0 eq_ ew hng hw
              · exact lm_item12 hL hT hTr hl ha hp h9 hi hi2 h0 eq_ ew hng hw
              · exact lm_item3 hL hT hTr hl ha hp h9 hi hi2 h0 eq_ ew hng hw
            · exfalso; omega
    · skip
      have tq := hT q (by omega) (by omega)
      have tr := hTr q (by omega) (by omega)
      refine y_aload rfl rfl rfl ?_
      refine y_gfr (t := 550) rfl rfl (by decide) rfl (by decide) ?_
      refine y_aload rfl rfl rfl ?_
      refine y_gfi (v := q) rfl rfl (by decide) rfl (by decide) rfl (yeq _ _ _ _) ?_
      refine y_iald (v := (σ 550 q)) (n := 200) rfl rfl (by decide) rfl (by omega) (yne (by omega) rfl) ?_
      refine y_i2l rfl ?_
      refine y_ldc2 (v := 97) rfl rfl ?_
      refine y_ldc2 (v := 122) rfl rfl ?_
      refine y_si (as := [(1, (σ 550 q)), (1, 97), (1, 122)]) (S := []) rfl rfl rfl rfl rfl rfl m_lies ?_
      rintro _ _ ⟨rfl, rfl⟩
      refine y_ifeq rfl (fun q37 => ?_) (fun q37 => ?_)
      · skip
        replace q37 := yb_0.mp q37
        have e : rend isLet T L q = q := rend_at (fun z => by have z2 := z.2; unfold isLet at z2; have z3 := of_decide_eq_true z2; first | omega | (have := hT q (by omega) (by omega); omega))
        have eq_ : itE T L p = q := by unfold itE; rw [← h1, e]
        have ew := lwd_of (T := T) (L := L) (p := p) (q := q) (by rw [← h1, e])
        rw [← h3] at ew
        refine y_lload rfl rfl ?_
        refine y_si (as := [(1, l)]) (S := []) rfl rfl rfl rfl rfl rfl m_wordOf ?_
        rintro _ _ ⟨rfl, rfl⟩
        refine y_istore (L' := [some (2, 547), some (0, p), some (1, l), none, some (0, (mword l))]) rfl rfl rfl rfl ?_
        refine y_aload rfl rfl rfl ?_
        refine y_iload rfl rfl ?_
        refine y_push rfl ?_
        refine y_iceq rfl (fun q99 => ?_) (fun q99 => ?_)
        · skip
          exact lm_itemBad hL hT hTr hl ha hp h9 hi hi2 h0 eq_ ew (by unfold itBad; omega)
        · skip
          refine y_iload rfl rfl ?_
          refine y_ifne rfl (fun q104 => ?_) (fun q104 => ?_)
          · skip
            refine y_push rfl ?_
            refine y_aload rfl rfl rfl ?_
            refine y_gfi (v := (σ 547 7)) rfl rfl (by decide) rfl (by decide) rfl (yne (by omega) rfl) ?_
            refine y_ifne rfl (fun q116 => ?_) (fun q116 => ?_)
            · skip
              refine y_push rfl ?_
              refine y_iceq rfl (fun q124 => ?_) (fun q124 => ?_)
              · skip
                have hng : ¬ itBad T L it p := by unfold itBad; omega
                rcases (by omega : (lwd T L p ≠ 1 ∧ lwd T L p ≠ 2 ∧ lwd T L p ≠ 3) ∨ (lwd T L p = 1 ∨ lwd T L p = 2) ∨ lwd T L p = 3) with hw | hw | hw
                · exact lm_item0 hL hT hTr hl ha hp h9 hi hi2 h0 eq_ ew hng hw
                · exact lm_item12 hL hT hTr hl ha hp h9 hi hi2 h0 eq_ ew hng hw
                · exact lm_item3 hL hT hTr hl ha hp h9 hi hi2 h0 eq_ ew hng hw
              · exfalso; omega
            · skip
              refine y_push rfl ?_
              refine y_goto rfl ?_
              refine y_iceq rfl (fun q124 => ?_) (fun q124 => ?_)
              · exfalso; omega
              · skip
                exact lm_itemBad hL hT hTr hl ha hp h9 hi hi2 h0 eq_ ew (by unfold itBad; omega)
          · skip
            refine y_push rfl ?_
            refine y_goto rfl ?_
            refine y_aload rfl rfl rfl ?_
            refine y_gfi (v := (σ 547 7)) rfl rfl (by decide) rfl (by decide) rfl (yne (by omega) rfl) ?_
            refine y_ifne rfl (fun q116 => ?_) (fun q116 => ?_)
            · skip
              refine y_push rfl ?_
              refine y_iceq rfl (fun q124 => ?_) (fun q124 => ?_)
              · exfalso; omega
              · skip
                exact lm_itemBad hL hT hTr hl ha hp h9 hi hi2 h0 eq_ ew (by unfold itBad; omega)
            · skip
              refine y_push rfl ?_
              refine y_goto rfl ?_
              refine y_iceq rfl (fun q124 => ?_) (fun q124 => ?_)
              · skip
                have hng : ¬ itBad T L it p := by unfold itBad; omega
                rcases (by omega : (lwd T L p ≠ 1 ∧ lwd T L p ≠ 2 ∧ lwd T L p ≠ 3) ∨ (lwd T L p = 1 ∨ lwd T L p = 2) ∨ lwd T L p = 3) with hw | hw | hw
                · exact lm_item0 hL hT hTr hl ha hp h9 hi hi2 h0 eq_ ew hng hw
                · exact lm_item12 hL hT hTr hl ha hp h9 hi hi2 h0 eq_ ew hng hw
                · exact lm_item3 hL hT hTr hl ha hp h9 hi hi2 h0 eq_ ew hng hw
              · exfalso; omega
      · skip
        replace q37 := yb_1.mp q37
        refine y_aload rfl rfl rfl ?_
        refine y_gfi (v := q) rfl rfl (by decide) rfl (by decide) rfl (yeq _ _ _ _) ?_
        refine y_iload rfl rfl ?_
        refine y_isub (v := (q - p)) rfl rfl (by omega) ?_
        refine y_push rfl ?_
        refine y_icge rfl (fun q48 => ?_) (fun q48 => ?_)
        · skip
          refine y_lload rfl rfl ?_
          refine y_lstore (L' := [some (2, 547), some (0, p), some (1, l), none, none]) rfl rfl rfl rfl ?_
          refine y_aload rfl rfl rfl ?_
          refine y_dup rfl rfl ?_
          refine y_gfi (v := q) rfl rfl (by decide) rfl (by decide) rfl (yeq _ _ _ _) ?_
          refine y_push rfl ?_
          refine y_iadd (v := (q + 1)) rfl rfl (by omega) ?_
          refine y_pfi (j := 8) rfl rfl (by decide) rfl rfl rfl rfl rfl ?_
          refine y_goto rfl ?_
          rw [show (yset (yset σ 547 8 q) 547 8 (q + 1)) = yset σ 547 8 (q + 1) from by simp only [yset_2]]
          refine ih (q + 1) _ (by omega) (by omega) ?_ (fun k a b => by rcases (by omega : k < q ∨ k = q) with z | rfl; exact h2 k a z; omega) ?_
          · rw [← h1]
            exact (rend_go (by omega) (by unfold isLet; exact decide_eq_true (by omega))).symm
          · rw [h3, show (min (q + 1 - p) 7).toNat = (min (q - p) 7).toNat by omega]
        · skip
          have lb := lcode_r (T := T) (p := p) (min (q - p) 7).toNat (by omega) (fun k a => h2 (p + k) (by omega) (by omega))
          have pb : ((32 : Int) ^ (min (q - p) 7).toNat) ≤ 34359738368 := by
            rcases (by omega : (min (q - p) 7).toNat = 0 ∨ (min (q - p) 7).toNat = 1 ∨ (min (q - p) 7).toNat = 2 ∨ (min (q - p) 7).toNat = 3 ∨ (min (q - p) 7).toNat = 4 ∨ (min (q - p) 7).toNat = 5 ∨ (min (q - p) 7).toNat = 6 ∨ (min (q - p) 7).toNat = 7) with z | z | z | z | z | z | z | z <;> rw [z] <;> decide
          rw [← h3] at lb
          refine y_ldc2 (v := 32) rfl rfl ?_
          refine y_lload rfl rfl ?_
          refine y_lmul (v := (32 * l)) rfl (ylmul_e (by omega) (by omega) (by omega)) ?_
          refine y_aload rfl rfl rfl ?_
          refine y_gfr (t := 550) rfl rfl (by decide) rfl (by decide) ?_
          refine y_aload rfl rfl rfl ?_
          refine y_gfi (v := q) rfl rfl (by decide) rfl (by decide) rfl (yeq _ _ _ _) ?_
          refine y_iald (v := (σ 550 q)) (n := 200) rfl rfl (by decide) rfl (by omega) (yne (by omega) rfl) ?_
          refine y_i2l rfl ?_
          refine y_ladd (v := (32 * l + (σ 550 q))) rfl (yladd_e (by omega) (by omega) (by omega)) ?_
          refine y_ldc2 (v := 96) rfl rfl ?_
          refine y_lsub (v := (32 * l + (σ 550 q) - 96)) rfl (ylsub_e (by omega) (by omega) (by omega)) ?_
          refine y_goto rfl ?_
          refine y_lstore (L' := [some (2, 547), some (0, p), some (1, (32 * l + (σ 550 q) - 96)), none, none]) rfl rfl rfl rfl ?_
          refine y_aload rfl rfl rfl ?_
          refine y_dup rfl rfl ?_
          refine y_gfi (v := q) rfl rfl (by decide) rfl (by decide) rfl (yeq _ _ _ _) ?_
          refine y_push rfl ?_
          refine y_iadd (v := (q + 1)) rfl rfl (by omega) ?_
          refine y_pfi (j := 8) rfl rfl (by decide) rfl rfl rfl rfl rfl ?_
          refine y_goto rfl ?_
          rw [show (yset (yset σ 547 8 q) 547 8 (q + 1)) = yset σ 547 8 (q + 1) from by simp only [yset_2]]
          refine ih (q + 1) _ (by omega) (by omega) ?_ (fun k a b => by rcases (by omega : k < q ∨ k = q) with z | rfl; exact h2 k a z; omega) ?_
          · rw [← h1]
            exact (rend_go (by omega) (by unfold isLet; exact decide_eq_true (by omega))).symm
          · rw [show (min (q + 1 - p) 7).toNat = (min (q - p) 7).toNat + 1 by omega]
            show _ = 32 * lcode T p (min (q - p) 7).toNat + T (p + ((min (q - p) 7).toNat : Int)) - 96
            rw [← h3, show p + ((min (q - p) 7).toNat : Int) = q by omega, tq]
theorem m_takeItem {g : Launch × XG × va_G} {σ : YS} {T : Int → Int} {L : Int} {p it : Int}(hL : σ 547 3 = L) (hT : ∀ k, 0 ≤ k → k < L → σ 550 k = T k) (hTr : ∀ k, 0 ≤ k → k < L → 0 ≤ T k ∧ T k ≤ 255) (hl : 0 ≤ L ∧ L ≤ 200) (ha : σ 547 8 = p) (hp : 0 ≤ p ∧ p ≤ L) (h9 : σ 547 9 = -1) (hi : σ 547 7 = it) (hi2 : 0 ≤ it ∧ it < 40) : YU g 125 [(2, 547)] σ (fun σ' => (σ' 547 9 = itF T L it p ∧ σ' 547 7 = it + 1) ∧ (0 ≤ σ' 547 8 ∧ σ' 547 8 ≤ 203) ∧ (itF T L it p = -1 → σ' 547 8 = itN T L p ∧ σ' 552 it = lwd T L p ∧ σ' 553 (3 * it) = nmV T L (itE T L p) ∧ (lwd T L p = 1 ∨ lwd T L p = 2 → σ' 553 (3 * it + 1) = nmV T L (nmD T L (itE T L p))) ∧ (lwd T L p = 3 → σ' 553 (3 * it + 1) = nmS T L (nmD T L (itE T L p)) + 1 ∧ σ' 553 (3 * it + 2) = sqG T L (nmD T L (itE T L p)) - nmS T L (nmD T L (itE T L p)) - 1)) ∧ (∀ x y, ¬ (x = 547 ∧ 7 ≤ y ∧ y ≤ 9) → ¬ (x = 552 ∧ y = it) → ¬ (x = 553 ∧ 3 * it ≤ y ∧ y ≤ 3 * it + 2) → σ' x y = σ x y)) := by
  refine y_start rfl rfl rfl ?_
  refine y_aload rfl rfl rfl ?_
  refine y_gfi (v := p) rfl rfl (by decide) rfl (by decide) rfl ha ?_
  refine y_istore (L' := [some (2, 547), some (0, p), none, none, none]) rfl rfl rfl rfl ?_
  refine y_lconst (v := 0) rfl rfl ?_
  refine y_lstore (L' := [some (2, 547), some (0, p), some (1, 0), none, none]) rfl rfl rfl rfl ?_
  have := lm_takeItem (g := g) hL hT hTr hl ha hp h9 hi hi2 202 p 0 (by omega) (by omega) rfl (fun k a b => by omega) (by rw [Int.sub_self]; rfl)
  rw [show yset σ 547 8 p = σ by rw [← ha, yset_id]] at this
  exact this
