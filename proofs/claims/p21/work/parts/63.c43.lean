/-! The class: quoted slips, and the token. -/
theorem lx_takeQuoted {g : Launch × XG × va_G} {σ : YS} {T : Int → Int} {L : Int} {p : Int} (hL : σ 140 2 = L) (hT : ∀ k, 0 ≤ k → k < L → σ 141 k = T k) (hTr : ∀ k, 0 ≤ k → k < L → 0 ≤ T k ∧ T k ≤ 255) (hl : 0 ≤ L ∧ L ≤ 200) (hs : σ 140 6 = p) (hp : 0 ≤ p ∧ p < L) : ∀ (nn : Nat) (q : Int), L - q < (nn : Int) → (p + 1 ≤ q ∧ q ≤ L) → (rend isSg T L q = rend isSg T L (p + 1)) → YW g 162 7 [some (2, 140), some (0, q), none, none] [] σ (fun rv σ' => rv = none ∧ (σ' = yset (yset σ 140 5 (if ((rend isSg T L (p + 1)) < L ∧ T (rend isSg T L (p + 1)) = 34) ∧ 1 ≤ (rend isSg T L (p + 1)) - p - 1 ∧ (rend isSg T L (p + 1)) - p - 1 ≤ 24 then 3 else 1)) 140 7 (if (rend isSg T L (p + 1)) < L ∧ T (rend isSg T L (p + 1)) = 34 then (rend isSg T L (p + 1)) + 1 else (rend isSg T L (p + 1))))) := by
  intro nn
  induction nn with
  | zero =>
    intro q hn h0 h1
    exfalso
    omega
  | succ nn ih =>
    intro q hn h0 h1
    have tq := fun z => hT q (by omega) z
    have tr := fun z => hTr q (by omega) z
    refine y_iload rfl rfl ?_
    refine y_aload rfl rfl rfl ?_
    refine y_gfi (v := (σ 140 2)) rfl rfl (by decide) rfl (by decide) rfl rfl ?_
    refine y_icge rfl (fun q12 => ?_) (fun q12 => ?_)
    · skip
      refine y_iload rfl rfl ?_
      refine y_aload rfl rfl rfl ?_
      refine y_gfi (v := (σ 140 6)) rfl rfl (by decide) rfl (by decide) rfl rfl ?_
      refine y_isub (v := (q - (σ 140 6))) rfl rfl (by omega) ?_
      refine y_push rfl ?_
      refine y_isub (v := ((q - (σ 140 6)) - 1)) rfl rfl (by omega) ?_
      refine y_istore (L' := [some (2, 140), some (0, q), some (0, ((q - (σ 140 6)) - 1)), none]) rfl rfl rfl rfl ?_
      refine y_iload rfl rfl ?_
      refine y_aload rfl rfl rfl ?_
      refine y_gfi (v := (σ 140 2)) rfl rfl (by decide) rfl (by decide) rfl rfl ?_
      refine y_icge rfl (fun q50 => ?_) (fun q50 => ?_)
      · skip
        refine y_push rfl ?_
        refine y_istore (L' := [some (2, 140), some (0, q), some (0, ((q - (σ 140 6)) - 1)), some (0, 0)]) rfl rfl rfl rfl ?_
        refine y_aload rfl rfl rfl ?_
        refine y_iload rfl rfl ?_
        refine y_ifeq rfl (fun q72 => ?_) (fun q72 => ?_)
        · skip
          refine y_push rfl ?_
          refine y_pfi (j := 5) rfl rfl (by decide) rfl rfl rfl rfl rfl ?_
          refine y_aload rfl rfl rfl ?_
          refine y_iload rfl rfl ?_
          refine y_ifeq rfl (fun q96 => ?_) (fun q96 => ?_)
          · skip
            refine y_iload rfl rfl ?_
            refine y_pfi (j := 7) rfl rfl (by decide) rfl rfl rfl rfl rfl ?_
            refine y_ret rfl rfl ⟨rfl, ?_⟩
            have e : rend isSg T L q = q := rend_at (fun z => by have z2 := z.2; unfold isSg at z2; have z3 := of_decide_eq_true z2; have t := tq z.1; first | omega | (rw [← t] at z3; omega))
            have e2 : rend isSg T L (p + 1) = q := by rw [← h1, e]
            rw [e2, if_neg (fun z => by have t := tq z.1.1; omega), if_neg (fun z => by have t := tq z.1; omega)]
          · exfalso; omega
        · exfalso; omega
      · skip
        refine y_aload rfl rfl rfl ?_
        refine y_gfr (t := 141) rfl rfl (by decide) rfl (by decide) ?_
        refine y_iload rfl rfl ?_
        refine y_iald (v := (σ 141 q)) (n := 200) rfl rfl (by decide) rfl (by omega) rfl ?_
        refine y_push rfl ?_
        refine y_icne rfl (fun q61 => ?_) (fun q61 => ?_)
        · skip
          refine y_push rfl ?_
          refine y_istore (L' := [some (2, 140), some (0, q), some (0, ((q - (σ 140 6)) - 1)), some (0, 0)]) rfl rfl rfl rfl ?_
          refine y_aload rfl rfl rfl ?_
          refine y_iload rfl rfl ?_
          refine y_ifeq rfl (fun q72 => ?_) (fun q72 => ?_)
          · skip
            refine y_push rfl ?_
            refine y_pfi (j := 5) rfl rfl (by decide) rfl rfl rfl rfl rfl ?_
            refine y_aload rfl rfl rfl ?_
            refine y_iload rfl rfl ?_
            refine y_ifeq rfl (fun q96 => ?_) (fun q96 => ?_)
            · skip
              refine y_iload rfl rfl ?_
              refine y_pfi (j := 7) rfl rfl (by decide) rfl rfl rfl rfl rfl ?_
              refine y_ret rfl rfl ⟨rfl, ?_⟩
              have e : rend isSg T L q = q := rend_at (fun z => by have z2 := z.2; unfold isSg at z2; have z3 := of_decide_eq_true z2; have t := tq z.1; first | omega | (rw [← t] at z3; omega))
              have e2 : rend isSg T L (p + 1) = q := by rw [← h1, e]
              rw [e2, if_neg (fun z => by have t := tq z.1.1; omega), if_neg (fun z => by have t := tq z.1; omega)]
            · exfalso; omega
          · exfalso; omega
        · skip
          refine y_push rfl ?_
          refine y_goto rfl ?_
          refine y_istore (L' := [some (2, 140), some (0, q), some (0, ((q - (σ 140 6)) - 1)), some (0, 1)]) rfl rfl rfl rfl ?_
          refine y_aload rfl rfl rfl ?_
          refine y_iload rfl rfl ?_
          refine y_ifeq rfl (fun q72 => ?_) (fun q72 => ?_)
          · exfalso; omega
          · skip
            refine y_iload rfl rfl ?_
            refine y_push rfl ?_
            refine y_iclt rfl (fun q77 => ?_) (fun q77 => ?_)
            · skip
              refine y_push rfl ?_
              refine y_pfi (j := 5) rfl rfl (by decide) rfl rfl rfl rfl rfl ?_
              refine y_aload rfl rfl rfl ?_
              refine y_iload rfl rfl ?_
              refine y_ifeq rfl (fun q96 => ?_) (fun q96 => ?_)
              · exfalso; omega
              · skip
                refine y_iload rfl rfl ?_
                refine y_push rfl ?_
                refine y_iadd (v := (q + 1)) rfl rfl (by omega) ?_
                refine y_goto rfl ?_
                refine y_pfi (j := 7) rfl rfl (by decide) rfl rfl rfl rfl rfl ?_
                refine y_ret rfl rfl ⟨rfl, ?_⟩
                have e : rend isSg T L q = q := rend_at (fun z => by have z2 := z.2; unfold isSg at z2; have z3 := of_decide_eq_true z2; have t := tq z.1; first | omega | (rw [← t] at z3; omega))
                have e2 : rend isSg T L (p + 1) = q := by rw [← h1, e]
                rw [e2, if_neg (fun z => by have t := tq z.1.1; omega), if_pos (by have t := tq (by omega); omega)]
            · skip
              refine y_iload rfl rfl ?_
              refine y_push rfl ?_
              refine y_icgt rfl (fun q83 => ?_) (fun q83 => ?_)
              · skip
                refine y_push rfl ?_
                refine y_pfi (j := 5) rfl rfl (by decide) rfl rfl rfl rfl rfl ?_
                refine y_aload rfl rfl rfl ?_
                refine y_iload rfl rfl ?_
                refine y_ifeq rfl (fun q96 => ?_) (fun q96 => ?_)
                · exfalso; omega
                · skip
                  refine y_iload rfl rfl ?_
                  refine y_push rfl ?_
                  refine y_iadd (v := (q + 1)) rfl rfl (by omega) ?_
                  refine y_goto rfl ?_
                  refine y_pfi (j := 7) rfl rfl (by decide) rfl rfl rfl rfl rfl ?_
                  refine y_ret rfl rfl ⟨rfl, ?_⟩
                  have e : rend isSg T L q = q := rend_at (fun z => by have z2 := z.2; unfold isSg at z2; have z3 := of_decide_eq_true z2; have t := tq z.1; first | omega | (rw [← t] at z3; omega))
                  have e2 : rend isSg T L (p + 1) = q := by rw [← h1, e]
                  rw [e2, if_neg (fun z => by have t := tq z.1.1; omega), if_pos (by have t := tq (by omega); omega)]
              · skip
                refine y_push rfl ?_
                refine y_goto rfl ?_
                refine y_pfi (j := 5) rfl rfl (by decide) rfl rfl rfl rfl rfl ?_
                refine y_aload rfl rfl rfl ?_
                refine y_iload rfl rfl ?_
                refine y_ifeq rfl (fun q96 => ?_) (fun q96 => ?_)
                · exfalso; omega
                · skip
                  refine y_iload rfl rfl ?_
                  refine y_push rfl ?_
                  refine y_iadd (v := (q + 1)) rfl rfl (by omega) ?_
                  refine y_goto rfl ?_
                  refine y_pfi (j := 7) rfl rfl (by decide) rfl rfl rfl rfl rfl ?_
                  refine y_ret rfl rfl ⟨rfl, ?_⟩
                  have e : rend isSg T L q = q := rend_at (fun z => by have z2 := z.2; unfold isSg at z2; have z3 := of_decide_eq_true z2; have t := tq z.1; first | omega | (rw [← t] at z3; omega))
                  have e2 : rend isSg T L (p + 1) = q := by rw [← h1, e]
                  rw [e2, if_pos (by have t := tq (by omega); omega), if_pos (by have t := tq (by omega); omega)]
    · skip
      refine y_ldcs (q := 10) rfl rfl ?_
      refine y_aload rfl rfl rfl ?_
      refine y_gfr (t := 141) rfl rfl (by decide) rfl (by decide) ?_
      refine y_iload rfl rfl ?_
      refine y_iald (v := (σ 141 q)) (n := 200) rfl rfl (by decide) rfl (by omega) rfl ?_
      have t1 := tq (by omega)
      have t2 := tr (by omega)
      refine y_i2c rfl (by omega) ?_
      have sx := ysix_sg (a := σ 141 q) (by omega)
      have sr := sgOf_r (σ 141 q)
      refine y_sidx (li := 0) (v := (ysix 0 (σ 141 q))) rfl rfl (by decide) rfl (by omega) rfl ?_
      refine y_iflt rfl (fun q27 => ?_) (fun q27 => ?_)
      · skip
        refine y_iload rfl rfl ?_
        refine y_aload rfl rfl rfl ?_
        refine y_gfi (v := (σ 140 6)) rfl rfl (by decide) rfl (by decide) rfl rfl ?_
        refine y_isub (v := (q - (σ 140 6))) rfl rfl (by omega) ?_
        refine y_push rfl ?_
        refine y_isub (v := ((q - (σ 140 6)) - 1)) rfl rfl (by omega) ?_
        refine y_istore (L' := [some (2, 140), some (0, q), some (0, ((q - (σ 140 6)) - 1)), none]) rfl rfl rfl rfl ?_
        refine y_iload rfl rfl ?_
        refine y_aload rfl rfl rfl ?_
        refine y_gfi (v := (σ 140 2)) rfl rfl (by decide) rfl (by decide) rfl rfl ?_
        refine y_icge rfl (fun q50 => ?_) (fun q50 => ?_)
        · skip
          refine y_push rfl ?_
          refine y_istore (L' := [some (2, 140), some (0, q), some (0, ((q - (σ 140 6)) - 1)), some (0, 0)]) rfl rfl rfl rfl ?_
          refine y_aload rfl rfl rfl ?_
          refine y_iload rfl rfl ?_
          refine y_ifeq rfl (fun q72 => ?_) (fun q72 => ?_)
          · skip
            refine y_push rfl ?_
            refine y_pfi (j := 5) rfl rfl (by decide) rfl rfl rfl rfl rfl ?_
            refine y_aload rfl rfl rfl ?_
            refine y_iload rfl rfl ?_
            refine y_ifeq rfl (fun q96 => ?_) (fun q96 => ?_)
            · skip
              refine y_iload rfl rfl ?_
              refine y_pfi (j := 7) rfl rfl (by decide) rfl rfl rfl rfl rfl ?_
              refine y_ret rfl rfl ⟨rfl, ?_⟩
              have e : rend isSg T L q = q := rend_at (fun z => by have z2 := z.2; unfold isSg at z2; have z3 := of_decide_eq_true z2; have t := tq z.1; first | omega | (rw [← t] at z3; omega))
              have e2 : rend isSg T L (p + 1) = q := by rw [← h1, e]
              rw [e2, if_neg (fun z => by have t := tq z.1.1; omega), if_neg (fun z => by have t := tq z.1; omega)]
            · exfalso; omega
          · exfalso; omega
        · skip
          refine y_aload rfl rfl rfl ?_
          refine y_gfr (t := 141) rfl rfl (by decide) rfl (by decide) ?_
          refine y_iload rfl rfl ?_
          refine y_iald (v := (σ 141 q)) (n := 200) rfl rfl (by decide) rfl (by omega) rfl ?_
          refine y_push rfl ?_
          refine y_icne rfl (fun q61 => ?_) (fun q61 => ?_)
          · skip
            refine y_push rfl ?_
            refine y_istore (L' := [some (2, 140), some (0, q), some (0, ((q - (σ 140 6)) - 1)), some (0, 0)]) rfl rfl rfl rfl ?_
            refine y_aload rfl rfl rfl ?_
            refine y_iload rfl rfl ?_
            refine y_ifeq rfl (fun q72 => ?_) (fun q72 => ?_)
            · skip
              refine y_push rfl ?_
              refine y_pfi (j := 5) rfl rfl (by decide) rfl rfl rfl rfl rfl ?_
              refine y_aload rfl rfl rfl ?_
              refine y_iload rfl rfl ?_
              refine y_ifeq rfl (fun q96 => ?_) (fun q96 => ?_)
              · skip
                refine y_iload rfl rfl ?_
                refine y_pfi (j := 7) rfl rfl (by decide) rfl rfl rfl rfl rfl ?_
                refine y_ret rfl rfl ⟨rfl, ?_⟩
                have e : rend isSg T L q = q := rend_at (fun z => by have z2 := z.2; unfold isSg at z2; have z3 := of_decide_eq_true z2; have t := tq z.1; first | omega | (rw [← t] at z3; omega))
                have e2 : rend isSg T L (p + 1) = q := by rw [← h1, e]
                rw [e2, if_neg (fun z => by have t := tq z.1.1; omega), if_neg (fun z => by have t := tq z.1; omega)]
              · exfalso; omega
            · exfalso; omega
          · skip
            refine y_push rfl ?_
            refine y_goto rfl ?_
            refine y_istore (L' := [some (2, 140), some (0, q), some (0, ((q - (σ 140 6)) - 1)), some (0, 1)]) rfl rfl rfl rfl ?_
            refine y_aload rfl rfl rfl ?_
            refine y_iload rfl rfl ?_
            refine y_ifeq rfl (fun q72 => ?_) (fun q72 => ?_)
            · exfalso; omega
            · skip
              refine y_iload rfl rfl ?_
              refine y_push rfl ?_
              refine y_iclt rfl (fun q77 => ?_) (fun q77 => ?_)
              · skip
                refine y_push rfl ?_
                refine y_pfi (j := 5) rfl rfl (by decide) rfl rfl rfl rfl rfl ?_
                refine y_aload rfl rfl rfl ?_
                refine y_iload rfl rfl ?_
                refine y_ifeq rfl (fun q96 => ?_) (fun q96 => ?_)
                · exfalso; omega
                · skip
                  refine y_iload rfl rfl ?_
                  refine y_push rfl ?_
                  refine y_iadd (v := (q + 1)) rfl rfl (by omega) ?_
                  refine y_goto rfl ?_
                  refine y_pfi (j := 7) rfl rfl (by decide) rfl rfl rfl rfl rfl ?_
                  refine y_ret rfl rfl ⟨rfl, ?_⟩
                  have e : rend isSg T L q = q := rend_at (fun z => by have z2 := z.2; unfold isSg at z2; have z3 := of_decide_eq_true z2; have t := tq z.1; first | omega | (rw [← t] at z3; omega))
                  have e2 : rend isSg T L (p + 1) = q := by rw [← h1, e]
                  rw [e2, if_neg (fun z => by have t := tq z.1.1; omega), if_pos (by have t := tq (by omega); omega)]
              · skip
                refine y_iload rfl rfl ?_
                refine y_push rfl ?_
                refine y_icgt rfl (fun q83 => ?_) (fun q83 => ?_)
                · skip
                  refine y_push rfl ?_
                  refine y_pfi (j := 5) rfl rfl (by decide) rfl rfl rfl rfl rfl ?_
                  refine y_aload rfl rfl rfl ?_
                  refine y_iload rfl rfl ?_
                  refine y_ifeq rfl (fun q96 => ?_) (fun q96 => ?_)
                  · exfalso; omega
                  · skip
                    refine y_iload rfl rfl ?_
                    refine y_push rfl ?_
                    refine y_iadd (v := (q + 1)) rfl rfl (by omega) ?_
                    refine y_goto rfl ?_
                    refine y_pfi (j := 7) rfl rfl (by decide) rfl rfl rfl rfl rfl ?_
                    refine y_ret rfl rfl ⟨rfl, ?_⟩
                    have e : rend isSg T L q = q := rend_at (fun z => by have z2 := z.2; unfold isSg at z2; have z3 := of_decide_eq_true z2; have t := tq z.1; first | omega | (rw [← t] at z3; omega))
                    have e2 : rend isSg T L (p + 1) = q := by rw [← h1, e]
                    rw [e2, if_neg (fun z => by have t := tq z.1.1; omega), if_pos (by have t := tq (by omega); omega)]
                · skip
                  refine y_push rfl ?_
                  refine y_goto rfl ?_
                  refine y_pfi (j := 5) rfl rfl (by decide) rfl rfl rfl rfl rfl ?_
                  refine y_aload rfl rfl rfl ?_
                  refine y_iload rfl rfl ?_
                  refine y_ifeq rfl (fun q96 => ?_) (fun q96 => ?_)
                  · exfalso; omega
                  · skip
                    refine y_iload rfl rfl ?_
                    refine y_push rfl ?_
                    refine y_iadd (v := (q + 1)) rfl rfl (by omega) ?_
                    refine y_goto rfl ?_
                    refine y_pfi (j := 7) rfl rfl (by decide) rfl rfl rfl rfl rfl ?_
                    refine y_ret rfl rfl ⟨rfl, ?_⟩
                    have e : rend isSg T L q = q := rend_at (fun z => by have z2 := z.2; unfold isSg at z2; have z3 := of_decide_eq_true z2; have t := tq z.1; first | omega | (rw [← t] at z3; omega))
                    have e2 : rend isSg T L (p + 1) = q := by rw [← h1, e]
                    rw [e2, if_pos (by have t := tq (by omega); omega), if_pos (by have t := tq (by omega); omega)]
      · skip
        refine y_iinc (L' := [some (2, 140), some (0, (q + 1)), none, none]) rfl rfl rfl rfl rfl (by omega) ?_
        refine y_goto rfl ?_
        refine ih (q + 1) (by omega) (by omega) ?_
        rw [← h1]
        exact (rend_go (by omega) (by unfold isSg; exact decide_eq_true (by rw [← tq (by omega)]; omega))).symm
theorem x_takeQuoted {g : Launch × XG × va_G} {σ : YS} {T : Int → Int} {L : Int} {p : Int} (hL : σ 140 2 = L) (hT : ∀ k, 0 ≤ k → k < L → σ 141 k = T k) (hTr : ∀ k, 0 ≤ k → k < L → 0 ≤ T k ∧ T k ≤ 255) (hl : 0 ≤ L ∧ L ≤ 200) (hs : σ 140 6 = p) (hp : 0 ≤ p ∧ p < L) : YU g 162 [(2, 140)] σ (fun σ' => σ' = yset (yset σ 140 5 (if ((rend isSg T L (p + 1)) < L ∧ T (rend isSg T L (p + 1)) = 34) ∧ 1 ≤ (rend isSg T L (p + 1)) - p - 1 ∧ (rend isSg T L (p + 1)) - p - 1 ≤ 24 then 3 else 1)) 140 7 (if (rend isSg T L (p + 1)) < L ∧ T (rend isSg T L (p + 1)) = 34 then (rend isSg T L (p + 1)) + 1 else (rend isSg T L (p + 1)))) := by
  refine y_start rfl rfl rfl ?_
  refine y_aload rfl rfl rfl ?_
  refine y_gfi (v := (σ 140 6)) rfl rfl (by decide) rfl (by decide) rfl rfl ?_
  refine y_push rfl ?_
  refine y_iadd (v := ((σ 140 6) + 1)) rfl rfl (by omega) ?_
  refine y_istore (L' := [some (2, 140), some (0, ((σ 140 6) + 1)), none, none]) rfl rfl rfl rfl ?_
  rw [hs]
  exact lx_takeQuoted hL hT hTr hl hs hp 202 (p + 1) (by omega) (by omega) rfl
/-- the token at a place: its kind, its end -/
def xtok (T : Int → Int) (L s : Int) : Int := if L ≤ s then 0 else if 97 ≤ T s ∧ T s ≤ 122 then (if lwd T L s = -1 then 1 else lwd T L s + 5) else if 48 ≤ T s ∧ T s ≤ 57 then (if rend isFig T L s - s ≤ 2 then 2 else 1) else if T s = 34 then (if (rend isSg T L (s + 1) < L ∧ T (rend isSg T L (s + 1)) = 34) ∧ 1 ≤ rend isSg T L (s + 1) - s - 1 ∧ rend isSg T L (s + 1) - s - 1 ≤ 24 then 3 else 1) else if T s = 59 then 4 else 1
def xtend (T : Int → Int) (L s : Int) : Int := if L ≤ s then s else if 97 ≤ T s ∧ T s ≤ 122 then rend isLet T L s else if 48 ≤ T s ∧ T s ≤ 57 then rend isFig T L s else if T s = 34 then (if rend isSg T L (s + 1) < L ∧ T (rend isSg T L (s + 1)) = 34 then rend isSg T L (s + 1) + 1 else rend isSg T L (s + 1)) else s + 1
theorem xtok_0 {T : Int → Int} {L s : Int} (h : L ≤ s) : xtok T L s = 0 ∧ xtend T L s = s := by unfold xtok xtend; rw [if_pos h, if_pos h]; exact ⟨rfl, rfl⟩
theorem xtok_L {T : Int → Int} {L s : Int} (h : ¬ L ≤ s) (h1 : 97 ≤ T s ∧ T s ≤ 122) : xtok T L s = (if lwd T L s = -1 then 1 else lwd T L s + 5) ∧ xtend T L s = rend isLet T L s := by unfold xtok xtend; rw [if_neg h, if_neg h, if_pos h1, if_pos h1]; exact ⟨rfl, rfl⟩
theorem xtok_F {T : Int → Int} {L s : Int} (h : ¬ L ≤ s) (h1 : ¬ (97 ≤ T s ∧ T s ≤ 122)) (h2 : 48 ≤ T s ∧ T s ≤ 57) : xtok T L s = (if rend isFig T L s - s ≤ 2 then 2 else 1) ∧ xtend T L s = rend isFig T L s := by unfold xtok xtend; rw [if_neg h, if_neg h, if_neg h1, if_neg h1, if_pos h2, if_pos h2]; exact ⟨rfl, rfl⟩
theorem xtok_Q {T : Int → Int} {L s : Int} (h : ¬ L ≤ s) (h1 : ¬ (97 ≤ T s ∧ T s ≤ 122)) (h2 : ¬ (48 ≤ T s ∧ T s ≤ 57)) (h3 : T s = 34) : xtok T L s = (if (rend isSg T L (s + 1) < L ∧ T (rend isSg T L (s + 1)) = 34) ∧ 1 ≤ rend isSg T L (s + 1) - s - 1 ∧ rend isSg T L (s + 1) - s - 1 ≤ 24 then 3 else 1) ∧ xtend T L s = (if rend isSg T L (s + 1) < L ∧ T (rend isSg T L (s + 1)) = 34 then rend isSg T L (s + 1) + 1 else rend isSg T L (s + 1)) := by unfold xtok xtend; rw [if_neg h, if_neg h, if_neg h1, if_neg h1, if_neg h2, if_neg h2, if_pos h3, if_pos h3]; exact ⟨rfl, rfl⟩
theorem xtok_E {T : Int → Int} {L s : Int} (h : ¬ L ≤ s) (h1 : ¬ (97 ≤ T s ∧ T s ≤ 122)) (h2 : ¬ (48 ≤ T s ∧ T s ≤ 57)) (h3 : ¬ T s = 34) : xtok T L s = (if T s = 59 then 4 else 1) ∧ xtend T L s = s + 1 := by unfold xtok xtend; rw [if_neg h, if_neg h, if_neg h1, if_neg h1, if_neg h2, if_neg h2, if_neg h3, if_neg h3]; exact ⟨rfl, rfl⟩
theorem lx_advanceToken {g : Launch × XG × va_G} {σ : YS} {T : Int → Int} {L : Int} {p : Int} (hL : σ 140 2 = L) (hT : ∀ k, 0 ≤ k → k < L → σ 141 k = T k) (hTr : ∀ k, 0 ≤ k → k < L → 0 ≤ T k ∧ T k ≤ 255) (hl : 0 ≤ L ∧ L ≤ 200) (he : σ 140 7 = p) (hp : 0 ≤ p ∧ p ≤ L) : ∀ (nn : Nat) (q : Int), L - q < (nn : Int) → (p ≤ q ∧ q ≤ L) → (rend isSp T L q = rend isSp T L p) → YW g 44 5 [some (2, 140), some (0, q)] [] σ (fun rv σ' => rv = none ∧ (σ' 140 5 = xtok T L (nmS T L p) ∧ σ' 140 6 = nmS T L p ∧ σ' 140 7 = xtend T L (nmS T L p) ∧ ∀ x y, ¬ (x = 140 ∧ 5 ≤ y ∧ y ≤ 7) → σ' x y = σ x y)) := by
  intro nn
  induction nn with
  | zero =>
    intro q hn h0 h1
    exfalso
    omega
  | succ nn ih =>
    intro q hn h0 h1
    have tq := fun z => hT q (by omega) z
    have tr := fun z => hTr q (by omega) z
    refine y_iload rfl rfl ?_
    refine y_aload rfl rfl rfl ?_
    refine y_gfi (v := (σ 140 2)) rfl rfl (by decide) rfl (by decide) rfl rfl ?_
    refine y_icge rfl (fun q10 => ?_) (fun q10 => ?_)
    · skip
      refine y_aload rfl rfl rfl ?_
      refine y_iload rfl rfl ?_
      refine y_pfi (j := 6) rfl rfl (by decide) rfl rfl rfl rfl rfl ?_
      refine y_aload rfl rfl rfl ?_
      refine y_iload rfl rfl ?_
      refine y_pfi (j := 7) rfl rfl (by decide) rfl rfl rfl rfl rfl ?_
      refine y_iload rfl rfl ?_
      refine y_aload rfl rfl rfl ?_
      refine y_gfi (v := (σ 140 2)) rfl rfl (by decide) rfl (by decide) rfl (yne (by omega) (yne (by omega) rfl)) ?_
      refine y_iclt rfl (fun q45 => ?_) (fun q45 => ?_)
      · skip
        refine y_aload rfl rfl rfl ?_
        refine y_gfr (t := 141) rfl rfl (by decide) rfl (by decide) ?_
        refine y_iload rfl rfl ?_
        refine y_iald (v := (σ 141 q)) (n := 200) rfl rfl (by decide) rfl (by omega) (yne (by omega) (yne (by omega) rfl)) ?_
        have t1 := tq (by omega)
        have t2 := tr (by omega)
        refine y_si (as := [(0, (σ 141 q))]) (S := []) rfl rfl rfl rfl rfl rfl (x_isLetter (c := (σ 141 q)) (by omega)) ?_
        rintro _ _ ⟨rfl, rfl⟩
        refine y_ifeq rfl (fun q65 => ?_) (fun q65 => ?_)
        · skip
          replace q65 := yb_0.mp q65
          refine y_aload rfl rfl rfl ?_
          refine y_gfr (t := 141) rfl rfl (by decide) rfl (by decide) ?_
          refine y_iload rfl rfl ?_
          refine y_iald (v := (σ 141 q)) (n := 200) rfl rfl (by decide) rfl (by omega) (yne (by omega) (yne (by omega) rfl)) ?_
          have t1 := tq (by omega)
          have t2 := tr (by omega)
          refine y_si (as := [(0, (σ 141 q))]) (S := []) rfl rfl rfl rfl rfl rfl (x_isFigure (c := (σ 141 q)) (by omega)) ?_
          rintro _ _ ⟨rfl, rfl⟩
          refine y_ifeq rfl (fun q84 => ?_) (fun q84 => ?_)
          · skip
            replace q84 := yb_0.mp q84
            refine y_aload rfl rfl rfl ?_
            refine y_gfr (t := 141) rfl rfl (by decide) rfl (by decide) ?_
            refine y_iload rfl rfl ?_
            refine y_iald (v := (σ 141 q)) (n := 200) rfl rfl (by decide) rfl (by omega) (yne (by omega) (yne (by omega) rfl)) ?_
            refine y_push rfl ?_
            refine y_icne rfl (fun q102 => ?_) (fun q102 => ?_)
            · skip
              refine y_aload rfl rfl rfl ?_
              refine y_iload rfl rfl ?_
              refine y_push rfl ?_
              refine y_iadd (v := (q + 1)) rfl rfl (by omega) ?_
              refine y_pfi (j := 7) rfl rfl (by decide) rfl rfl rfl rfl rfl ?_
              refine y_aload rfl rfl rfl ?_
              refine y_aload rfl rfl rfl ?_
              refine y_gfr (t := 141) rfl rfl (by decide) rfl (by decide) ?_
              refine y_iload rfl rfl ?_
              refine y_iald (v := (σ 141 q)) (n := 200) rfl rfl (by decide) rfl (by omega) (yne (by omega) (yne (by omega) (yne (by omega) rfl))) ?_
              refine y_push rfl ?_
              refine y_icne rfl (fun q128 => ?_) (fun q128 => ?_)
              · skip
                refine y_push rfl ?_
                refine y_pfi (j := 5) rfl rfl (by decide) rfl rfl rfl rfl rfl ?_
                refine y_ret rfl rfl ⟨rfl, ?_⟩
                have e : rend isSp T L q = q := rend_at (fun z => by have z2 := z.2; unfold isSp at z2; have z3 := of_decide_eq_true z2; have t := tq z.1; omega)
                have e2 : nmS T L p = q := by unfold nmS; rw [← h1, e]
                rw [e2]
                have t := fun z => tq z
                have tt := tq (by omega)
                have xx := xtok_E (T := T) (L := L) (s := q) (by omega) (by omega) (by omega) (by omega)
                exact ⟨by rw [yeq, xx.1, if_neg (by omega)], by rw [yne (by omega) rfl, yne (by omega) rfl, yne (by omega) rfl, yeq], by rw [yne (by omega) rfl, yeq]; exact xx.2.symm, fun x y hx => by rw [yne (by omega) rfl, yne (by omega) rfl, yne (by omega) rfl, yne (by omega) rfl]⟩
              · skip
                refine y_push rfl ?_
                refine y_goto rfl ?_
                refine y_pfi (j := 5) rfl rfl (by decide) rfl rfl rfl rfl rfl ?_
                refine y_ret rfl rfl ⟨rfl, ?_⟩
                have e : rend isSp T L q = q := rend_at (fun z => by have z2 := z.2; unfold isSp at z2; have z3 := of_decide_eq_true z2; have t := tq z.1; omega)
                have e2 : nmS T L p = q := by unfold nmS; rw [← h1, e]
                rw [e2]
                have t := fun z => tq z
                have tt := tq (by omega)
                have xx := xtok_E (T := T) (L := L) (s := q) (by omega) (by omega) (by omega) (by omega)
                exact ⟨by rw [yeq, xx.1, if_pos (by omega)], by rw [yne (by omega) rfl, yne (by omega) rfl, yne (by omega) rfl, yeq], by rw [yne (by omega) rfl, yeq]; exact xx.2.symm, fun x y hx => by rw [yne (by omega) rfl, yne (by omega) rfl, yne (by omega) rfl, yne (by omega) rfl]⟩
            · skip
              refine y_aload rfl rfl rfl ?_
              refine y_vu (as := [(2, 140)]) (S := []) rfl rfl rfl rfl rfl rfl (by decide) rfl (x_takeQuoted (T := T) (L := L) (p := q) ((yne (by omega) (yne (by omega) rfl)).trans hL) (fun k a b => (yne (by omega) (yne (by omega) rfl)).trans (hT k a b)) hTr hl (by rw [yne (by omega) rfl, yeq]) (by omega)) ?_
              rintro s_Q y_
              refine y_goto rfl ?_
              refine y_ret rfl rfl ⟨rfl, ?_⟩
              have e : rend isSp T L q = q := rend_at (fun z => by have z2 := z.2; unfold isSp at z2; have z3 := of_decide_eq_true z2; have t := tq z.1; omega)
              have e2 : nmS T L p = q := by unfold nmS; rw [← h1, e]
              rw [e2]
              have t := fun z => tq z
              subst y_
              have tt := tq (by omega)
              have xx := xtok_Q (T := T) (L := L) (s := q) (by omega) (by omega) (by omega) (by omega)
              exact ⟨by rw [yne (by omega) rfl, yeq]; exact xx.1.symm, by rw [yne (by omega) rfl, yne (by omega) rfl, yne (by omega) rfl, yeq], by rw [yeq]; exact xx.2.symm, fun x y hx => by rw [yne (by omega) rfl, yne (by omega) rfl, yne (by omega) rfl, yne (by omega) rfl]⟩
          · skip
            replace q84 := yb_1.mp q84
            refine y_aload rfl rfl rfl ?_
            refine y_vu (as := [(2, 140)]) (S := []) rfl rfl rfl rfl rfl rfl (by decide) rfl (x_takeNumber (T := T) (L := L) (p := q) ((yne (by omega) (yne (by omega) rfl)).trans hL) (fun k a b => (yne (by omega) (yne (by omega) rfl)).trans (hT k a b)) hTr hl (by rw [yne (by omega) rfl, yeq]) (by rw [yeq]) (by omega)) ?_
            rintro s_F y_
            refine y_goto rfl ?_
            refine y_ret rfl rfl ⟨rfl, ?_⟩
            have e : rend isSp T L q = q := rend_at (fun z => by have z2 := z.2; unfold isSp at z2; have z3 := of_decide_eq_true z2; have t := tq z.1; omega)
            have e2 : nmS T L p = q := by unfold nmS; rw [← h1, e]
            rw [e2]
            have t := fun z => tq z
            subst y_
            have tt := tq (by omega)
            have xx := xtok_F (T := T) (L := L) (s := q) (by omega) (by omega) (by omega)
            exact ⟨by rw [yeq]; exact xx.1.symm, by rw [yne (by omega) rfl, yne (by omega) rfl, yne (by omega) rfl, yeq], by rw [yne (by omega) rfl, yeq]; exact xx.2.symm, fun x y hx => by rw [yne (by omega) rfl, yne (by omega) rfl, yne (by omega) rfl, yne (by omega) rfl]⟩
        · skip
          replace q65 := yb_1.mp q65
          refine y_aload rfl rfl rfl ?_
          refine y_vu (as := [(2, 140)]) (S := []) rfl rfl rfl rfl rfl rfl (by decide) rfl (x_takeWord (T := T) (L := L) (p := q) ((yne (by omega) (yne (by omega) rfl)).trans hL) (fun k a b => (yne (by omega) (yne (by omega) rfl)).trans (hT k a b)) hTr hl (by rw [yne (by omega) rfl, yeq]) (by rw [yeq]) (by omega)) ?_
          rintro s_L y_
          refine y_goto rfl ?_
          refine y_ret rfl rfl ⟨rfl, ?_⟩
          have e : rend isSp T L q = q := rend_at (fun z => by have z2 := z.2; unfold isSp at z2; have z3 := of_decide_eq_true z2; have t := tq z.1; omega)
          have e2 : nmS T L p = q := by unfold nmS; rw [← h1, e]
          rw [e2]
          have t := fun z => tq z
          subst y_
          have tt := tq (by omega)
          have xx := xtok_L (T := T) (L := L) (s := q) (by omega) (by omega)
          exact ⟨by rw [yeq]; exact xx.1.symm, by rw [yne (by omega) rfl, yne (by omega) rfl, yne (by omega) rfl, yeq], by rw [yne (by omega) rfl, yeq]; exact xx.2.symm, fun x y hx => by rw [yne (by omega) rfl, yne (by omega) rfl, yne (by omega) rfl, yne (by omega) rfl]⟩
      · skip
        refine y_aload rfl rfl rfl ?_
        refine y_push rfl ?_
        refine y_pfi (j := 5) rfl rfl (by decide) rfl rfl rfl rfl rfl ?_
        refine y_goto rfl ?_
        refine y_ret rfl rfl ⟨rfl, ?_⟩
        have e : rend isSp T L q = q := rend_at (fun z => by have z2 := z.2; unfold isSp at z2; have z3 := of_decide_eq_true z2; have t := tq z.1; omega)
        have e2 : nmS T L p = q := by unfold nmS; rw [← h1, e]
        rw [e2]
        have t := fun z => tq z
        have xx := xtok_0 (T := T) (L := L) (s := q) (by omega)
        exact ⟨by rw [yeq]; exact xx.1.symm, by rw [yne (by omega) rfl, yne (by omega) rfl, yeq], by rw [yne (by omega) rfl, yeq]; exact xx.2.symm, fun x y hx => by rw [yne (by omega) rfl, yne (by omega) rfl, yne (by omega) rfl]⟩
    · skip
      refine y_aload rfl rfl rfl ?_
      refine y_gfr (t := 141) rfl rfl (by decide) rfl (by decide) ?_
      refine y_iload rfl rfl ?_
      refine y_iald (v := (σ 141 q)) (n := 200) rfl rfl (by decide) rfl (by omega) rfl ?_
      refine y_push rfl ?_
      refine y_icne rfl (fun q21 => ?_) (fun q21 => ?_)
      · skip
        refine y_aload rfl rfl rfl ?_
        refine y_iload rfl rfl ?_
        refine y_pfi (j := 6) rfl rfl (by decide) rfl rfl rfl rfl rfl ?_
        refine y_aload rfl rfl rfl ?_
        refine y_iload rfl rfl ?_
        refine y_pfi (j := 7) rfl rfl (by decide) rfl rfl rfl rfl rfl ?_
        refine y_iload rfl rfl ?_
        refine y_aload rfl rfl rfl ?_
        refine y_gfi (v := (σ 140 2)) rfl rfl (by decide) rfl (by decide) rfl (yne (by omega) (yne (by omega) rfl)) ?_
        refine y_iclt rfl (fun q45 => ?_) (fun q45 => ?_)
        · skip
          refine y_aload rfl rfl rfl ?_
          refine y_gfr (t := 141) rfl rfl (by decide) rfl (by decide) ?_
          refine y_iload rfl rfl ?_
          refine y_iald (v := (σ 141 q)) (n := 200) rfl rfl (by decide) rfl (by omega) (yne (by omega) (yne (by omega) rfl)) ?_
          have t1 := tq (by omega)
          have t2 := tr (by omega)
          refine y_si (as := [(0, (σ 141 q))]) (S := []) rfl rfl rfl rfl rfl rfl (x_isLetter (c := (σ 141 q)) (by omega)) ?_
          rintro _ _ ⟨rfl, rfl⟩
          refine y_ifeq rfl (fun q65 => ?_) (fun q65 => ?_)
          · skip
            replace q65 := yb_0.mp q65
            refine y_aload rfl rfl rfl ?_
            refine y_gfr (t := 141) rfl rfl (by decide) rfl (by decide) ?_
            refine y_iload rfl rfl ?_
            refine y_iald (v := (σ 141 q)) (n := 200) rfl rfl (by decide) rfl (by omega) (yne (by omega) (yne (by omega) rfl)) ?_
            have t1 := tq (by omega)
            have t2 := tr (by omega)
            refine y_si (as := [(0, (σ 141 q))]) (S := []) rfl rfl rfl rfl rfl rfl (x_isFigure (c := (σ 141 q)) (by omega)) ?_
            rintro _ _ ⟨rfl, rfl⟩
            refine y_ifeq rfl (fun q84 => ?_) (fun q84 => ?_)
            · skip
              replace q84 := yb_0.mp q84
              refine y_aload rfl rfl rfl ?_
              refine y_gfr (t := 141) rfl rfl (by decide) rfl (by decide) ?_
              refine y_iload rfl rfl ?_
              refine y_iald (v := (σ 141 q)) (n := 200) rfl rfl (by decide) rfl (by omega) (yne (by omega) (yne (by omega) rfl)) ?_
              refine y_push rfl ?_
              refine y_icne rfl (fun q102 => ?_) (fun q102 => ?_)
              · skip
                refine y_aload rfl rfl rfl ?_
                refine y_iload rfl rfl ?_
                refine y_push rfl ?_
                refine y_iadd (v := (q + 1)) rfl rfl (by omega) ?_
                refine y_pfi (j := 7) rfl rfl (by decide) rfl rfl rfl rfl rfl ?_
                refine y_aload rfl rfl rfl ?_
                refine y_aload rfl rfl rfl ?_
                refine y_gfr (t := 141) rfl rfl (by decide) rfl (by decide) ?_
                refine y_iload rfl rfl ?_
                refine y_iald (v := (σ 141 q)) (n := 200) rfl rfl (by decide) rfl (by omega) (yne (by omega) (yne (by omega) (yne (by omega) rfl))) ?_
                refine y_push rfl ?_
                refine y_icne rfl (fun q128 => ?_) (fun q128 => ?_)
                · skip
                  refine y_push rfl ?_
                  refine y_pfi (j := 5) rfl rfl (by decide) rfl rfl rfl rfl rfl ?_
                  refine y_ret rfl rfl ⟨rfl, ?_⟩
                  have e : rend isSp T L q = q := rend_at (fun z => by have z2 := z.2; unfold isSp at z2; have z3 := of_decide_eq_true z2; have t := tq z.1; omega)
                  have e2 : nmS T L p = q := by unfold nmS; rw [← h1, e]
                  rw [e2]
                  have t := fun z => tq z
                  have tt := tq (by omega)
                  have xx := xtok_E (T := T) (L := L) (s := q) (by omega) (by omega) (by omega) (by omega)
                  exact ⟨by rw [yeq, xx.1, if_neg (by omega)], by rw [yne (by omega) rfl, yne (by omega) rfl, yne (by omega) rfl, yeq], by rw [yne (by omega) rfl, yeq]; exact xx.2.symm, fun x y hx => by rw [yne (by omega) rfl, yne (by omega) rfl, yne (by omega) rfl, yne (by omega) rfl]⟩
                · skip
                  refine y_push rfl ?_
                  refine y_goto rfl ?_
                  refine y_pfi (j := 5) rfl rfl (by decide) rfl rfl rfl rfl rfl ?_
                  refine y_ret rfl rfl ⟨rfl, ?_⟩
                  have e : rend isSp T L q = q := rend_at (fun z => by have z2 := z.2; unfold isSp at z2; have z3 := of_decide_eq_true z2; have t := tq z.1; omega)
                  have e2 : nmS T L p = q := by unfold nmS; rw [← h1, e]
                  rw [e2]
                  have t := fun z => tq z
                  have tt := tq (by omega)
                  have xx := xtok_E (T := T) (L := L) (s := q) (by omega) (by omega) (by omega) (by omega)
                  exact ⟨by rw [yeq, xx.1, if_pos (by omega)], by rw [yne (by omega) rfl, yne (by omega) rfl, yne (by omega) rfl, yeq], by rw [yne (by omega) rfl, yeq]; exact xx.2.symm, fun x y hx => by rw [yne (by omega) rfl, yne (by omega) rfl, yne (by omega) rfl, yne (by omega) rfl]⟩
              · skip
                refine y_aload rfl rfl rfl ?_
                refine y_vu (as := [(2, 140)]) (S := []) rfl rfl rfl rfl rfl rfl (by decide) rfl (x_takeQuoted (T := T) (L := L) (p := q) ((yne (by omega) (yne (by omega) rfl)).trans hL) (fun k a b => (yne (by omega) (yne (by omega) rfl)).trans (hT k a b)) hTr hl (by rw [yne (by omega) rfl, yeq]) (by omega)) ?_
                rintro s_Q y_
                refine y_goto rfl ?_
                refine y_ret rfl rfl ⟨rfl, ?_⟩
                have e : rend isSp T L q = q := rend_at (fun z => by have z2 := z.2; unfold isSp at z2; have z3 := of_decide_eq_true z2; have t := tq z.1; omega)
                have e2 : nmS T L p = q := by unfold nmS; rw [← h1, e]
                rw [e2]
                have t := fun z => tq z
                subst y_
                have tt := tq (by omega)
                have xx := xtok_Q (T := T) (L := L) (s := q) (by omega) (by omega) (by omega) (by omega)
                exact ⟨by rw [yne (by omega) rfl, yeq]; exact xx.1.symm, by rw [yne (by omega) rfl, yne (by omega) rfl, yne (by omega) rfl, yeq], by rw [yeq]; exact xx.2.symm, fun x y hx => by rw [yne (by omega) rfl, yne (by omega) rfl, yne (by omega) rfl, yne (by omega) rfl]⟩
            · skip
              replace q84 := yb_1.mp q84
              refine y_aload rfl rfl rfl ?_
              refine y_vu (as := [(2, 140)]) (S := []) rfl rfl rfl rfl rfl rfl (by decide) rfl (x_takeNumber (T := T) (L := L) (p := q) ((yne (by omega) (yne (by omega) rfl)).trans hL) (fun k a b => (yne (by omega) (yne (by omega) rfl)).trans (hT k a b)) hTr hl (by rw [yne (by omega) rfl, yeq]) (by rw [yeq]) (by omega)) ?_
              rintro s_F y_
              refine y_goto rfl ?_
              refine y_ret rfl rfl ⟨rfl, ?_⟩
              have e : rend isSp T L q = q := rend_at (fun z => by have z2 := z.2; unfold isSp at z2; have z3 := of_decide_eq_true z2; have t := tq z.1; omega)
              have e2 : nmS T L p = q := by unfold nmS; rw [← h1, e]
              rw [e2]
              have t := fun z => tq z
              subst y_
              have tt := tq (by omega)
              have xx := xtok_F (T := T) (L := L) (s := q) (by omega) (by omega) (by omega)
              exact ⟨by rw [yeq]; exact xx.1.symm, by rw [yne (by omega) rfl, yne (by omega) rfl, yne (by omega) rfl, yeq], by rw [yne (by omega) rfl, yeq]; exact xx.2.symm, fun x y hx => by rw [yne (by omega) rfl, yne (by omega) rfl, yne (by omega) rfl, yne (by omega) rfl]⟩
          · skip
            replace q65 := yb_1.mp q65
            refine y_aload rfl rfl rfl ?_
            refine y_vu (as := [(2, 140)]) (S := []) rfl rfl rfl rfl rfl rfl (by decide) rfl (x_takeWord (T := T) (L := L) (p := q) ((yne (by omega) (yne (by omega) rfl)).trans hL) (fun k a b => (yne (by omega) (yne (by omega) rfl)).trans (hT k a b)) hTr hl (by rw [yne (by omega) rfl, yeq]) (by rw [yeq]) (by omega)) ?_
            rintro s_L y_
            refine y_goto rfl ?_
            refine y_ret rfl rfl ⟨rfl, ?_⟩
            have e : rend isSp T L q = q := rend_at (fun z => by have z2 := z.2; unfold isSp at z2; have z3 := of_decide_eq_true z2; have t := tq z.1; omega)
            have e2 : nmS T L p = q := by unfold nmS; rw [← h1, e]
            rw [e2]
            have t := fun z => tq z
            subst y_
            have tt := tq (by omega)
            have xx := xtok_L (T := T) (L := L) (s := q) (by omega) (by omega)
            exact ⟨by rw [yeq]; exact xx.1.symm, by rw [yne (by omega) rfl, yne (by omega) rfl, yne (by omega) rfl, yeq], by rw [yne (by omega) rfl, yeq]; exact xx.2.symm, fun x y hx => by rw [yne (by omega) rfl, yne (by omega) rfl, yne (by omega) rfl, yne (by omega) rfl]⟩
        · skip
          refine y_aload rfl rfl rfl ?_
          refine y_push rfl ?_
          refine y_pfi (j := 5) rfl rfl (by decide) rfl rfl rfl rfl rfl ?_
          refine y_goto rfl ?_
          refine y_ret rfl rfl ⟨rfl, ?_⟩
          have e : rend isSp T L q = q := rend_at (fun z => by have z2 := z.2; unfold isSp at z2; have z3 := of_decide_eq_true z2; have t := tq z.1; omega)
          have e2 : nmS T L p = q := by unfold nmS; rw [← h1, e]
          rw [e2]
          have t := fun z => tq z
          have xx := xtok_0 (T := T) (L := L) (s := q) (by omega)
          exact ⟨by rw [yeq]; exact xx.1.symm, by rw [yne (by omega) rfl, yne (by omega) rfl, yeq], by rw [yne (by omega) rfl, yeq]; exact xx.2.symm, fun x y hx => by rw [yne (by omega) rfl, yne (by omega) rfl, yne (by omega) rfl]⟩
      · skip
        refine y_iinc (L' := [some (2, 140), some (0, (q + 1))]) rfl rfl rfl rfl rfl (by omega) ?_
        refine y_goto rfl ?_
        refine ih (q + 1) (by omega) (by omega) ?_
        rw [← h1]
        exact (rend_go (by omega) (by unfold isSp; exact decide_eq_true (by have := tq (by omega); omega))).symm
theorem x_advanceToken {g : Launch × XG × va_G} {σ : YS} {T : Int → Int} {L : Int} {p : Int} (hL : σ 140 2 = L) (hT : ∀ k, 0 ≤ k → k < L → σ 141 k = T k) (hTr : ∀ k, 0 ≤ k → k < L → 0 ≤ T k ∧ T k ≤ 255) (hl : 0 ≤ L ∧ L ≤ 200) (he : σ 140 7 = p) (hp : 0 ≤ p ∧ p ≤ L) : YU g 44 [(2, 140)] σ (fun σ' => σ' 140 5 = xtok T L (nmS T L p) ∧ σ' 140 6 = nmS T L p ∧ σ' 140 7 = xtend T L (nmS T L p) ∧ ∀ x y, ¬ (x = 140 ∧ 5 ≤ y ∧ y ≤ 7) → σ' x y = σ x y) := by
  refine y_start rfl rfl rfl ?_
  refine y_aload rfl rfl rfl ?_
  refine y_gfi (v := (σ 140 7)) rfl rfl (by decide) rfl (by decide) rfl rfl ?_
  refine y_istore (L' := [some (2, 140), some (0, (σ 140 7))]) rfl rfl rfl rfl ?_
  rw [he]
  exact lx_advanceToken hL hT hTr hl he hp 202 p (by omega) (by omega) rfl
