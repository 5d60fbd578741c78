theorem lm_takeNumber {g : Launch × XG × va_G} {σ : YS} {T : Int → Int} {L : Int} {p : Int} (hL : σ 547 3 = L) (hT : ∀ k, 0 ≤ k → k < L → σ 550 k = T k) (hTr : ∀ k, 0 ≤ k → k < L → 0 ≤ T k ∧ T k ≤ 255) (hl : 0 ≤ L ∧ L ≤ 200) (ha : σ 547 8 = p) (hp : 0 ≤ p ∧ p ≤ L) (hs : nmS T L p ≠ L) : ∀ (nn : Nat) (q : Int) (v : Int), L - q < (nn : Int) → (nmS T L p ≤ q ∧ q ≤ L) → (rend isFig T L q = rend isFig T L (nmS T L p)) → (v = nv T (nmS T L p) q) → YW g 123 24 [some (2, 547), some (0, (nmS T L p)), some (0, v)] [] (yset σ 547 8 q) (fun rv σ' => ∃ b, rv = some (0, b) ∧ ((nmF T L p = -1 ∧ nmV T L p = b ∧ yset (yset σ 547 8 (nmD T L p)) 547 9 (σ 547 9) = σ') ∨ (nmF T L p ≠ -1 ∧ nmV T L p = b ∧ yset (yset σ 547 8 (nmD T L p)) 547 9 (nmF T L p) = σ'))) := by
  intro nn
  induction nn with
  | zero =>
    intro q v hn h0 h1 h2
    exfalso
    omega
  | succ nn ih =>
    intro q v hn h0 h1 h2
    have sr := nmS_r (T := T) hp.2
    refine y_aload rfl rfl rfl ?_
    refine y_gfi (v := q) rfl rfl (by decide) rfl (by decide) rfl (yeq _ _ _ _) ?_
    refine y_aload rfl rfl rfl ?_
    refine y_gfi (v := (σ 547 3)) rfl rfl (by decide) rfl (by decide) rfl (yne (by omega) rfl) ?_
    refine y_icge rfl (fun q32 => ?_) (fun q32 => ?_)
    · skip
      refine y_aload rfl rfl rfl ?_
      refine y_aload rfl rfl rfl ?_
      refine y_gfi (v := q) rfl rfl (by decide) rfl (by decide) rfl (yeq _ _ _ _) ?_
      refine y_iload rfl rfl ?_
      refine y_iceq rfl (fun q108 => ?_) (fun q108 => ?_)
      · skip
        refine y_iload rfl rfl ?_
        refine y_goto rfl ?_
        refine y_pfi (j := 9) rfl rfl (by decide) rfl rfl rfl rfl rfl ?_
        refine y_iload rfl rfl ?_
        refine y_iret rfl rfl ⟨_, rfl, ?_⟩
        have e : rend isFig T L q = q := rend_at (fun z => by have z2 := z.2; unfold isFig at z2; have z3 := of_decide_eq_true z2; first | omega | (have := hT q (by omega) (by omega); omega))
        have e1 : nmD T L p = q := by unfold nmD; rw [if_neg hs]; rw [← h1, e]
        have e2 : nmV T L p = v := by unfold nmV; rw [if_neg hs, e1, h2]
        have e3 : nmF T L p = nmS T L p := by unfold nmF; rw [if_neg hs, e1, if_pos (by omega)]
        have sr := nmS_r (T := T) hp.2
        exact Or.inr ⟨by omega, e2, by rw [e1, e3]⟩
      · skip
        refine y_aload rfl rfl rfl ?_
        refine y_gfi (v := q) rfl rfl (by decide) rfl (by decide) rfl (yeq _ _ _ _) ?_
        refine y_iload rfl rfl ?_
        refine y_isub (v := (q - (nmS T L p))) rfl rfl (by omega) ?_
        refine y_push rfl ?_
        refine y_icle rfl (fun q118 => ?_) (fun q118 => ?_)
        · skip
          refine y_aload rfl rfl rfl ?_
          refine y_gfi (v := (σ 547 9)) rfl rfl (by decide) rfl (by decide) rfl (yne (by omega) rfl) ?_
          refine y_pfi (j := 9) rfl rfl (by decide) rfl rfl rfl rfl rfl ?_
          refine y_iload rfl rfl ?_
          refine y_iret rfl rfl ⟨_, rfl, ?_⟩
          have e : rend isFig T L q = q := rend_at (fun z => by have z2 := z.2; unfold isFig at z2; have z3 := of_decide_eq_true z2; first | omega | (have := hT q (by omega) (by omega); omega))
          have e1 : nmD T L p = q := by unfold nmD; rw [if_neg hs]; rw [← h1, e]
          have e2 : nmV T L p = v := by unfold nmV; rw [if_neg hs, e1, h2]
          have e3 : nmF T L p = -1 := by unfold nmF; rw [if_neg hs, e1, if_neg (by omega)]
          exact Or.inl ⟨e3, e2, by rw [e1]⟩
        · skip
          refine y_iload rfl rfl ?_
          refine y_goto rfl ?_
          refine y_pfi (j := 9) rfl rfl (by decide) rfl rfl rfl rfl rfl ?_
          refine y_iload rfl rfl ?_
          refine y_iret rfl rfl ⟨_, rfl, ?_⟩
          have e : rend isFig T L q = q := rend_at (fun z => by have z2 := z.2; unfold isFig at z2; have z3 := of_decide_eq_true z2; first | omega | (have := hT q (by omega) (by omega); omega))
          have e1 : nmD T L p = q := by unfold nmD; rw [if_neg hs]; rw [← h1, e]
          have e2 : nmV T L p = v := by unfold nmV; rw [if_neg hs, e1, h2]
          have e3 : nmF T L p = nmS T L p := by unfold nmF; rw [if_neg hs, e1, if_pos (by omega)]
          have sr := nmS_r (T := T) hp.2
          exact Or.inr ⟨by omega, e2, by rw [e1, e3]⟩
    · skip
      have tq := hT q (by omega) (by omega)
      have tr := hTr q (by omega) (by omega)
      refine y_aload rfl rfl rfl ?_
      refine y_gfr (t := 550) rfl rfl (by decide) rfl (by decide) ?_
      refine y_aload rfl rfl rfl ?_
      refine y_gfi (v := q) rfl rfl (by decide) rfl (by decide) rfl (yeq _ _ _ _) ?_
      refine y_iald (v := (σ 550 q)) (n := 200) rfl rfl (by decide) rfl (by omega) (yne (by omega) rfl) ?_
      refine y_i2l rfl ?_
      refine y_ldc2 (v := 48) rfl rfl ?_
      refine y_ldc2 (v := 57) rfl rfl ?_
      refine y_si (as := [(1, (σ 550 q)), (1, 48), (1, 57)]) (S := []) rfl rfl rfl rfl rfl rfl m_lies ?_
      rintro _ _ ⟨rfl, rfl⟩
      refine y_ifeq rfl (fun q54 => ?_) (fun q54 => ?_)
      · skip
        replace q54 := yb_0.mp q54
        refine y_aload rfl rfl rfl ?_
        refine y_aload rfl rfl rfl ?_
        refine y_gfi (v := q) rfl rfl (by decide) rfl (by decide) rfl (yeq _ _ _ _) ?_
        refine y_iload rfl rfl ?_
        refine y_iceq rfl (fun q108 => ?_) (fun q108 => ?_)
        · skip
          refine y_iload rfl rfl ?_
          refine y_goto rfl ?_
          refine y_pfi (j := 9) rfl rfl (by decide) rfl rfl rfl rfl rfl ?_
          refine y_iload rfl rfl ?_
          refine y_iret rfl rfl ⟨_, rfl, ?_⟩
          have e : rend isFig T L q = q := rend_at (fun z => by have z2 := z.2; unfold isFig at z2; have z3 := of_decide_eq_true z2; first | omega | (have := hT q (by omega) (by omega); omega))
          have e1 : nmD T L p = q := by unfold nmD; rw [if_neg hs]; rw [← h1, e]
          have e2 : nmV T L p = v := by unfold nmV; rw [if_neg hs, e1, h2]
          have e3 : nmF T L p = nmS T L p := by unfold nmF; rw [if_neg hs, e1, if_pos (by omega)]
          have sr := nmS_r (T := T) hp.2
          exact Or.inr ⟨by omega, e2, by rw [e1, e3]⟩
        · skip
          refine y_aload rfl rfl rfl ?_
          refine y_gfi (v := q) rfl rfl (by decide) rfl (by decide) rfl (yeq _ _ _ _) ?_
          refine y_iload rfl rfl ?_
          refine y_isub (v := (q - (nmS T L p))) rfl rfl (by omega) ?_
          refine y_push rfl ?_
          refine y_icle rfl (fun q118 => ?_) (fun q118 => ?_)
          · skip
            refine y_aload rfl rfl rfl ?_
            refine y_gfi (v := (σ 547 9)) rfl rfl (by decide) rfl (by decide) rfl (yne (by omega) rfl) ?_
            refine y_pfi (j := 9) rfl rfl (by decide) rfl rfl rfl rfl rfl ?_
            refine y_iload rfl rfl ?_
            refine y_iret rfl rfl ⟨_, rfl, ?_⟩
            have e : rend isFig T L q = q := rend_at (fun z => by have z2 := z.2; unfold isFig at z2; have z3 := of_decide_eq_true z2; first | omega | (have := hT q (by omega) (by omega); omega))
            have e1 : nmD T L p = q := by unfold nmD; rw [if_neg hs]; rw [← h1, e]
            have e2 : nmV T L p = v := by unfold nmV; rw [if_neg hs, e1, h2]
            have e3 : nmF T L p = -1 := by unfold nmF; rw [if_neg hs, e1, if_neg (by omega)]
            exact Or.inl ⟨e3, e2, by rw [e1]⟩
          · skip
            refine y_iload rfl rfl ?_
            refine y_goto rfl ?_
            refine y_pfi (j := 9) rfl rfl (by decide) rfl rfl rfl rfl rfl ?_
            refine y_iload rfl rfl ?_
            refine y_iret rfl rfl ⟨_, rfl, ?_⟩
            have e : rend isFig T L q = q := rend_at (fun z => by have z2 := z.2; unfold isFig at z2; have z3 := of_decide_eq_true z2; first | omega | (have := hT q (by omega) (by omega); omega))
            have e1 : nmD T L p = q := by unfold nmD; rw [if_neg hs]; rw [← h1, e]
            have e2 : nmV T L p = v := by unfold nmV; rw [if_neg hs, e1, h2]
            have e3 : nmF T L p = nmS T L p := by unfold nmF; rw [if_neg hs, e1, if_pos (by omega)]
            have sr := nmS_r (T := T) hp.2
            exact Or.inr ⟨by omega, e2, by rw [e1, e3]⟩
      · skip
        replace q54 := yb_1.mp q54
        refine y_aload rfl rfl rfl ?_
        refine y_gfi (v := q) rfl rfl (by decide) rfl (by decide) rfl (yeq _ _ _ _) ?_
        refine y_iload rfl rfl ?_
        refine y_isub (v := (q - (nmS T L p))) rfl rfl (by omega) ?_
        refine y_push rfl ?_
        refine y_icge rfl (fun q64 => ?_) (fun q64 => ?_)
        · skip
          refine y_iload rfl rfl ?_
          refine y_istore (L' := [some (2, 547), some (0, (nmS T L p)), some (0, v)]) rfl rfl rfl rfl ?_
          refine y_aload rfl rfl rfl ?_
          refine y_dup rfl rfl ?_
          refine y_gfi (v := q) rfl rfl (by decide) rfl (by decide) rfl (yeq _ _ _ _) ?_
          refine y_push rfl ?_
          refine y_iadd (v := (q + 1)) rfl rfl (by omega) ?_
          refine y_pfi (j := 8) rfl rfl (by decide) rfl rfl rfl rfl rfl ?_
          refine y_goto rfl ?_
          rw [show (yset (yset σ 547 8 q) 547 8 (q + 1)) = yset σ 547 8 (q + 1) from by simp only [yset_2]]
          refine ih (q + 1) _ (by omega) (by omega) ?_ ?_
          · rw [← h1]
            exact (rend_go (by omega) (by unfold isFig; exact decide_eq_true (by omega))).symm
          · rw [h2]; unfold nv; (repeat' split) <;> first | omega | (have e_ : q = nmS T L p := (by omega); have t2 : T q = T (nmS T L p) := (by rw [e_]); omega) | (have e_ : q = nmS T L p + 1 := (by omega); have t2 : T q = T (nmS T L p + 1) := (by rw [e_]); omega)
        · skip
          have vb : 0 ≤ v ∧ v ≤ 9 := by
            rcases (by omega : q = nmS T L p ∨ q = nmS T L p + 1) with z | z
            · rw [h2, z]; unfold nv; rw [if_pos (by omega)]; omega
            · have t0 : isFig (T (nmS T L p)) = true := by
                cases y : isFig (T (nmS T L p)) with
                | true => rfl
                | false =>
                  exfalso
                  have r1 := rend_at (f := isFig) (T := T) (L := L) (p := nmS T L p) (fun w => by rw [y] at w; exact absurd w.2 (by decide))
                  have r2 := rend_r (f := isFig) (T := T) (L := L) (p := q) (by omega)
                  omega
              have t1 := of_decide_eq_true t0
              rw [h2, z]; unfold nv; rw [if_neg (by omega), if_pos rfl]; omega
          refine y_push rfl ?_
          refine y_iload rfl rfl ?_
          refine y_imul (v := (10 * v)) rfl rfl (by omega) ?_
          refine y_aload rfl rfl rfl ?_
          refine y_gfr (t := 550) rfl rfl (by decide) rfl (by decide) ?_
          refine y_aload rfl rfl rfl ?_
          refine y_gfi (v := q) rfl rfl (by decide) rfl (by decide) rfl (yeq _ _ _ _) ?_
          refine y_iald (v := (σ 550 q)) (n := 200) rfl rfl (by decide) rfl (by omega) (yne (by omega) rfl) ?_
          refine y_iadd (v := ((10 * v) + (σ 550 q))) rfl rfl (by omega) ?_
          refine y_push rfl ?_
          refine y_isub (v := (((10 * v) + (σ 550 q)) - 48)) rfl rfl (by omega) ?_
          refine y_goto rfl ?_
          refine y_istore (L' := [some (2, 547), some (0, (nmS T L p)), some (0, (((10 * v) + (σ 550 q)) - 48))]) rfl rfl rfl rfl ?_
          refine y_aload rfl rfl rfl ?_
          refine y_dup rfl rfl ?_
          refine y_gfi (v := q) rfl rfl (by decide) rfl (by decide) rfl (yeq _ _ _ _) ?_
          refine y_push rfl ?_
          refine y_iadd (v := (q + 1)) rfl rfl (by omega) ?_
          refine y_pfi (j := 8) rfl rfl (by decide) rfl rfl rfl rfl rfl ?_
          refine y_goto rfl ?_
          rw [show (yset (yset σ 547 8 q) 547 8 (q + 1)) = yset σ 547 8 (q + 1) from by simp only [yset_2]]
          refine ih (q + 1) _ (by omega) (by omega) ?_ ?_
          · rw [← h1]
            exact (rend_go (by omega) (by unfold isFig; exact decide_eq_true (by omega))).symm
          · rw [h2]; unfold nv; (repeat' split) <;> first | omega | (have e_ : q = nmS T L p := (by omega); have t2 : T q = T (nmS T L p) := (by rw [e_]); omega) | (have e_ : q = nmS T L p + 1 := (by omega); have t2 : T q = T (nmS T L p + 1) := (by rw [e_]); omega)
theorem m_takeNumber {g : Launch × XG × va_G} {σ : YS} {T : Int → Int} {L : Int} {p : Int} (hL : σ 547 3 = L) (hT : ∀ k, 0 ≤ k → k < L → σ 550 k = T k) (hTr : ∀ k, 0 ≤ k → k < L → 0 ≤ T k ∧ T k ≤ 255) (hl : 0 ≤ L ∧ L ≤ 200) (ha : σ 547 8 = p) (hp : 0 ≤ p ∧ p ≤ L) : YI g 123 [(2, 547)] σ (fun b σ' => (nmF T L p = -1 ∧ nmV T L p = b ∧ yset (yset σ 547 8 (nmD T L p)) 547 9 (σ 547 9) = σ') ∨ (nmF T L p ≠ -1 ∧ nmV T L p = b ∧ yset (yset σ 547 8 (nmD T L p)) 547 9 (nmF T L p) = σ')) := by
  refine y_start rfl rfl rfl ?_
  refine y_aload rfl rfl rfl ?_
  refine y_vi (as := [(2, 547)]) (S := []) rfl rfl rfl rfl rfl rfl (by decide) rfl (m_isEnd (p := p) hL hT hTr hl ha hp) ?_
  rintro _ _ ⟨rfl, rfl⟩
  refine y_ifeq rfl (fun q4 => ?_) (fun q4 => ?_)
  · skip
    replace q4 := yb_0.mp q4
    refine y_aload rfl rfl rfl ?_
    refine y_gfi (v := (nmS T L p)) rfl rfl (by decide) rfl (by decide) rfl (yeq _ _ _ _) ?_
    refine y_istore (L' := [some (2, 547), some (0, (nmS T L p)), none]) rfl rfl rfl rfl ?_
    refine y_push rfl ?_
    refine y_istore (L' := [some (2, 547), some (0, (nmS T L p)), some (0, 0)]) rfl rfl rfl rfl ?_
    have sr := nmS_r (T := T) hp.2
    exact lm_takeNumber hL hT hTr hl ha hp q4 202 (nmS T L p) 0 (by omega) (by omega) rfl (by unfold nv; rw [if_pos (by omega)])
  · skip
    replace q4 := yb_1.mp q4
    refine y_aload rfl rfl rfl ?_
    refine y_aload rfl rfl rfl ?_
    refine y_gfi (v := (σ 547 3)) rfl rfl (by decide) rfl (by decide) rfl (yne (by omega) rfl) ?_
    refine y_pfi (j := 9) rfl rfl (by decide) rfl rfl rfl rfl rfl ?_
    refine y_push rfl ?_
    refine y_iret rfl rfl ⟨_, rfl, ?_⟩
    have e1 : nmD T L p = L := by unfold nmD; rw [if_pos q4]
    have e2 : nmF T L p = L := by unfold nmF; rw [if_pos q4]
    exact Or.inr ⟨by omega, by unfold nmV; rw [if_pos q4], by rw [e1, e2, q4, hL]⟩
theorem lm_takeSigns {g : Launch × XG × va_G} {σ : YS} {T : Int → Int} {L : Int} {p it : Int} (hL : σ 547 3 = L) (hT : ∀ k, 0 ≤ k → k < L → σ 550 k = T k) (hTr : ∀ k, 0 ≤ k → k < L → 0 ≤ T k ∧ T k ≤ 255) (hl : 0 ≤ L ∧ L ≤ 200) (ha : σ 547 8 = p) (hp : 0 ≤ p ∧ p ≤ L) (hi : σ 547 7 = it) (hi2 : 0 ≤ it ∧ it < 40) (hs : nmS T L p ≠ L) : ∀ (nn : Nat) (q : Int), L - q < (nn : Int) → (nmS T L p + 1 ≤ q ∧ q ≤ L) → (rend isSg T L q = rend isSg T L (nmS T L p + 1)) → YW g 124 31 [some (2, 547), some (0, (nmS T L p)), none, none] [] (yset σ 547 8 q) (fun rv σ' => rv = none ∧ ((σ' 547 9 = if sqF T L p = -1 then σ 547 9 else sqF T L p) ∧ (sqF T L p = -1 → σ' 547 8 = sqG T L p + 1 ∧ σ' 553 (3 * it + 1) = nmS T L p + 1 ∧ σ' 553 (3 * it + 2) = sqG T L p - nmS T L p - 1) ∧ (∀ x y, ¬ (x = 547 ∧ (y = 8 ∨ y = 9)) → ¬ (x = 553 ∧ (y = 3 * it + 1 ∨ y = 3 * it + 2)) → σ' x y = σ x y) ∧ 0 ≤ σ' 547 8 ∧ σ' 547 8 ≤ 201)) := by
  intro nn
  induction nn with
  | zero =>
    intro q hn h0 h1
    exfalso
    omega
  | succ nn ih =>
    intro q hn h0 h1
    have sr := nmS_r (T := T) hp.2
    refine y_aload rfl rfl rfl ?_
    refine y_gfi (v := q) rfl rfl (by decide) rfl (by decide) rfl (yeq _ _ _ _) ?_
    refine y_aload rfl rfl rfl ?_
    refine y_gfi (v := (σ 547 3)) rfl rfl (by decide) rfl (by decide) rfl (yne (by omega) rfl) ?_
    refine y_icge rfl (fun q39 => ?_) (fun q39 => ?_)
    · skip
      refine y_aload rfl rfl rfl ?_
      refine y_gfi (v := q) rfl rfl (by decide) rfl (by decide) rfl (yeq _ _ _ _) ?_
      refine y_iload rfl rfl ?_
      refine y_isub (v := (q - (nmS T L p))) rfl rfl (by omega) ?_
      refine y_push rfl ?_
      refine y_isub (v := ((q - (nmS T L p)) - 1)) rfl rfl (by omega) ?_
      refine y_istore (L' := [some (2, 547), some (0, (nmS T L p)), some (0, ((q - (nmS T L p)) - 1)), none]) rfl rfl rfl rfl ?_
      have ts := hT (nmS T L p) (by omega) (by omega)
      refine y_aload rfl rfl rfl ?_
      refine y_gfr (t := 550) rfl rfl (by decide) rfl (by decide) ?_
      refine y_iload rfl rfl ?_
      refine y_iald (v := (σ 550 (nmS T L p))) (n := 200) rfl rfl (by decide) rfl (by omega) (yne (by omega) rfl) ?_
      refine y_push rfl ?_
      refine y_icne rfl (fun q88 => ?_) (fun q88 => ?_)
      · skip
        refine y_push rfl ?_
        refine y_istore (L' := [some (2, 547), some (0, (nmS T L p)), some (0, ((q - (nmS T L p)) - 1)), some (0, 0)]) rfl rfl rfl rfl ?_
        refine y_aload rfl rfl rfl ?_
        refine y_iload rfl rfl ?_
        refine y_ifeq rfl (fun q136 => ?_) (fun q136 => ?_)
        · skip
          refine y_iload rfl rfl ?_
          refine y_pfi (j := 9) rfl rfl (by decide) rfl rfl rfl rfl rfl ?_
          refine y_aload rfl rfl rfl ?_
          refine y_gfr (t := 553) rfl rfl (by decide) rfl (by decide) ?_
          refine y_push rfl ?_
          refine y_aload rfl rfl rfl ?_
          refine y_gfi (v := (σ 547 7)) rfl rfl (by decide) rfl (by decide) rfl (yne (by omega) (yne (by omega) rfl)) ?_
          refine y_imul (v := (3 * (σ 547 7))) rfl rfl (by omega) ?_
          refine y_push rfl ?_
          refine y_iadd (v := ((3 * (σ 547 7)) + 1)) rfl rfl (by omega) ?_
          refine y_iload rfl rfl ?_
          refine y_push rfl ?_
          refine y_iadd (v := ((nmS T L p) + 1)) rfl rfl (by omega) ?_
          refine y_iast (n := 120) rfl rfl (by decide) rfl (by omega) ?_
          refine y_aload rfl rfl rfl ?_
          refine y_gfr (t := 553) rfl rfl (by decide) rfl (by decide) ?_
          refine y_push rfl ?_
          refine y_aload rfl rfl rfl ?_
          refine y_gfi (v := (σ 547 7)) rfl rfl (by decide) rfl (by decide) rfl (yne (by omega) (yne (by omega) (yne (by omega) rfl))) ?_
          refine y_imul (v := (3 * (σ 547 7))) rfl rfl (by omega) ?_
          refine y_push rfl ?_
          refine y_iadd (v := ((3 * (σ 547 7)) + 2)) rfl rfl (by omega) ?_
          refine y_iload rfl rfl ?_
          refine y_iast (n := 120) rfl rfl (by decide) rfl (by omega) ?_
          refine y_aload rfl rfl rfl ?_
          refine y_dup rfl rfl ?_
          refine y_gfi (v := q) rfl rfl (by decide) rfl (by decide) rfl (yne (by omega) (yne (by omega) (yne (by omega) (yeq _ _ _ _)))) ?_
          refine y_push rfl ?_
          refine y_iadd (v := (q + 1)) rfl rfl (by omega) ?_
          refine y_pfi (j := 8) rfl rfl (by decide) rfl rfl rfl rfl rfl ?_
          refine y_ret rfl rfl ⟨rfl, ?_⟩
          subst hi
          have e : rend isSg T L q = q := rend_at (fun z => by have z2 := z.2; unfold isSg at z2; have z3 := of_decide_eq_true z2; first | omega | (have := hT q (by omega) (by omega); rw [this] at q55; exact z3 q55))
          have eg : sqG T L p = q := by unfold sqG; rw [← h1, e]
          have ts := hT (nmS T L p) (by omega) (by omega)
          have sr := nmS_r (T := T) hp.2
          have ok : ¬ sqOk T L p := by unfold sqOk; rw [eg]; intro z; first | omega | (have tq := hT q (by omega) (by omega); omega)
          have e2 : sqF T L p = nmS T L p := by unfold sqF; rw [if_neg hs, if_neg ok]
          rw [e2]
          exact ⟨by rw [yne (by omega) rfl, yne (by omega) rfl, yne (by omega) rfl, yeq, if_neg (by omega)], fun z => (by omega), fun x y a b => by rw [yne (by omega) rfl, yne (by omega) rfl, yne (by omega) rfl, yne (by omega) rfl, yne (by omega) rfl], by rw [yeq]; omega, by rw [yeq]; omega⟩
        · exfalso; omega
      · skip
        refine y_aload rfl rfl rfl ?_
        refine y_gfi (v := q) rfl rfl (by decide) rfl (by decide) rfl (yeq _ _ _ _) ?_
        refine y_aload rfl rfl rfl ?_
        refine y_gfi (v := (σ 547 3)) rfl rfl (by decide) rfl (by decide) rfl (yne (by omega) rfl) ?_
        refine y_icge rfl (fun q99 => ?_) (fun q99 => ?_)
        · skip
          refine y_push rfl ?_
          refine y_istore (L' := [some (2, 547), some (0, (nmS T L p)), some (0, ((q - (nmS T L p)) - 1)), some (0, 0)]) rfl rfl rfl rfl ?_
          refine y_aload rfl rfl rfl ?_
          refine y_iload rfl rfl ?_
          refine y_ifeq rfl (fun q136 => ?_) (fun q136 => ?_)
          · skip
            refine y_iload rfl rfl ?_
            refine y_pfi (j := 9) rfl rfl (by decide) rfl rfl rfl rfl rfl ?_
            refine y_aload rfl rfl rfl ?_
            refine y_gfr (t := 553) rfl rfl (by decide) rfl (by decide) ?_
            refine y_push rfl ?_
            refine y_aload rfl rfl rfl ?_
            refine y_gfi (v := (σ 547 7)) rfl rfl (by decide) rfl (by decide) rfl (yne (by omega) (yne (by omega) rfl)) ?_
            refine y_imul (v := (3 * (σ 547 7))) rfl rfl (by omega) ?_
            refine y_push rfl ?_
            refine y_iadd (v := ((3 * (σ 547 7)) + 1)) rfl rfl (by omega) ?_
            refine y_iload rfl rfl ?_
            refine y_push rfl ?_
            refine y_iadd (v := ((nmS T L p) + 1)) rfl rfl (by omega) ?_
            refine y_iast (n := 120) rfl rfl (by decide) rfl (by omega) ?_
            refine y_aload rfl rfl rfl ?_
            refine y_gfr (t := 553) rfl rfl (by decide) rfl (by decide) ?_
            refine y_push rfl ?_
            refine y_aload rfl rfl rfl ?_
            refine y_gfi (v := (σ 547 7)) rfl rfl (by decide) rfl (by decide) rfl (yne (by omega) (yne (by omega) (yne (by omega) rfl))) ?_
            refine y_imul (v := (3 * (σ 547 7))) rfl rfl (by omega) ?_
            refine y_push rfl ?_
            refine y_iadd (v := ((3 * (σ 547 7)) + 2)) rfl rfl (by omega) ?_
            refine y_iload rfl rfl ?_
            refine y_iast (n := 120) rfl rfl (by decide) rfl (by omega) ?_
            refine y_aload rfl rfl rfl ?_
            refine y_dup rfl rfl ?_
            refine y_gfi (v := q) rfl rfl (by decide) rfl (by decide) rfl (yne (by omega) (yne (by omega) (yne (by omega) (yeq _ _ _ _)))) ?_
            refine y_push rfl ?_
            refine y_iadd (v := (q + 1)) rfl rfl (by omega) ?_
            refine y_pfi (j := 8) rfl rfl (by decide) rfl rfl rfl rfl rfl ?_
            refine y_ret rfl rfl ⟨rfl, ?_⟩
            subst hi
            have e : rend isSg T L q = q := rend_at (fun z => by have z2 := z.2; unfold isSg at z2; have z3 := of_decide_eq_true z2; first | omega | (have := hT q (by omega) (by omega); rw [this] at q55; exact z3 q55))
            have eg : sqG T L p = q := by unfold sqG; rw [← h1, e]
            have ts := hT (nmS T L p) (by omega) (by omega)
            have sr := nmS_r (T := T) hp.2
            have ok : ¬ sqOk T L p := by unfold sqOk; rw [eg]; intro z; first | omega | (have tq := hT q (by omega) (by omega); omega)
            have e2 : sqF T L p = nmS T L p := by unfold sqF; rw [if_neg hs, if_neg ok]
            rw [e2]
            exact ⟨by rw [yne (by omega) rfl, yne (by omega) rfl, yne (by omega) rfl, yeq, if_neg (by omega)], fun z => (by omega), fun x y a b => by rw [yne (by omega) rfl, yne (by omega) rfl, yne (by omega) rfl, yne (by omega) rfl, yne (by omega) rfl], by rw [yeq]; omega, by rw [yeq]; omega⟩
          · exfalso; omega
        · skip
          refine y_aload rfl rfl rfl ?_
          refine y_gfr (t := 550) rfl rfl (by decide) rfl (by decide) ?_
          refine y_aload rfl rfl rfl ?_
          refine y_gfi (v := q) rfl rfl (by decide) rfl (by decide) rfl (yeq _ _ _ _) ?_
          refine y_iald (v := (σ 550 q)) (n := 200) rfl rfl (by decide) rfl (by omega) (yne (by omega) rfl) ?_
          refine y_push rfl ?_
          refine y_icne rfl (fun q113 => ?_) (fun q113 => ?_)
          · skip
            refine y_push rfl ?_
            refine y_istore (L' := [some (2, 547), some (0, (nmS T L p)), some (0, ((q - (nmS T L p)) - 1)), some (0, 0)]) rfl rfl rfl rfl ?_
            refine y_aload rfl rfl rfl ?_
            refine y_iload rfl rfl ?_
            refine y_ifeq rfl (fun q136 => ?_) (fun q136 => ?_)
            · skip
              refine y_iload rfl rfl ?_
              refine y_pfi (j := 9) rfl rfl (by decide) rfl rfl rfl rfl rfl ?_
              refine y_aload rfl rfl rfl ?_
              refine y_gfr (t := 553) rfl rfl (by decide) rfl (by decide) ?_
              refine y_push rfl ?_
              refine y_aload rfl rfl rfl ?_
              refine y_gfi (v := (σ 547 7)) rfl rfl (by decide) rfl (by decide) rfl (yne (by omega) (yne (by omega) rfl)) ?_
              refine y_imul (v := (3 * (σ 547 7))) rfl rfl (by omega) ?_
              refine y_push rfl ?_
              refine y_iadd (v := ((3 * (σ 547 7)) + 1)) rfl rfl (by omega) ?_
              refine y_iload rfl rfl ?_
              refine y_push rfl ?_
              refine y_iadd (v := ((nmS T L p) + 1)) rfl rfl (by omega) ?_
              refine y_iast (n := 120) rfl rfl (by decide) rfl (by omega) ?_
              refine y_aload rfl rfl rfl ?_
              refine y_gfr (t := 553) rfl rfl (by decide) rfl (by decide) ?_
              refine y_push rfl ?_
              refine y_aload rfl rfl rfl ?_
              refine y_gfi (v := (σ 547 7)) rfl rfl (by decide) rfl (by decide) rfl (yne (by omega) (yne (by omega) (yne (by omega) rfl))) ?_
              refine y_imul (v := (3 * (σ 547 7))) rfl rfl (by omega) ?_
              refine y_push rfl ?_
              refine y_iadd (v := ((3 * (σ 547 7)) + 2)) rfl rfl (by omega) ?_
              refine y_iload rfl rfl ?_
              refine y_iast (n := 120) rfl rfl (by decide) rfl (by omega) ?_
              refine y_aload rfl rfl rfl ?_
              refine y_dup rfl rfl ?_
              refine y_gfi (v := q) rfl rfl (by decide) rfl (by decide) rfl (yne (by omega) (yne (by omega) (yne (by omega) (yeq _ _ _ _)))) ?_
              refine y_push rfl ?_
              refine y_iadd (v := (q + 1)) rfl rfl (by omega) ?_
              refine y_pfi (j := 8) rfl rfl (by decide) rfl rfl rfl rfl rfl ?_
              refine y_ret rfl rfl ⟨rfl, ?_⟩
              subst hi
              have e : rend isSg T L q = q := rend_at (fun z => by have z2 := z.2; unfold isSg at z2; have z3 := of_decide_eq_true z2; first | omega | (have := hT q (by omega) (by omega); rw [this] at q55; exact z3 q55))
              have eg : sqG T L p = q := by unfold sqG; rw [← h1, e]
              have ts := hT (nmS T L p) (by omega) (by omega)
              have sr := nmS_r (T := T) hp.2
              have ok : ¬ sqOk T L p := by unfold sqOk; rw [eg]; intro z; first | omega | (have tq := hT q (by omega) (by omega); omega)
              have e2 : sqF T L p = nmS T L p := by unfold sqF; rw [if_neg hs, if_neg ok]
              rw [e2]
              exact ⟨by rw [yne (by omega) rfl, yne (by omega) rfl, yne (by omega) rfl, yeq, if_neg (by omega)], fun z => (by omega), fun x y a b => by rw [yne (by omega) rfl, yne (by omega) rfl, yne (by omega) rfl, yne (by omega) rfl, yne (by omega) rfl], by rw [yeq]; omega, by rw [yeq]; omega⟩
            · exfalso; omega
          · skip
            refine y_iload rfl rfl ?_
            refine y_i2l rfl ?_
            refine y_lconst (v := 1) rfl rfl ?_
            refine y_ldc2 (v := 24) rfl rfl ?_
            refine y_si (as := [(1, ((q - (nmS T L p)) - 1)), (1, 1), (1, 24)]) (S := []) rfl rfl rfl rfl rfl rfl m_lies ?_
            rintro _ _ ⟨rfl, rfl⟩
            refine y_ifeq rfl (fun q125 => ?_) (fun q125 => ?_)
            · skip
              replace q125 := yb_0.mp q125
              refine y_push rfl ?_
              refine y_istore (L' := [some (2, 547), some (0, (nmS T L p)), some (0, ((q - (nmS T L p)) - 1)), some (0, 0)]) rfl rfl rfl rfl ?_
              refine y_aload rfl rfl rfl ?_
              refine y_iload rfl rfl ?_
              refine y_ifeq rfl (fun q136 => ?_) (fun q136 => ?_)
              · skip
                refine y_iload rfl rfl ?_
                refine y_pfi (j := 9) rfl rfl (by decide) rfl rfl rfl rfl rfl ?_
                refine y_aload rfl rfl rfl ?_
                refine y_gfr (t := 553) rfl rfl (by decide) rfl (by decide) ?_
                refine y_push rfl ?_
                refine y_aload rfl rfl rfl ?_
                refine y_gfi (v := (σ 547 7)) rfl rfl (by decide) rfl (by decide) rfl (yne (by omega) (yne (by omega) rfl)) ?_
                refine y_imul (v := (3 * (σ 547 7))) rfl rfl (by omega) ?_
                refine y_push rfl ?_
                refine y_iadd (v := ((3 * (σ 547 7)) + 1)) rfl rfl (by omega) ?_
                refine y_iload rfl rfl ?_
                refine y_push rfl ?_
                refine y_iadd (v := ((nmS T L p) + 1)) rfl rfl (by omega) ?_
                refine y_iast (n := 120) rfl rfl (by decide) rfl (by omega) ?_
                refine y_aload rfl rfl rfl ?_
                refine y_gfr (t := 553) rfl rfl (by decide) rfl (by decide) ?_
                refine y_push rfl ?_
                refine y_aload rfl rfl rfl ?_
                refine y_gfi (v := (σ 547 7)) rfl rfl (by decide) rfl (by decide) rfl (yne (by omega) (yne (by omega) (yne (by omega) rfl))) ?_
                refine y_imul (v := (3 * (σ 547 7))) rfl rfl (by omega) ?_
                refine y_push rfl ?_
                refine y_iadd (v := ((3 * (σ 547 7)) + 2)) rfl rfl (by omega) ?_
                refine y_iload rfl rfl ?_
                refine y_iast (n := 120) rfl rfl (by decide) rfl (by omega) ?_
                refine y_aload rfl rfl rfl ?_
                refine y_dup rfl rfl ?_
                refine y_gfi (v := q) rfl rfl (by decide) rfl (by decide) rfl (yne (by omega) (yne (by omega) (yne (by omega) (yeq _ _ _ _)))) ?_
                refine y_push rfl ?_
                refine y_iadd (v := (q + 1)) rfl rfl (by omega) ?_
                refine y_pfi (j := 8) rfl rfl (by decide) rfl rfl rfl rfl rfl ?_
                refine y_ret rfl rfl ⟨rfl, ?_⟩
                subst hi
                have e : rend isSg T L q = q := rend_at (fun z => by have z2 := z.2; unfold isSg at z2; have z3 := of_decide_eq_true z2; first | omega | (have := hT q (by omega) (by omega); rw [this] at q55; exact z3 q55))
                have eg : sqG T L p = q := by unfold sqG; rw [← h1, e]
                have ts := hT (nmS T L p) (by omega) (by omega)
                have sr := nmS_r (T := T) hp.2
                have ok : ¬ sqOk T L p := by unfold sqOk; rw [eg]; intro z; first | omega | (have tq := hT q (by omega) (by omega); omega)
                have e2 : sqF T L p = nmS T L p := by unfold sqF; rw [if_neg hs, if_neg ok]
                rw [e2]
                exact ⟨by rw [yne (by omega) rfl, yne (by omega) rfl, yne (by omega) rfl, yeq, if_neg (by omega)], fun z => (by omega), fun x y a b => by rw [yne (by omega) rfl, yne (by omega) rfl, yne (by omega) rfl, yne (by omega) rfl, yne (by omega) rfl], by rw [yeq]; omega, by rw [yeq]; omega⟩
              · exfalso; omega
            · skip
              replace q125 := yb_1.mp q125
              refine y_push rfl ?_
              refine y_goto rfl ?_
              refine y_istore (L' := [some (2, 547), some (0, (nmS T L p)), some (0, ((q - (nmS T L p)) - 1)), some (0, 1)]) rfl rfl rfl rfl ?_
              refine y_aload rfl rfl rfl ?_
              refine y_iload rfl rfl ?_
              refine y_ifeq rfl (fun q136 => ?_) (fun q136 => ?_)
              · exfalso; omega
              · skip
                refine y_aload rfl rfl rfl ?_
                refine y_gfi (v := (σ 547 9)) rfl rfl (by decide) rfl (by decide) rfl (yne (by omega) rfl) ?_
                refine y_goto rfl ?_
                refine y_pfi (j := 9) rfl rfl (by decide) rfl rfl rfl rfl rfl ?_
                refine y_aload rfl rfl rfl ?_
                refine y_gfr (t := 553) rfl rfl (by decide) rfl (by decide) ?_
                refine y_push rfl ?_
                refine y_aload rfl rfl rfl ?_
                refine y_gfi (v := (σ 547 7)) rfl rfl (by decide) rfl (by decide) rfl (yne (by omega) (yne (by omega) rfl)) ?_
                refine y_imul (v := (3 * (σ 547 7))) rfl rfl (by omega) ?_
                refine y_push rfl ?_
                refine y_iadd (v := ((3 * (σ 547 7)) + 1)) rfl rfl (by omega) ?_
                refine y_iload rfl rfl ?_
                refine y_push rfl ?_
                refine y_iadd (v := ((nmS T L p) + 1)) rfl rfl (by omega) ?_
                refine y_iast (n := 120) rfl rfl (by decide) rfl (by omega) ?_
                refine y_aload rfl rfl rfl ?_
                refine y_gfr (t := 553) rfl rfl (by decide) rfl (by decide) ?_
                refine y_push rfl ?_
                refine y_aload rfl rfl rfl ?_
                refine y_gfi (v := (σ 547 7)) rfl rfl (by decide) rfl (by decide) rfl (yne (by omega) (yne (by omega) (yne (by omega) rfl))) ?_
                refine y_imul (v := (3 * (σ 547 7))) rfl rfl (by omega) ?_
                refine y_push rfl ?_
                refine y_iadd (v := ((3 * (σ 547 7)) + 2)) rfl rfl (by omega) ?_
                refine y_iload rfl rfl ?_
                refine y_iast (n := 120) rfl rfl (by decide) rfl (by omega) ?_
                refine y_aload rfl rfl rfl ?_
                refine y_dup rfl rfl ?_
                refine y_gfi (v := q) rfl rfl (by decide) rfl (by decide) rfl (yne (by omega) (yne (by omega) (yne (by omega) (yeq _ _ _ _)))) ?_
                refine y_push rfl ?_
                refine y_iadd (v := (q + 1)) rfl rfl (by omega) ?_
                refine y_pfi (j := 8) rfl rfl (by decide) rfl rfl rfl rfl rfl ?_
                refine y_ret rfl rfl ⟨rfl, ?_⟩
                subst hi
                have e : rend isSg T L q = q := rend_at (fun z => by have z2 := z.2; unfold isSg at z2; have z3 := of_decide_eq_true z2; first | omega | (have := hT q (by omega) (by omega); rw [this] at q55; exact z3 q55))
                have eg : sqG T L p = q := by unfold sqG; rw [← h1, e]
                have ts := hT (nmS T L p) (by omega) (by omega)
                have sr := nmS_r (T := T) hp.2
                have tq := hT q (by omega) (by omega)
                have ok : sqOk T L p := by unfold sqOk; rw [eg]; exact ⟨by omega, by omega, by omega, by omega, by omega⟩
                have e2 : sqF T L p = -1 := by unfold sqF; rw [if_neg hs, if_pos ok]
                rw [e2, eg]
                exact ⟨by rw [yne (by omega) rfl, yne (by omega) rfl, yne (by omega) rfl, yeq, if_pos rfl], fun z => ⟨yeq _ _ _ _, by rw [yne (by omega) rfl, yne (by omega) rfl, yeq], by rw [yne (by omega) rfl, yeq]⟩, fun x y a b => by rw [yne (by omega) rfl, yne (by omega) rfl, yne (by omega) rfl, yne (by omega) rfl, yne (by omega) rfl], by rw [yeq]; omega, by rw [yeq]; omega⟩
    · skip
      refine y_aload rfl rfl rfl ?_
      refine y_gfr (t := 550) rfl rfl (by decide) rfl (by decide) ?_
      refine y_aload rfl rfl rfl ?_
      refine y_gfi (v := q) rfl rfl (by decide) rfl (by decide) rfl (yeq _ _ _ _) ?_
      refine y_iald (v := (σ 550 q)) (n := 200) rfl rfl (by decide) rfl (by omega) (yne (by omega) rfl) ?_
      refine y_si (as := [(0, (σ 550 q))]) (S := []) rfl rfl rfl rfl rfl rfl m_signOf ?_
      rintro _ _ ⟨rfl, rfl⟩
      refine y_push rfl ?_
      refine y_iceq rfl (fun q55 => ?_) (fun q55 => ?_)
      · skip
        refine y_aload rfl rfl rfl ?_
        refine y_gfi (v := q) rfl rfl (by decide) rfl (by decide) rfl (yeq _ _ _ _) ?_
        refine y_iload rfl rfl ?_
        refine y_isub (v := (q - (nmS T L p))) rfl rfl (by omega) ?_
        refine y_push rfl ?_
        refine y_isub (v := ((q - (nmS T L p)) - 1)) rfl rfl (by omega) ?_
        refine y_istore (L' := [some (2, 547), some (0, (nmS T L p)), some (0, ((q - (nmS T L p)) - 1)), none]) rfl rfl rfl rfl ?_
        have ts := hT (nmS T L p) (by omega) (by omega)
        refine y_aload rfl rfl rfl ?_
        refine y_gfr (t := 550) rfl rfl (by decide) rfl (by decide) ?_
        refine y_iload rfl rfl ?_
        refine y_iald (v := (σ 550 (nmS T L p))) (n := 200) rfl rfl (by decide) rfl (by omega) (yne (by omega) rfl) ?_
        refine y_push rfl ?_
        refine y_icne rfl (fun q88 => ?_) (fun q88 => ?_)
        · skip
          refine y_push rfl ?_
          refine y_istore (L' := [some (2, 547), some (0, (nmS T L p)), some (0, ((q - (nmS T L p)) - 1)), some (0, 0)]) rfl rfl rfl rfl ?_
          refine y_aload rfl rfl rfl ?_
          refine y_iload rfl rfl ?_
          refine y_ifeq rfl (fun q136 => ?_) (fun q136 => ?_)
          · skip
            refine y_iload rfl rfl ?_
            refine y_pfi (j := 9) rfl rfl (by decide) rfl rfl rfl rfl rfl ?_
            refine y_aload rfl rfl rfl ?_
            refine y_gfr (t := 553) rfl rfl (by decide) rfl (by decide) ?_
            refine y_push rfl ?_
            refine y_aload rfl rfl rfl ?_
            refine y_gfi (v := (σ 547 7)) rfl rfl (by decide) rfl (by decide) rfl (yne (by omega) (yne (by omega) rfl)) ?_
            refine y_imul (v := (3 * (σ 547 7))) rfl rfl (by omega) ?_
            refine y_push rfl ?_
            refine y_iadd (v := ((3 * (σ 547 7)) + 1)) rfl rfl (by omega) ?_
            refine y_iload rfl rfl ?_
            refine y_push rfl ?_
            refine y_iadd (v := ((nmS T L p) + 1)) rfl rfl (by omega) ?_
            refine y_iast (n := 120) rfl rfl (by decide) rfl (by omega) ?_
            refine y_aload rfl rfl rfl ?_
            refine y_gfr (t := 553) rfl rfl (by decide) rfl (by decide) ?_
            refine y_push rfl ?_
            refine y_aload rfl rfl rfl ?_
            refine y_gfi (v := (σ 547 7)) rfl rfl (by decide) rfl (by decide) rfl (yne (by omega) (yne (by omega) (yne (by omega) rfl))) ?_
            refine y_imul (v := (3 * (σ 547 7))) rfl rfl (by omega) ?_
            refine y_push rfl ?_
            refine y_iadd (v := ((3 * (σ 547 7)) + 2)) rfl rfl (by omega) ?_
            refine y_iload rfl rfl ?_
            refine y_iast (n := 120) rfl rfl (by decide) rfl (by omega) ?_
            refine y_aload rfl rfl rfl ?_
            refine y_dup rfl rfl ?_
            refine y_gfi (v := q) rfl rfl (by decide) rfl (by decide) rfl (yne (by omega) (yne (by omega) (yne (by omega) (yeq _ _ _ _)))) ?_
            refine y_push rfl ?_
            refine y_iadd (v := (q + 1)) rfl rfl (by omega) ?_
            refine y_pfi (j := 8) rfl rfl (by decide) rfl rfl rfl rfl rfl ?_
            refine y_ret rfl rfl ⟨rfl, ?_⟩
            subst hi
            have e : rend isSg T L q = q := rend_at (fun z => by have z2 := z.2; unfold isSg at z2; have z3 := of_decide_eq_true z2; first | omega | (have := hT q (by omega) (by omega); rw [this] at q55; exact z3 q55))
            have eg : sqG T L p = q := by unfold sqG; rw [← h1, e]
            have ts := hT (nmS T L p) (by omega) (by omega)
            have sr := nmS_r (T := T) hp.2
            have ok : ¬ sqOk T L p := by unfold sqOk; rw [eg]; intro z; first | omega | (have tq := hT q (by omega) (by omega); omega)
            have e2 : sqF T L p = nmS T L p := by unfold sqF; rw [if_neg hs, if_neg ok]
            rw [e2]
            exact ⟨by rw [yne (by omega) rfl, yne (by omega) rfl, yne (by omega) rfl, yeq, if_neg (by omega)], fun z => (by omega), fun x y a b => by rw [yne (by omega) rfl, yne (by omega) rfl, yne (by omega) rfl, yne (by omega) rfl, yne (by omega) rfl], by rw [yeq]; omega, by rw [yeq]; omega⟩
          · exfalso; omega
        · skip
          refine y_aload rfl rfl rfl ?_
          refine y_gfi (v := q) rfl rfl (by decide) rfl (by decide) rfl (yeq _ _ _ _) ?_
          refine y_aload rfl rfl rfl ?_
          refine y_gfi (v := (σ 547 3)) rfl rfl (by decide) rfl (by decide) rfl (yne (by omega) rfl) ?_
          refine y_icge rfl (fun q99 => ?_) (fun q99 => ?_)
          · skip
            refine y_push rfl ?_
            refine y_istore (L' := [some (2, 547), some (0, (nmS T L p)), some (0, ((q - (nmS T L p)) - 1)), some (0, 0)]) rfl rfl rfl rfl ?_
            refine y_aload rfl rfl rfl ?_
            refine y_iload rfl rfl ?_
            refine y_ifeq rfl (fun q136 => ?_) (fun q136 => ?_)
            · skip
              refine y_iload rfl rfl ?_
              refine y_pfi (j := 9) rfl rfl (by decide) rfl rfl rfl rfl rfl ?_
              refine y_aload rfl rfl rfl ?_
              refine y_gfr (t := 553) rfl rfl (by decide) rfl (by decide) ?_
              refine y_push rfl ?_
              refine y_aload rfl rfl rfl ?_
              refine y_gfi (v := (σ 547 7)) rfl rfl (by decide) rfl (by decide) rfl (yne (by omega) (yne (by omega) rfl)) ?_
              refine y_imul (v := (3 * (σ 547 7))) rfl rfl (by omega) ?_
              refine y_push rfl ?_
              refine y_iadd (v := ((3 * (σ 547 7)) + 1)) rfl rfl (by omega) ?_
              refine y_iload rfl rfl ?_
              refine y_push rfl ?_
              refine y_iadd (v := ((nmS T L p) + 1)) rfl rfl (by omega) ?_
              refine y_iast (n := 120) rfl rfl (by decide) rfl (by omega) ?_
              refine y_aload rfl rfl rfl ?_
              refine y_gfr (t := 553) rfl rfl (by decide) rfl (by decide) ?_
              refine y_push rfl ?_
              refine y_aload rfl rfl rfl ?_
              refine y_gfi (v := (σ 547 7)) rfl rfl (by decide) rfl (by decide) rfl (yne (by omega) (yne (by omega) (yne (by omega) rfl))) ?_
              refine y_imul (v := (3 * (σ 547 7))) rfl rfl (by omega) ?_
              refine y_push rfl ?_
              refine y_iadd (v := ((3 * (σ 547 7)) + 2)) rfl rfl (by omega) ?_
              refine y_iload rfl rfl ?_
              refine y_iast (n := 120) rfl rfl (by decide) rfl (by omega) ?_
              refine y_aload rfl rfl rfl ?_
              refine y_dup rfl rfl ?_
              refine y_gfi (v := q) rfl rfl (by decide) rfl (by decide) rfl (yne (by omega) (yne (by omega) (yne (by omega) (yeq _ _ _ _)))) ?_
              refine y_push rfl ?_
              refine y_iadd (v := (q + 1)) rfl rfl (by omega) ?_
              refine y_pfi (j := 8) rfl rfl (by decide) rfl rfl rfl rfl rfl ?_
              refine y_ret rfl rfl ⟨rfl, ?_⟩
              subst hi
              have e : rend isSg T L q = q := rend_at (fun z => by have z2 := z.2; unfold isSg at z2; have z3 := of_decide_eq_true z2; first | omega | (have := hT q (by omega) (by omega); rw [this] at q55; exact z3 q55))
              have eg : sqG T L p = q := by unfold sqG; rw [← h1, e]
              have ts := hT (nmS T L p) (by omega) (by omega)
              have sr := nmS_r (T := T) hp.2
              have ok : ¬ sqOk T L p := by unfold sqOk; rw [eg]; intro z; first | omega | (have tq := hT q (by omega) (by omega); omega)
              have e2 : sqF T L p = nmS T L p := by unfold sqF; rw [if_neg hs, if_neg ok]
              rw [e2]
              exact ⟨by rw [yne (by omega) rfl, yne (by omega) rfl, yne (by omega) rfl, yeq, if_neg (by omega)], fun z => (by omega), fun x y a b => by rw [yne (by omega) rfl, yne (by omega) rfl, yne (by omega) rfl, yne (by omega) rfl, yne (by omega) rfl], by rw [yeq]; omega, by rw [yeq]; omega⟩
            · exfalso; omega
          · skip
            refine y_aload rfl rfl rfl ?_
            refine y_gfr (t := 550) rfl rfl (by decide) rfl (by decide) ?_
            refine y_aload rfl rfl rfl ?_
            refine y_gfi (v := q) rfl rfl (by decide) rfl (by decide) rfl (yeq _ _ _ _) ?_
            refine y_iald (v := (σ 550 q)) (n := 200) rfl rfl (by decide) rfl (by omega) (yne (by omega) rfl) ?_
            refine y_push rfl ?_
            refine y_icne rfl (fun q113 => ?_) (fun q113 => ?_)
            · skip
              refine y_push rfl ?_
              refine y_istore (L' := [some (2, 547), some (0, (nmS T L p)), some (0, ((q - (nmS T L p)) - 1)), some (0, 0)]) rfl rfl rfl rfl ?_
              refine y_aload rfl rfl rfl ?_
              refine y_iload rfl rfl ?_
              refine y_ifeq rfl (fun q136 => ?_) (fun q136 => ?_)
              · skip
                refine y_iload rfl rfl ?_
                refine y_pfi (j := 9) rfl rfl (by decide) rfl rfl rfl rfl rfl ?_
                refine y_aload rfl rfl rfl ?_
                refine y_gfr (t := 553) rfl rfl (by decide) rfl (by decide) ?_
                refine y_push rfl ?_
                refine y_aload rfl rfl rfl ?_
                refine y_gfi (v := (σ 547 7)) rfl rfl (by decide) rfl (by decide) rfl (yne (by omega) (yne (by omega) rfl)) ?_
                refine y_imul (v := (3 * (σ 547 7))) rfl rfl (by omega) ?_
                refine y_push rfl ?_
                refine y_iadd (v := ((3 * (σ 547 7)) + 1)) rfl rfl (by omega) ?_
                refine y_iload rfl rfl ?_
                refine y_push rfl ?_
                refine y_iadd (v := ((nmS T L p) + 1)) rfl rfl (by omega) ?_
                refine y_iast (n := 120) rfl rfl (by decide) rfl (by omega) ?_
                refine y_aload rfl rfl rfl ?_
                refine y_gfr (t := 553) rfl rfl (by decide) rfl (by decide) ?_
                refine y_push rfl ?_
                refine y_aload rfl rfl rfl ?_
                refine y_gfi (v := (σ 547 7)) rfl rfl (by decide) rfl (by decide) rfl (yne (by omega) (yne (by omega) (yne (by omega) rfl))) ?_
                refine y_imul (v := (3 * (σ 547 7))) rfl rfl (by omega) ?_
                refine y_push rfl ?_
                refine y_iadd (v := ((3 * (σ 547 7)) + 2)) rfl rfl (by omega) ?_
                refine y_iload rfl rfl ?_
                refine y_iast (n := 120) rfl rfl (by decide) rfl (by omega) ?_
                refine y_aload rfl rfl rfl ?_
                refine y_dup rfl rfl ?_
                refine y_gfi (v := q) rfl rfl (by decide) rfl (by decide) rfl (yne (by omega) (yne (by omega) (yne (by omega) (yeq _ _ _ _)))) ?_
                refine y_push rfl ?_
                refine y_iadd (v := (q + 1)) rfl rfl (by omega) ?_
                refine y_pfi (j := 8) rfl rfl (by decide) rfl rfl rfl rfl rfl ?_
                refine y_ret rfl rfl ⟨rfl, ?_⟩
                subst hi
                have e : rend isSg T L q = q := rend_at (fun z => by have z2 := z.2; unfold isSg at z2; have z3 := of_decide_eq_true z2; first | omega | (have := hT q (by omega) (by omega); rw [this] at q55; exact z3 q55))
                have eg : sqG T L p = q := by unfold sqG; rw [← h1, e]
                have ts := hT (nmS T L p) (by omega) (by omega)
                have sr := nmS_r (T := T) hp.2
                have ok : ¬ sqOk T L p := by unfold sqOk; rw [eg]; intro z; first | omega | (have tq := hT q (by omega) (by omega); omega)
                have e2 : sqF T L p = nmS T L p := by unfold sqF; rw [if_neg hs, if_neg ok]
                rw [e2]
                exact ⟨by rw [yne (by omega) rfl, yne (by omega) rfl, yne (by omega) rfl, yeq, if_neg (by omega)], fun z => (by omega), fun x y a b => by rw [yne (by omega) rfl, yne (by omega) rfl, yne (by omega) rfl, yne (by omega) rfl, yne (by omega) rfl], by rw [yeq]; omega, by rw [yeq]; omega⟩
              · exfalso; omega
            · skip
              refine y_iload rfl rfl ?_
              refine y_i2l rfl ?_
              refine y_lconst (v := 1) rfl rfl ?_
              refine y_ldc2 (v := 24) rfl rfl ?_
              refine y_si (as := [(1, ((q - (nmS T L p)) - 1)), (1, 1), (1, 24)]) (S := []) rfl rfl rfl rfl rfl rfl m_lies ?_
              rintro _ _ ⟨rfl, rfl⟩
              refine y_ifeq rfl (fun q125 => ?_) (fun q125 => ?_)
              · skip
                replace q125 := yb_0.mp q125
                refine y_push rfl ?_
                refine y_istore (L' := [some (2, 547), some (0, (nmS T L p)), some (0, ((q - (nmS T L p)) - 1)), some (0, 0)]) rfl rfl rfl rfl ?_
                refine y_aload rfl rfl rfl ?_
                refine y_iload rfl rfl ?_
                refine y_ifeq rfl (fun q136 => ?_) (fun q136 => ?_)
                · skip
                  refine y_iload rfl rfl ?_
                  refine y_pfi (j := 9) rfl rfl (by decide) rfl rfl rfl rfl rfl ?_
                  refine y_aload rfl rfl rfl ?_
                  refine y_gfr (t := 553) rfl rfl (by decide) rfl (by decide) ?_
                  refine y_push rfl ?_
                  refine y_aload rfl rfl rfl ?_
                  refine y_gfi (v := (σ 547 7)) rfl rfl (by decide) rfl (by decide) rfl (yne (by omega) (yne (by omega) rfl)) ?_
                  refine y_imul (v := (3 * (σ 547 7))) rfl rfl (by omega) ?_
                  refine y_push rfl ?_
                  refine y_iadd (v := ((3 * (σ 547 7)) + 1)) rfl rfl (by omega) ?_
                  refine y_iload rfl rfl ?_
                  refine y_push rfl ?_
                  refine y_iadd (v := ((nmS T L p) + 1)) rfl rfl (by omega) ?_
                  refine y_iast (n := 120) rfl rfl (by decide) rfl (by omega) ?_
                  refine y_aload rfl rfl rfl ?_
                  refine y_gfr (t := 553) rfl rfl (by decide) rfl (by decide) ?_
                  refine y_push rfl ?_
                  refine y_aload rfl rfl rfl ?_
                  refine y_gfi (v := (σ 547 7)) rfl rfl (by decide) rfl (by decide) rfl (yne (by omega) (yne (by omega) (yne (by omega) rfl))) ?_
                  refine y_imul (v := (3 * (σ 547 7))) rfl rfl (by omega) ?_
                  refine y_push rfl ?_
                  refine y_iadd (v := ((3 * (σ 547 7)) + 2)) rfl rfl (by omega) ?_
                  refine y_iload rfl rfl ?_
                  refine y_iast (n := 120) rfl rfl (by decide) rfl (by omega) ?_
                  refine y_aload rfl rfl rfl ?_
                  refine y_dup rfl rfl ?_
                  refine y_gfi (v := q) rfl rfl (by decide) rfl (by decide) rfl (yne (by omega) (yne (by omega) (yne (by omega) (yeq _ _ _ _)))) ?_
                  refine y_push rfl ?_
                  refine y_iadd (v := (q + 1)) rfl rfl (by omega) ?_
                  refine y_pfi (j := 8) rfl rfl (by decide) rfl rfl rfl rfl rfl ?_
                  refine y_ret rfl rfl ⟨rfl, ?_⟩
                  subst hi
                  have e : rend isSg T L q = q := rend_at (fun z => by have z2 := z.2; unfold isSg at z2; have z3 := of_decide_eq_true z2; first | omega | (have := hT q (by omega) (by omega); rw [this] at q55; exact z3 q55))
                  have eg : sqG T L p = q := by unfold sqG; rw [← h1, e]
                  have ts := hT (nmS T L p) (by omega) (by omega)
                  have sr := nmS_r (T := T) hp.2
                  have ok : ¬ sqOk T L p := by unfold sqOk; rw [eg]; intro z; first | omega | (have tq := hT q (by omega) (by omega); omega)
                  have e2 : sqF T L p = nmS T L p := by unfold sqF; rw [if_neg hs, if_neg ok]
                  rw [e2]
                  exact ⟨by rw [yne (by omega) rfl, yne (by omega) rfl, yne (by omega) rfl, yeq, if_neg (by omega)], fun z => (by omega), fun x y a b => by rw [yne (by omega) rfl, yne (by omega) rfl, yne (by omega) rfl, yne (by omega) rfl, yne (by omega) rfl], by rw [yeq]; omega, by rw [yeq]; omega⟩
                · exfalso; omega
              · skip
                replace q125 := yb_1.mp q125
                refine y_push rfl ?_
                refine y_goto rfl ?_
                refine y_istore (L' := [some (2, 547), some (0, (nmS T L p)), some (0, ((q - (nmS T L p)) - 1)), some (0, 1)]) rfl rfl rfl rfl ?_
                refine y_aload rfl rfl rfl ?_
                refine y_iload rfl rfl ?_
                refine y_ifeq rfl (fun q136 => ?_) (fun q136 => ?_)
                · exfalso; omega
                · skip
                  refine y_aload rfl rfl rfl ?_
                  refine y_gfi (v := (σ 547 9)) rfl rfl (by decide) rfl (by decide) rfl (yne (by omega) rfl) ?_
                  refine y_goto rfl ?_
                  refine y_pfi (j := 9) rfl rfl (by decide) rfl rfl rfl rfl rfl ?_
                  refine y_aload rfl rfl rfl ?_
                  refine y_gfr (t := 553) rfl rfl (by decide) rfl (by decide) ?_
                  refine y_push rfl ?_
                  refine y_aload rfl rfl rfl ?_
                  refine y_gfi (v := (σ 547 7)) rfl rfl (by decide) rfl (by decide) rfl (yne (by omega) (yne (by omega) rfl)) ?_
                  refine y_imul (v := (3 * (σ 547 7))) rfl rfl (by omega) ?_
                  refine y_push rfl ?_
                  refine y_iadd (v := ((3 * (σ 547 7)) + 1)) rfl rfl (by omega) ?_
                  refine y_iload rfl rfl ?_
                  refine y_push rfl ?_
                  refine y_iadd (v := ((nmS T L p) + 1)) rfl rfl (by omega) ?_
                  refine y_iast (n := 120) rfl rfl (by decide) rfl (by omega) ?_
                  refine y_aload rfl rfl rfl ?_
                  refine y_gfr (t := 553) rfl rfl (by decide) rfl (by decide) ?_
                  refine y_push rfl ?_
                  refine y_aload rfl rfl rfl ?_
                  refine y_gfi (v := (σ 547 7)) rfl rfl (by decide) rfl (by decide) rfl (yne (by omega) (yne (by omega) (yne (by omega) rfl))) ?_
                  refine y_imul (v := (3 * (σ 547 7))) rfl rfl (by omega) ?_
                  refine y_push rfl ?_
                  refine y_iadd (v := ((3 * (σ 547 7)) + 2)) rfl rfl (by omega) ?_
                  refine y_iload rfl rfl ?_
                  refine y_iast (n := 120) rfl rfl (by decide) rfl (by omega) ?_
                  refine y_aload rfl rfl rfl ?_
                  refine y_dup rfl rfl ?_
                  refine y_gfi (v := q) rfl rfl (by decide) rfl (by decide) rfl (yne (by omega) (yne (by omega) (yne (by omega) (yeq _ _ _ _)))) ?_
                  refine y_push rfl ?_
                  refine y_iadd (v := (q + 1)) rfl rfl (by omega) ?_
                  refine y_pfi (j := 8) rfl rfl (by decide) rfl rfl rfl rfl rfl ?_
                  refine y_ret rfl rfl ⟨rfl, ?_⟩
                  subst hi
                  have e : rend isSg T L q = q := rend_at (fun z => by have z2 := z.2; unfold isSg at z2; have z3 := of_decide_eq_true z2; first | omega | (have := hT q (by omega) (by omega); rw [this] at q55; exact z3 q55))
                  have eg : sqG T L p = q := by unfold sqG; rw [← h1, e]
                  have ts := hT (nmS T L p) (by omega) (by omega)
                  have sr := nmS_r (T := T) hp.2
                  have tq := hT q (by omega) (by omega)
                  have ok : sqOk T L p := by unfold sqOk; rw [eg]; exact ⟨by omega, by omega, by omega, by omega, by omega⟩
                  have e2 : sqF T L p = -1 := by unfold sqF; rw [if_neg hs, if_pos ok]
                  rw [e2, eg]
                  exact ⟨by rw [yne (by omega) rfl, yne (by omega) rfl, yne (by omega) rfl, yeq, if_pos rfl], fun z => ⟨yeq _ _ _ _, by rw [yne (by omega) rfl, yne (by omega) rfl, yeq], by rw [yne (by omega) rfl, yeq]⟩, fun x y a b => by rw [yne (by omega) rfl, yne (by omega) rfl, yne (by omega) rfl, yne (by omega) rfl, yne (by omega) rfl], by rw [yeq]; omega, by rw [yeq]; omega⟩
      · skip
        refine y_aload rfl rfl rfl ?_
        refine y_dup rfl rfl ?_
        refine y_gfi (v := q) rfl rfl (by decide) rfl (by decide) rfl (yeq _ _ _ _) ?_
        refine y_push rfl ?_
        refine y_iadd (v := (q + 1)) rfl rfl (by omega) ?_
        refine y_pfi (j := 8) rfl rfl (by decide) rfl rfl rfl rfl rfl ?_
        refine y_goto rfl ?_
        rw [show (yset (yset σ 547 8 q) 547 8 (q + 1)) = yset σ 547 8 (q + 1) from by simp only [yset_2]]
        refine ih (q + 1) (by omega) (by omega) ?_
        rw [← h1]
        exact (rend_go (by omega) (by unfold isSg; exact decide_eq_true (by have := hT q (by omega) (by omega); rw [← this]; exact q55))).symm
theorem m_takeSigns {g : Launch × XG × va_G} {σ : YS} {T : Int → Int} {L : Int} {p it : Int} (hL : σ 547 3 = L) (hT : ∀ k, 0 ≤ k → k < L → σ 550 k = T k) (hTr : ∀ k, 0 ≤ k → k < L → 0 ≤ T k ∧ T k ≤ 255) (hl : 0 ≤ L ∧ L ≤ 200) (ha : σ 547 8 = p) (hp : 0 ≤ p ∧ p ≤ L) (hi : σ 547 7 = it) (hi2 : 0 ≤ it ∧ it < 40) : YU g 124 [(2, 547)] σ (fun σ' => (σ' 547 9 = if sqF T L p = -1 then σ 547 9 else sqF T L p) ∧ (sqF T L p = -1 → σ' 547 8 = sqG T L p + 1 ∧ σ' 553 (3 * it + 1) = nmS T L p + 1 ∧ σ' 553 (3 * it + 2) = sqG T L p - nmS T L p - 1) ∧ (∀ x y, ¬ (x = 547 ∧ (y = 8 ∨ y = 9)) → ¬ (x = 553 ∧ (y = 3 * it + 1 ∨ y = 3 * it + 2)) → σ' x y = σ x y) ∧ 0 ≤ σ' 547 8 ∧ σ' 547 8 ≤ 201) := by
  refine y_start rfl rfl rfl ?_
  refine y_aload rfl rfl rfl ?_
  refine y_vi (as := [(2, 547)]) (S := []) rfl rfl rfl rfl rfl rfl (by decide) rfl (m_isEnd (p := p) hL hT hTr hl ha hp) ?_
  rintro _ _ ⟨rfl, rfl⟩
  refine y_ifeq rfl (fun q4 => ?_) (fun q4 => ?_)
  · skip
    replace q4 := yb_0.mp q4
    have sr := nmS_r (T := T) hp.2
    refine y_aload rfl rfl rfl ?_
    refine y_gfi (v := (nmS T L p)) rfl rfl (by decide) rfl (by decide) rfl (yeq _ _ _ _) ?_
    refine y_istore (L' := [some (2, 547), some (0, (nmS T L p)), none, none]) rfl rfl rfl rfl ?_
    refine y_aload rfl rfl rfl ?_
    refine y_dup rfl rfl ?_
    refine y_gfi (v := (nmS T L p)) rfl rfl (by decide) rfl (by decide) rfl (yeq _ _ _ _) ?_
    refine y_push rfl ?_
    refine y_iadd (v := ((nmS T L p) + 1)) rfl rfl (by omega) ?_
    refine y_pfi (j := 8) rfl rfl (by decide) rfl rfl rfl rfl rfl ?_
    rw [show (yset (yset σ 547 8 (nmS T L p)) 547 8 ((nmS T L p) + 1)) = yset σ 547 8 (nmS T L p + 1) from by simp only [yset_2]]
    exact lm_takeSigns hL hT hTr hl ha hp hi hi2 q4 202 (nmS T L p + 1) (by omega) (by omega) rfl
  · skip
    replace q4 := yb_1.mp q4
    refine y_aload rfl rfl rfl ?_
    refine y_aload rfl rfl rfl ?_
    refine y_gfi (v := (σ 547 3)) rfl rfl (by decide) rfl (by decide) rfl (yne (by omega) rfl) ?_
    refine y_pfi (j := 9) rfl rfl (by decide) rfl rfl rfl rfl rfl ?_
    refine y_ret rfl rfl ⟨rfl, ?_⟩
    subst hi
    have e2 : sqF T L p = L := by unfold sqF; rw [if_pos q4]
    exact ⟨by rw [yeq, e2, if_neg (by omega)]; exact hL, fun z => by omega, fun x y a b => by rw [yne (by omega) rfl, yne (by omega) rfl], by rw [yne (by omega) rfl, yeq]; omega, by rw [yne (by omega) rfl, yeq]; omega⟩
