/-! The class: the rest of an item. -/
theorem rto_run {f : Int → Bool} {T : Int → Int} {L : Int} : ∀ (n : Nat) (p : Int), ∀ k, p ≤ k → k < rto f T L n p → f (T k) = true
  | 0, p, k, h1, h2 => by unfold rto at h2; omega
  | n + 1, p, k, h1, h2 => by
    unfold rto at h2
    split at h2
    · rename_i z
      by_cases e : k = p
      · subst e; exact z.2
      · exact rto_run n (p + 1) k (by omega) h2
    · omega
theorem xtend_r {T : Int → Int} {L s : Int} (h : s ≤ L) : s ≤ xtend T L s ∧ xtend T L s ≤ L := by
  unfold xtend
  split
  · omega
  · have a := rend_r (f := isLet) (T := T) h
    have b := rend_r (f := isFig) (T := T) h
    have c := rend_r (f := isSg) (T := T) (L := L) (p := s + 1) (by omega)
    (repeat' split) <;> omega
theorem xtok_2 {T : Int → Int} {L s : Int} (h : xtok T L s = 2) : (s ≤ xtend T L s ∧ xtend T L s ≤ s + 2) ∧ ∀ k, s ≤ k → k < xtend T L s → 48 ≤ T k ∧ T k ≤ 57 := by
  have lr := lwd_r (T := T) (L := L) (p := s)
  by_cases e : L ≤ s
  · rw [(xtok_0 e).1] at h; omega
  by_cases a : 97 ≤ T s ∧ T s ≤ 122
  · rw [(xtok_L e a).1] at h; split at h <;> omega
  by_cases b : 48 ≤ T s ∧ T s ≤ 57
  · rw [(xtok_F e a b).1] at h
    rw [(xtok_F e a b).2]
    split at h
    · rename_i z
      exact ⟨⟨(rend_r (by omega)).1, by omega⟩, fun k x y => of_decide_eq_true (rto_run (f := isFig) _ _ k x y)⟩
    · omega
  by_cases c : T s = 34
  · rw [(xtok_Q e a b c).1] at h; split at h <;> omega
  · rw [(xtok_E e a b c).1] at h; split at h <;> omega
theorem xtok_00 {T : Int → Int} {L s : Int} (h : xtok T L s = 0) : L ≤ s := by
  have lr := lwd_r (T := T) (L := L) (p := s)
  unfold xtok at h
  by_cases e : L ≤ s
  · exact e
  · rw [if_neg e] at h
    exfalso
    (repeat' split at h) <;> omega
/-- the token told at a place -/
def xat (σ : YS) (T : Int → Int) (L s : Int) : Prop := σ 140 5 = xtok T L s ∧ σ 140 6 = s ∧ σ 140 7 = xtend T L s
/-- an item's first fault behind its word -/
def rF (T : Int → Int) (L p : Int) : Int := if nmF T L (itE T L p) ≠ -1 then nmF T L (itE T L p) else if itF2 T L p ≠ -1 then itF2 T L p else enF T L (itQ T L p)
theorem itF_rF {T : Int → Int} {L it p : Int} (h : ¬ itBad T L it p) : itF T L it p = rF T L p := by unfold itF rF; rw [if_neg h]
theorem itE_r {T : Int → Int} {L p : Int} (hp : 0 ≤ p ∧ p ≤ L) : 0 ≤ itE T L p ∧ itE T L p ≤ L := by
  have e := rend_r (f := isLet) (T := T) hp.2
  have e' : itE T L p ≤ L := e.2
  have e0 : p ≤ itE T L p := e.1
  omega
theorem nmD_r0 {T : Int → Int} {L p : Int} (hp : 0 ≤ p ∧ p ≤ L) : 0 ≤ nmD T L p ∧ nmD T L p ≤ L := by
  have := nmD_r (T := T) hp.2
  omega
def frR (σ σ' : YS) : Prop := ∀ x y, ¬ (x = 140 ∧ 3 ≤ y ∧ y ≠ 4 ∧ y ≤ 9) → x ≠ 142 → σ' x y = σ x y
/-! who waited ahead of it doesn't matter -/
theorem yset_cm {D : YS} {a b v c d w : Int} (h : ¬ (a = c ∧ b = d)) : yset (yset D a b v) c d w = yset (yset D c d w) a b v := by
  funext x y
  by_cases e : x = c ∧ y = d
  · obtain ⟨rfl, rfl⟩ := e
    rw [yeq, yne (by omega) rfl, yeq]
  · by_cases e2 : x = a ∧ y = b
    · obtain ⟨rfl, rfl⟩ := e2
      rw [yeq, yne (by omega) rfl, yeq]
    · rw [yne (by omega) rfl, yne (by omega) rfl, yne (by omega) rfl, yne (by omega) rfl]
abbrev wv (r : YO) (w : Int) : YO := (r.1, r.2.1, yset r.2.2 6 0 w)
theorem begD_wv {D : YS} {w : Int} : begD (yset D 6 0 w) = yset (begD D) 6 0 w := by
  funext x y
  unfold begD
  by_cases e : x = 6 ∧ y = 0
  · obtain ⟨rfl, rfl⟩ := e
    rw [if_neg (by omega), yeq, yeq]
  · rw [yne (a := x) (b := y) e rfl, yne (a := x) (b := y) e rfl]
theorem entD_wv {E D : YS} {c w : Int} : entD E (yset D 6 0 w) c = yset (entD E D c) 6 0 w := by
  unfold entD
  rw [yset_cm (a := 6) (b := 0) (v := w) (by omega), yset_cm (a := 6) (b := 0) (v := w) (by omega), yset_cm (a := 6) (b := 0) (v := w) (by omega), yset_cm (a := 6) (b := 0) (v := w) (by omega)]
theorem appD_wv {E D : YS} {m sg w : Int} : appD E (yset D 6 0 w) m sg = yset (appD E D m sg) 6 0 w := by
  unfold appD slpD
  rw [yne (a := 3) (b := m) (by omega) rfl, yset_cm (a := 6) (b := 0) (v := w) (by omega), yset_cm (a := 6) (b := 0) (v := w) (by omega)]
theorem obS_wv {T : Int → Int} {a q w : Int} {r : YO} : ∀ k : Nat, obS T a q (wv r w) k = wv (obS T a q r k) w
  | 0 => rfl
  | k + 1 => by
    have ih := obS_wv (T := T) (a := a) (q := q) (w := w) (r := r) k
    have e : ∀ r : YO, obS T a q r (k + 1) = if (obS T a q r k).1 = 0 then obS T a q r k else if (0 ≤ a ∧ a < (obS T a q r k).2.1 1 0) ∧ (0 ≤ sgOf (T (q + k)) ∧ sgOf (T (q + k)) < 14) ∧ (obS T a q r k).2.1 3 a < 24 then (1, appE (obS T a q r k).2.1 a (sgOf (T (q + k))), appD (obS T a q r k).2.1 (obS T a q r k).2.2 a (sgOf (T (q + k)))) else (0, (obS T a q r k).2) := fun _ => rfl
    rw [e, e, ih]
    generalize obS T a q r k = x
    by_cases h1 : x.1 = 0
    · rw [if_pos h1, if_pos h1]
    · rw [if_neg h1, if_neg h1]
      by_cases h2 : (0 ≤ a ∧ a < x.2.1 1 0) ∧ (0 ≤ sgOf (T (q + k)) ∧ sgOf (T (q + k)) < 14) ∧ x.2.1 3 a < 24
      · rw [if_pos h2, if_pos h2]
        show ((1 : Int), _, appD x.2.1 (yset x.2.2 6 0 w) a _) = (1, _, _)
        rw [appD_wv]
      · rw [if_neg h2, if_neg h2]
theorem ob1_wv {T : Int → Int} {L p w : Int} {r : YO} : ob1 T L p (wv r w) = wv (ob1 T L p r) w := by
  unfold ob1
  by_cases h0 : lwd T L p = 0
  · rw [if_pos h0, if_pos h0]
    by_cases h : 2 ≤ itA T L p ∧ itA T L p ≤ 9
    · rw [if_pos h, if_pos h]
      show ((1 : Int), _, begD (yset r.2.2 6 0 w)) = (1, _, _)
      rw [begD_wv]
    · rw [if_neg h, if_neg h]
  rw [if_neg h0, if_neg h0]
  by_cases h1 : lwd T L p = 1
  · rw [if_pos h1, if_pos h1]
    by_cases h : (0 ≤ itA T L p ∧ itA T L p < r.2.1 0 0) ∧ (0 ≤ itB T L p ∧ itB T L p ≤ 20)
    · rw [if_pos h, if_pos h]
      show ((1 : Int), _, yset (yset r.2.2 6 0 w) 0 (itA T L p) (itB T L p)) = (1, _, _)
      rw [yset_cm (by omega)]
    · rw [if_neg h, if_neg h]
  rw [if_neg h1, if_neg h1]
  by_cases h2 : lwd T L p = 2
  · rw [if_pos h2, if_pos h2]
    by_cases h : (0 ≤ itA T L p ∧ itA T L p < 6) ∧ (0 ≤ itB T L p ∧ itB T L p < r.2.1 0 0) ∧ r.2.1 1 0 < 3
    · rw [if_pos h, if_pos h]
      show ((1 : Int), _, entD r.2.1 (yset r.2.2 6 0 w) (itB T L p)) = (1, _, _)
      rw [entD_wv]
    · rw [if_neg h, if_neg h]
  rw [if_neg h2, if_neg h2]
  exact obS_wv _
theorem obs_wv {T : Int → Int} {L w : Int} {E D : YS} : ∀ i : Nat, obs T L E (yset D 6 0 w) i = wv (obs T L E D i) w
  | 0 => rfl
  | i + 1 => by
    have ih := obs_wv (T := T) (L := L) (w := w) (E := E) (D := D) i
    have e : ∀ D, obs T L E D (i + 1) = if (obs T L E D i).1 = 0 then obs T L E D i else ob1 T L (ips T L i) (obs T L E D i) := fun _ => rfl
    rw [e, e, ih]
    generalize obs T L E D i = x
    by_cases h1 : x.1 = 0
    · rw [if_pos h1, if_pos h1]
    · rw [if_neg h1, if_neg h1]
      exact ob1_wv
theorem x_readRest5 {g : Launch × XG × va_G} {σ : YS} {T : Int → Int} {L : Int} {p : Int} (hL : σ 140 2 = L) (hT : ∀ k, 0 ≤ k → k < L → σ 141 k = T k) (hTr : ∀ k, 0 ≤ k → k < L → 0 ≤ T k ∧ T k ≤ 255) (hl : 0 ≤ L ∧ L ≤ 200) (hx : xat σ T L (nmS T L (itE T L p))) (hp : 0 ≤ p ∧ p ≤ L) (hw : lwd T L p = 0) : YI g 153 [(2, 140), (0, 5)] σ (fun b σ' => (b = 1 ∧ rF T L p = -1 ∧ σ' 142 0 = itA T L p ∧ (lwd T L p = 1 ∨ lwd T L p = 2 → σ' 142 1 = itB T L p) ∧ (lwd T L p = 3 → σ' 140 8 = itG T L p ∧ σ' 140 9 = itG T L p + itM T L p ∧ 0 ≤ itG T L p ∧ 1 ≤ itM T L p ∧ itG T L p + itM T L p ≤ L) ∧ xat σ' T L (nmS T L (itN T L p)) ∧ σ' 140 3 = σ 140 3 ∧ (0 ≤ itN T L p ∧ itN T L p ≤ L) ∧ frR σ σ') ∨ (b = 0 ∧ rF T L p ≠ -1 ∧ σ' 140 3 = rF T L p ∧ frR σ σ')) := by
  refine y_start rfl rfl rfl ?_
  have r_0 : 0 ≤ (itE T L p) ∧ (itE T L p) ≤ L := itE_r hp
  have ⟨a5_0, a6_0, a7_0⟩ := hx
  have f_0 : frR σ σ := fun _ _ _ _ => rfl
  have g_0 : σ 140 3 = σ 140 3 := rfl
  refine y_iload rfl rfl ?_
  refine y_push rfl ?_
  refine y_iceq rfl (fun q3 => ?_) (fun q3 => ?_)
  · exfalso; omega
  · skip
    refine y_iload rfl rfl ?_
    refine y_push rfl ?_
    refine y_icne rfl (fun q9 => ?_) (fun q9 => ?_)
    · skip
      refine y_push rfl ?_
      refine y_istore (L' := [some (2, 140), some (0, 5), some (0, 1), none]) rfl rfl rfl rfl ?_
      refine y_push rfl ?_
      refine y_istore (L' := [some (2, 140), some (0, 5), some (0, 1), some (0, 0)]) rfl rfl rfl rfl ?_
      refine y_iload rfl rfl ?_
      refine y_iload rfl rfl ?_
      refine y_icge rfl (fun q22 => ?_) (fun q22 => ?_)
      · exfalso; omega
      · skip
        refine y_aload rfl rfl rfl ?_
        refine y_gfr (t := 142) rfl rfl (by decide) rfl (by decide) ?_
        refine y_iload rfl rfl ?_
        refine y_aload rfl rfl rfl ?_
        have e_0 := nmS_r (T := T) (L := L) (p := (itE T L p)) r_0.2
        have x_0 := xtend_r (T := T) (L := L) (s := nmS T L (itE T L p)) e_0.2
        refine y_vi (as := [(2, 140)]) (S := [(0, 0), (2, 142)]) rfl rfl rfl rfl rfl rfl (by decide) rfl (x_value (T := T) (L := L) (p := nmS T L (itE T L p)) (d := xtend T L (nmS T L (itE T L p))) (rfl.trans hL) (fun k a b => (rfl.trans (hT k a b))) hTr hl a6_0 a7_0 ⟨by omega, x_0.2⟩ (fun z => xtok_2 (a5_0.symm.trans z))) ?_
        rintro b_ s_ (⟨z5_0, rfl, rfl⟩ | ⟨z5_0, rfl, rfl⟩)
        · skip
          have n_0 := ((xtok_num (T := T) (L := L) (p := (itE T L p)) r_0.1 r_0.2).resolve_right (fun z => z.1 (a5_0.symm.trans z5_0))).2
          refine y_iast (n := 2) rfl rfl (by decide) rfl (by decide) ?_
          refine y_aload rfl rfl rfl ?_
          refine y_aload rfl rfl rfl ?_
          refine y_gfi (v := (σ 140 5)) rfl rfl (by decide) rfl (by decide) rfl (yne (by omega) rfl) ?_
          refine y_push rfl ?_
          refine y_icne rfl (fun q41 => ?_) (fun q41 => ?_)
          · exfalso; omega
          · skip
            refine y_push rfl ?_
            refine y_goto rfl ?_
            have r_1 : 0 ≤ (nmD T L (itE T L p)) ∧ (nmD T L (itE T L p)) ≤ L := nmD_r0 r_0
            refine y_vi (as := [(2, 140), (0, 1)]) (S := []) rfl rfl rfl rfl rfl rfl (by decide) rfl (x_expect1 (T := T) (L := L) (p := (nmD T L (itE T L p))) ((yne (by omega) rfl).trans hL) (fun k a b => ((yne (by omega) rfl).trans (hT k a b))) hTr hl ((yne (by omega) rfl).trans (a7_0.trans n_0.2.1)) r_1) ?_
            rintro _ s1 ⟨rfl, y1⟩
            have a5_1 := y1.1
            have a6_1 := y1.2.1
            have a7_1 := y1.2.2.1
            have f_1 : frR σ s1 := fun x y c d => by rw [y1.2.2.2 x y (by omega), yne (by omega) rfl]; try exact f_0 x y c d
            have g_1 : s1 140 3 = σ 140 3 := by rw [y1.2.2.2 _ _ (by omega), yne (by omega) rfl]; try exact g_0
            have m0_1 : s1 142 0 = itA T L p := by rw [y1.2.2.2 _ _ (by omega), yeq, n_0.2.1]; exact n_0.2.2.symm
            refine y_ifne rfl (fun q52 => ?_) (fun q52 => ?_)
            · skip
              refine y_iinc (L' := [some (2, 140), some (0, 5), some (0, 1), some (0, 1)]) rfl rfl rfl rfl rfl (by decide) ?_
              refine y_goto rfl ?_
              refine y_iload rfl rfl ?_
              refine y_iload rfl rfl ?_
              refine y_icge rfl (fun q22 => ?_) (fun q22 => ?_)
              · skip
                refine y_iload rfl rfl ?_
                refine y_push rfl ?_
                refine y_icne rfl (fun q66 => ?_) (fun q66 => ?_)
                · skip
                  have e_1 := nmS_r (T := T) (L := L) (p := (nmD T L (itE T L p))) r_1.2
                  have x_1 := xtend_r (T := T) (L := L) (s := nmS T L (nmD T L (itE T L p))) e_1.2
                  have iq : itQ T L p = (nmD T L (itE T L p)) := by unfold itQ; rw [if_neg (by omega), if_neg (by omega)]
                  have i2 : itF2 T L p = -1 := by unfold itF2; rw [if_neg (by omega), if_neg (by omega)]
                  refine y_aload rfl rfl rfl ?_
                  refine y_aload rfl rfl rfl ?_
                  refine y_gfi (v := (s1 140 5)) rfl rfl (by decide) rfl (by decide) rfl rfl ?_
                  refine y_push rfl ?_
                  refine y_icne rfl (fun q117 => ?_) (fun q117 => ?_)
                  · skip
                    refine y_push rfl ?_
                    refine y_vi (as := [(2, 140), (0, 0)]) (S := []) rfl rfl rfl rfl rfl rfl (by decide) rfl x_expect0 ?_
                    rintro _ s_ ⟨rfl, rfl⟩
                    refine y_zret rfl rfl (by decide) ⟨_, rfl, ?_⟩
                    have nn := ((xtok_end (T := T) (L := L) (p := (nmD T L (itE T L p))) r_1.1 r_1.2).resolve_left (fun z => q117 (a5_1.trans z.1))).2
                    have rf : rF T L p = nmS T L (nmD T L (itE T L p)) := by unfold rF; rw [if_neg (by omega), if_neg (by omega), iq]; exact nn
                    exact Or.inr ⟨rfl, by rw [rf]; omega, by rw [yeq, rf]; exact a6_1, fun x y c d => by rw [yne (by omega) rfl]; try exact f_1 x y c d⟩
                  · skip
                    refine y_push rfl ?_
                    refine y_goto rfl ?_
                    have n_1 := ((xtok_end (T := T) (L := L) (p := (nmD T L (itE T L p))) r_1.1 r_1.2).resolve_right (fun z => z.1 (a5_1.symm.trans q117))).2
                    have iN : itN T L p = nmS T L (nmD T L (itE T L p)) + 1 := by unfold itN; rw [iq]
                    have r_2 : 0 ≤ (itN T L p) ∧ (itN T L p) ≤ L := by rw [iN, ← n_1.2]; omega
                    refine y_vi (as := [(2, 140), (0, 1)]) (S := []) rfl rfl rfl rfl rfl rfl (by decide) rfl (x_expect1 (T := T) (L := L) (p := (itN T L p)) (rfl.trans ((f_1 _ _ (by omega) (by omega)).trans hL)) (fun k a b => (rfl.trans ((f_1 _ _ (by omega) (by omega)).trans (hT k a b)))) hTr hl (rfl.trans (a7_1.trans (n_1.2.trans iN.symm))) r_2) ?_
                    rintro _ s2 ⟨rfl, y2⟩
                    have a5_2 := y2.1
                    have a6_2 := y2.2.1
                    have a7_2 := y2.2.2.1
                    have f_2 : frR σ s2 := fun x y c d => by rw [y2.2.2.2 x y (by omega)]; try exact f_1 x y c d
                    have g_2 : s2 140 3 = σ 140 3 := by rw [y2.2.2.2 _ _ (by omega)]; try exact g_1
                    have m0_2 : s2 142 0 = itA T L p := by rw [y2.2.2.2 _ _ (by omega)]; exact m0_1
                    refine y_zret rfl rfl (by decide) ⟨_, rfl, ?_⟩
                    have rf : rF T L p = -1 := by unfold rF; rw [if_neg (by omega), if_neg (by omega), iq]; exact n_1.1
                    exact Or.inl ⟨rfl, rf, m0_2, fun z => by omega, fun z => by omega, ⟨a5_2, a6_2, a7_2⟩, g_2, r_2, f_2⟩
                · exfalso; omega
              · exfalso; omega
            · exfalso; omega
        · skip
          have n_0 := ((xtok_num (T := T) (L := L) (p := (itE T L p)) r_0.1 r_0.2).resolve_left (fun z => z5_0 (a5_0.trans z.1))).2
          refine y_iast (n := 2) rfl rfl (by decide) rfl (by decide) ?_
          refine y_aload rfl rfl rfl ?_
          refine y_aload rfl rfl rfl ?_
          refine y_gfi (v := (σ 140 5)) rfl rfl (by decide) rfl (by decide) rfl (yne (by omega) rfl) ?_
          refine y_push rfl ?_
          refine y_icne rfl (fun q41 => ?_) (fun q41 => ?_)
          · skip
            refine y_push rfl ?_
            refine y_vi (as := [(2, 140), (0, 0)]) (S := []) rfl rfl rfl rfl rfl rfl (by decide) rfl x_expect0 ?_
            rintro _ s_ ⟨rfl, rfl⟩
            refine y_ifne rfl (fun q52 => ?_) (fun q52 => ?_)
            · exfalso; omega
            · skip
              refine y_push rfl ?_
              refine y_zret rfl rfl (by decide) ⟨_, rfl, ?_⟩
              have rf : rF T L p = nmS T L (itE T L p) := by unfold rF; rw [if_pos (by omega)]; exact n_0
              exact Or.inr ⟨rfl, by rw [rf]; omega, by rw [yeq, rf]; exact a6_0, fun x y c d => by rw [yne (by omega) rfl, yne (by omega) rfl]; try exact f_0 x y c d⟩
          · exfalso; omega
    · exfalso; omega
theorem x_readRest6 {g : Launch × XG × va_G} {σ : YS} {T : Int → Int} {L : Int} {p : Int} (hL : σ 140 2 = L) (hT : ∀ k, 0 ≤ k → k < L → σ 141 k = T k) (hTr : ∀ k, 0 ≤ k → k < L → 0 ≤ T k ∧ T k ≤ 255) (hl : 0 ≤ L ∧ L ≤ 200) (hx : xat σ T L (nmS T L (itE T L p))) (hp : 0 ≤ p ∧ p ≤ L) (hw : lwd T L p = 1) : YI g 153 [(2, 140), (0, 6)] σ (fun b σ' => (b = 1 ∧ rF T L p = -1 ∧ σ' 142 0 = itA T L p ∧ (lwd T L p = 1 ∨ lwd T L p = 2 → σ' 142 1 = itB T L p) ∧ (lwd T L p = 3 → σ' 140 8 = itG T L p ∧ σ' 140 9 = itG T L p + itM T L p ∧ 0 ≤ itG T L p ∧ 1 ≤ itM T L p ∧ itG T L p + itM T L p ≤ L) ∧ xat σ' T L (nmS T L (itN T L p)) ∧ σ' 140 3 = σ 140 3 ∧ (0 ≤ itN T L p ∧ itN T L p ≤ L) ∧ frR σ σ') ∨ (b = 0 ∧ rF T L p ≠ -1 ∧ σ' 140 3 = rF T L p ∧ frR σ σ')) := by
  refine y_start rfl rfl rfl ?_
  have r_0 : 0 ≤ (itE T L p) ∧ (itE T L p) ≤ L := itE_r hp
  have ⟨a5_0, a6_0, a7_0⟩ := hx
  have f_0 : frR σ σ := fun _ _ _ _ => rfl
  have g_0 : σ 140 3 = σ 140 3 := rfl
  refine y_iload rfl rfl ?_
  refine y_push rfl ?_
  refine y_iceq rfl (fun q3 => ?_) (fun q3 => ?_)
  · skip
    refine y_push rfl ?_
    refine y_goto rfl ?_
    refine y_istore (L' := [some (2, 140), some (0, 6), some (0, 2), none]) rfl rfl rfl rfl ?_
    refine y_push rfl ?_
    refine y_istore (L' := [some (2, 140), some (0, 6), some (0, 2), some (0, 0)]) rfl rfl rfl rfl ?_
    refine y_iload rfl rfl ?_
    refine y_iload rfl rfl ?_
    refine y_icge rfl (fun q22 => ?_) (fun q22 => ?_)
    · exfalso; omega
    · skip
      refine y_aload rfl rfl rfl ?_
      refine y_gfr (t := 142) rfl rfl (by decide) rfl (by decide) ?_
      refine y_iload rfl rfl ?_
      refine y_aload rfl rfl rfl ?_
      have e_0 := nmS_r (T := T) (L := L) (p := (itE T L p)) r_0.2
      have x_0 := xtend_r (T := T) (L := L) (s := nmS T L (itE T L p)) e_0.2
      refine y_vi (as := [(2, 140)]) (S := [(0, 0), (2, 142)]) rfl rfl rfl rfl rfl rfl (by decide) rfl (x_value (T := T) (L := L) (p := nmS T L (itE T L p)) (d := xtend T L (nmS T L (itE T L p))) (rfl.trans hL) (fun k a b => (rfl.trans (hT k a b))) hTr hl a6_0 a7_0 ⟨by omega, x_0.2⟩ (fun z => xtok_2 (a5_0.symm.trans z))) ?_
      rintro b_ s_ (⟨z5_0, rfl, rfl⟩ | ⟨z5_0, rfl, rfl⟩)
      · skip
        have n_0 := ((xtok_num (T := T) (L := L) (p := (itE T L p)) r_0.1 r_0.2).resolve_right (fun z => z.1 (a5_0.symm.trans z5_0))).2
        refine y_iast (n := 2) rfl rfl (by decide) rfl (by decide) ?_
        refine y_aload rfl rfl rfl ?_
        refine y_aload rfl rfl rfl ?_
        refine y_gfi (v := (σ 140 5)) rfl rfl (by decide) rfl (by decide) rfl (yne (by omega) rfl) ?_
        refine y_push rfl ?_
        refine y_icne rfl (fun q41 => ?_) (fun q41 => ?_)
        · exfalso; omega
        · skip
          refine y_push rfl ?_
          refine y_goto rfl ?_
          have r_1 : 0 ≤ (nmD T L (itE T L p)) ∧ (nmD T L (itE T L p)) ≤ L := nmD_r0 r_0
          refine y_vi (as := [(2, 140), (0, 1)]) (S := []) rfl rfl rfl rfl rfl rfl (by decide) rfl (x_expect1 (T := T) (L := L) (p := (nmD T L (itE T L p))) ((yne (by omega) rfl).trans hL) (fun k a b => ((yne (by omega) rfl).trans (hT k a b))) hTr hl ((yne (by omega) rfl).trans (a7_0.trans n_0.2.1)) r_1) ?_
          rintro _ s1 ⟨rfl, y1⟩
          have a5_1 := y1.1
          have a6_1 := y1.2.1
          have a7_1 := y1.2.2.1
          have f_1 : frR σ s1 := fun x y c d => by rw [y1.2.2.2 x y (by omega), yne (by omega) rfl]; try exact f_0 x y c d
          have g_1 : s1 140 3 = σ 140 3 := by rw [y1.2.2.2 _ _ (by omega), yne (by omega) rfl]; try exact g_0
          have m0_1 : s1 142 0 = itA T L p := by rw [y1.2.2.2 _ _ (by omega), yeq, n_0.2.1]; exact n_0.2.2.symm
          refine y_ifne rfl (fun q52 => ?_) (fun q52 => ?_)
          · skip
            refine y_iinc (L' := [some (2, 140), some (0, 6), some (0, 2), some (0, 1)]) rfl rfl rfl rfl rfl (by decide) ?_
            refine y_goto rfl ?_
            refine y_iload rfl rfl ?_
            refine y_iload rfl rfl ?_
            refine y_icge rfl (fun q22 => ?_) (fun q22 => ?_)
            · exfalso; omega
            · skip
              refine y_aload rfl rfl rfl ?_
              refine y_gfr (t := 142) rfl rfl (by decide) rfl (by decide) ?_
              refine y_iload rfl rfl ?_
              refine y_aload rfl rfl rfl ?_
              have e_1 := nmS_r (T := T) (L := L) (p := (nmD T L (itE T L p))) r_1.2
              have x_1 := xtend_r (T := T) (L := L) (s := nmS T L (nmD T L (itE T L p))) e_1.2
              refine y_vi (as := [(2, 140)]) (S := [(0, 1), (2, 142)]) rfl rfl rfl rfl rfl rfl (by decide) rfl (x_value (T := T) (L := L) (p := nmS T L (nmD T L (itE T L p))) (d := xtend T L (nmS T L (nmD T L (itE T L p)))) (rfl.trans ((f_1 _ _ (by omega) (by omega)).trans hL)) (fun k a b => (rfl.trans ((f_1 _ _ (by omega) (by omega)).trans (hT k a b)))) hTr hl a6_1 a7_1 ⟨by omega, x_1.2⟩ (fun z => xtok_2 (a5_1.symm.trans z))) ?_
              rintro b_ s_ (⟨z5_1, rfl, rfl⟩ | ⟨z5_1, rfl, rfl⟩)
              · skip
                have n_1 := ((xtok_num (T := T) (L := L) (p := (nmD T L (itE T L p))) r_1.1 r_1.2).resolve_right (fun z => z.1 (a5_1.symm.trans z5_1))).2
                refine y_iast (n := 2) rfl rfl (by decide) rfl (by decide) ?_
                refine y_aload rfl rfl rfl ?_
                refine y_aload rfl rfl rfl ?_
                refine y_gfi (v := (s1 140 5)) rfl rfl (by decide) rfl (by decide) rfl (yne (by omega) rfl) ?_
                refine y_push rfl ?_
                refine y_icne rfl (fun q41 => ?_) (fun q41 => ?_)
                · exfalso; omega
                · skip
                  refine y_push rfl ?_
                  refine y_goto rfl ?_
                  have r_2 : 0 ≤ (nmD T L (nmD T L (itE T L p))) ∧ (nmD T L (nmD T L (itE T L p))) ≤ L := nmD_r0 r_1
                  refine y_vi (as := [(2, 140), (0, 1)]) (S := []) rfl rfl rfl rfl rfl rfl (by decide) rfl (x_expect1 (T := T) (L := L) (p := (nmD T L (nmD T L (itE T L p)))) ((yne (by omega) rfl).trans ((f_1 _ _ (by omega) (by omega)).trans hL)) (fun k a b => ((yne (by omega) rfl).trans ((f_1 _ _ (by omega) (by omega)).trans (hT k a b)))) hTr hl ((yne (by omega) rfl).trans (a7_1.trans n_1.2.1)) r_2) ?_
                  rintro _ s2 ⟨rfl, y2⟩
                  have a5_2 := y2.1
                  have a6_2 := y2.2.1
                  have a7_2 := y2.2.2.1
                  have f_2 : frR σ s2 := fun x y c d => by rw [y2.2.2.2 x y (by omega), yne (by omega) rfl]; try exact f_1 x y c d
                  have g_2 : s2 140 3 = σ 140 3 := by rw [y2.2.2.2 _ _ (by omega), yne (by omega) rfl]; try exact g_1
                  have m1_2 : s2 142 1 = itB T L p := by rw [y2.2.2.2 _ _ (by omega), yeq, n_1.2.1]; exact n_1.2.2.symm
                  have m0_2 : s2 142 0 = itA T L p := by rw [y2.2.2.2 _ _ (by omega), yne (by omega) rfl]; exact m0_1
                  refine y_ifne rfl (fun q52 => ?_) (fun q52 => ?_)
                  · skip
                    refine y_iinc (L' := [some (2, 140), some (0, 6), some (0, 2), some (0, 2)]) rfl rfl rfl rfl rfl (by decide) ?_
                    refine y_goto rfl ?_
                    refine y_iload rfl rfl ?_
                    refine y_iload rfl rfl ?_
                    refine y_icge rfl (fun q22 => ?_) (fun q22 => ?_)
                    · skip
                      refine y_iload rfl rfl ?_
                      refine y_push rfl ?_
                      refine y_icne rfl (fun q66 => ?_) (fun q66 => ?_)
                      · skip
                        have e_2 := nmS_r (T := T) (L := L) (p := (nmD T L (nmD T L (itE T L p)))) r_2.2
                        have x_2 := xtend_r (T := T) (L := L) (s := nmS T L (nmD T L (nmD T L (itE T L p)))) e_2.2
                        have iq : itQ T L p = (nmD T L (nmD T L (itE T L p))) := by unfold itQ; rw [if_pos (by omega)]
                        have i2 : itF2 T L p = -1 := by unfold itF2; rw [if_pos (by omega)]; exact n_1.1
                        refine y_aload rfl rfl rfl ?_
                        refine y_aload rfl rfl rfl ?_
                        refine y_gfi (v := (s2 140 5)) rfl rfl (by decide) rfl (by decide) rfl rfl ?_
                        refine y_push rfl ?_
                        refine y_icne rfl (fun q117 => ?_) (fun q117 => ?_)
                        · skip
                          refine y_push rfl ?_
                          refine y_vi (as := [(2, 140), (0, 0)]) (S := []) rfl rfl rfl rfl rfl rfl (by decide) rfl x_expect0 ?_
                          rintro _ s_ ⟨rfl, rfl⟩
                          refine y_zret rfl rfl (by decide) ⟨_, rfl, ?_⟩
                          have nn := ((xtok_end (T := T) (L := L) (p := (nmD T L (nmD T L (itE T L p)))) r_2.1 r_2.2).resolve_left (fun z => q117 (a5_2.trans z.1))).2
                          have rf : rF T L p = nmS T L (nmD T L (nmD T L (itE T L p))) := by unfold rF; rw [if_neg (by omega), if_neg (by omega), iq]; exact nn
                          exact Or.inr ⟨rfl, by rw [rf]; omega, by rw [yeq, rf]; exact a6_2, fun x y c d => by rw [yne (by omega) rfl]; try exact f_2 x y c d⟩
                        · skip
                          refine y_push rfl ?_
                          refine y_goto rfl ?_
                          have n_2 := ((xtok_end (T := T) (L := L) (p := (nmD T L (nmD T L (itE T L p)))) r_2.1 r_2.2).resolve_right (fun z => z.1 (a5_2.symm.trans q117))).2
                          have iN : itN T L p = nmS T L (nmD T L (nmD T L (itE T L p))) + 1 := by unfold itN; rw [iq]
                          have r_3 : 0 ≤ (itN T L p) ∧ (itN T L p) ≤ L := by rw [iN, ← n_2.2]; omega
                          refine y_vi (as := [(2, 140), (0, 1)]) (S := []) rfl rfl rfl rfl rfl rfl (by decide) rfl (x_expect1 (T := T) (L := L) (p := (itN T L p)) (rfl.trans ((f_2 _ _ (by omega) (by omega)).trans hL)) (fun k a b => (rfl.trans ((f_2 _ _ (by omega) (by omega)).trans (hT k a b)))) hTr hl (rfl.trans (a7_2.trans (n_2.2.trans iN.symm))) r_3) ?_
                          rintro _ s3 ⟨rfl, y3⟩
                          have a5_3 := y3.1
                          have a6_3 := y3.2.1
                          have a7_3 := y3.2.2.1
                          have f_3 : frR σ s3 := fun x y c d => by rw [y3.2.2.2 x y (by omega)]; try exact f_2 x y c d
                          have g_3 : s3 140 3 = σ 140 3 := by rw [y3.2.2.2 _ _ (by omega)]; try exact g_2
                          have m0_3 : s3 142 0 = itA T L p := by rw [y3.2.2.2 _ _ (by omega)]; exact m0_2
                          have m1_3 : s3 142 1 = itB T L p := by rw [y3.2.2.2 _ _ (by omega)]; exact m1_2
                          refine y_zret rfl rfl (by decide) ⟨_, rfl, ?_⟩
                          have rf : rF T L p = -1 := by unfold rF; rw [if_neg (by omega), if_neg (by omega), iq]; exact n_2.1
                          exact Or.inl ⟨rfl, rf, m0_3, fun _ => m1_3, fun z => by omega, ⟨a5_3, a6_3, a7_3⟩, g_3, r_3, f_3⟩
                      · exfalso; omega
                    · exfalso; omega
                  · exfalso; omega
              · skip
                have n_1 := ((xtok_num (T := T) (L := L) (p := (nmD T L (itE T L p))) r_1.1 r_1.2).resolve_left (fun z => z5_1 (a5_1.trans z.1))).2
                refine y_iast (n := 2) rfl rfl (by decide) rfl (by decide) ?_
                refine y_aload rfl rfl rfl ?_
                refine y_aload rfl rfl rfl ?_
                refine y_gfi (v := (s1 140 5)) rfl rfl (by decide) rfl (by decide) rfl (yne (by omega) rfl) ?_
                refine y_push rfl ?_
                refine y_icne rfl (fun q41 => ?_) (fun q41 => ?_)
                · skip
                  refine y_push rfl ?_
                  refine y_vi (as := [(2, 140), (0, 0)]) (S := []) rfl rfl rfl rfl rfl rfl (by decide) rfl x_expect0 ?_
                  rintro _ s_ ⟨rfl, rfl⟩
                  refine y_ifne rfl (fun q52 => ?_) (fun q52 => ?_)
                  · exfalso; omega
                  · skip
                    refine y_push rfl ?_
                    refine y_zret rfl rfl (by decide) ⟨_, rfl, ?_⟩
                    have i2_ : itF2 T L p = nmS T L (nmD T L (itE T L p)) := by unfold itF2; rw [if_pos (by omega)]; exact n_1
                    have rf : rF T L p = nmS T L (nmD T L (itE T L p)) := by unfold rF; rw [if_neg (by omega), if_pos (by omega)]; exact i2_
                    exact Or.inr ⟨rfl, by rw [rf]; omega, by rw [yeq, rf]; exact a6_1, fun x y c d => by rw [yne (by omega) rfl, yne (by omega) rfl]; try exact f_1 x y c d⟩
                · exfalso; omega
          · exfalso; omega
      · skip
        have n_0 := ((xtok_num (T := T) (L := L) (p := (itE T L p)) r_0.1 r_0.2).resolve_left (fun z => z5_0 (a5_0.trans z.1))).2
        refine y_iast (n := 2) rfl rfl (by decide) rfl (by decide) ?_
        refine y_aload rfl rfl rfl ?_
        refine y_aload rfl rfl rfl ?_
        refine y_gfi (v := (σ 140 5)) rfl rfl (by decide) rfl (by decide) rfl (yne (by omega) rfl) ?_
        refine y_push rfl ?_
        refine y_icne rfl (fun q41 => ?_) (fun q41 => ?_)
        · skip
          refine y_push rfl ?_
          refine y_vi (as := [(2, 140), (0, 0)]) (S := []) rfl rfl rfl rfl rfl rfl (by decide) rfl x_expect0 ?_
          rintro _ s_ ⟨rfl, rfl⟩
          refine y_ifne rfl (fun q52 => ?_) (fun q52 => ?_)
          · exfalso; omega
          · skip
            refine y_push rfl ?_
            refine y_zret rfl rfl (by decide) ⟨_, rfl, ?_⟩
            have rf : rF T L p = nmS T L (itE T L p) := by unfold rF; rw [if_pos (by omega)]; exact n_0
            exact Or.inr ⟨rfl, by rw [rf]; omega, by rw [yeq, rf]; exact a6_0, fun x y c d => by rw [yne (by omega) rfl, yne (by omega) rfl]; try exact f_0 x y c d⟩
        · exfalso; omega
  · exfalso; omega
theorem x_readRest7 {g : Launch × XG × va_G} {σ : YS} {T : Int → Int} {L : Int} {p : Int} (hL : σ 140 2 = L) (hT : ∀ k, 0 ≤ k → k < L → σ 141 k = T k) (hTr : ∀ k, 0 ≤ k → k < L → 0 ≤ T k ∧ T k ≤ 255) (hl : 0 ≤ L ∧ L ≤ 200) (hx : xat σ T L (nmS T L (itE T L p))) (hp : 0 ≤ p ∧ p ≤ L) (hw : lwd T L p = 2) : YI g 153 [(2, 140), (0, 7)] σ (fun b σ' => (b = 1 ∧ rF T L p = -1 ∧ σ' 142 0 = itA T L p ∧ (lwd T L p = 1 ∨ lwd T L p = 2 → σ' 142 1 = itB T L p) ∧ (lwd T L p = 3 → σ' 140 8 = itG T L p ∧ σ' 140 9 = itG T L p + itM T L p ∧ 0 ≤ itG T L p ∧ 1 ≤ itM T L p ∧ itG T L p + itM T L p ≤ L) ∧ xat σ' T L (nmS T L (itN T L p)) ∧ σ' 140 3 = σ 140 3 ∧ (0 ≤ itN T L p ∧ itN T L p ≤ L) ∧ frR σ σ') ∨ (b = 0 ∧ rF T L p ≠ -1 ∧ σ' 140 3 = rF T L p ∧ frR σ σ')) := by
  refine y_start rfl rfl rfl ?_
  have r_0 : 0 ≤ (itE T L p) ∧ (itE T L p) ≤ L := itE_r hp
  have ⟨a5_0, a6_0, a7_0⟩ := hx
  have f_0 : frR σ σ := fun _ _ _ _ => rfl
  have g_0 : σ 140 3 = σ 140 3 := rfl
  refine y_iload rfl rfl ?_
  refine y_push rfl ?_
  refine y_iceq rfl (fun q3 => ?_) (fun q3 => ?_)
  · exfalso; omega
  · skip
    refine y_iload rfl rfl ?_
    refine y_push rfl ?_
    refine y_icne rfl (fun q9 => ?_) (fun q9 => ?_)
    · exfalso; omega
    · skip
      refine y_push rfl ?_
      refine y_goto rfl ?_
      refine y_istore (L' := [some (2, 140), some (0, 7), some (0, 2), none]) rfl rfl rfl rfl ?_
      refine y_push rfl ?_
      refine y_istore (L' := [some (2, 140), some (0, 7), some (0, 2), some (0, 0)]) rfl rfl rfl rfl ?_
      refine y_iload rfl rfl ?_
      refine y_iload rfl rfl ?_
      refine y_icge rfl (fun q22 => ?_) (fun q22 => ?_)
      · exfalso; omega
      · skip
        refine y_aload rfl rfl rfl ?_
        refine y_gfr (t := 142) rfl rfl (by decide) rfl (by decide) ?_
        refine y_iload rfl rfl ?_
        refine y_aload rfl rfl rfl ?_
        have e_0 := nmS_r (T := T) (L := L) (p := (itE T L p)) r_0.2
        have x_0 := xtend_r (T := T) (L := L) (s := nmS T L (itE T L p)) e_0.2
        refine y_vi (as := [(2, 140)]) (S := [(0, 0), (2, 142)]) rfl rfl rfl rfl rfl rfl (by decide) rfl (x_value (T := T) (L := L) (p := nmS T L (itE T L p)) (d := xtend T L (nmS T L (itE T L p))) (rfl.trans hL) (fun k a b => (rfl.trans (hT k a b))) hTr hl a6_0 a7_0 ⟨by omega, x_0.2⟩ (fun z => xtok_2 (a5_0.symm.trans z))) ?_
        rintro b_ s_ (⟨z5_0, rfl, rfl⟩ | ⟨z5_0, rfl, rfl⟩)
        · skip
          have n_0 := ((xtok_num (T := T) (L := L) (p := (itE T L p)) r_0.1 r_0.2).resolve_right (fun z => z.1 (a5_0.symm.trans z5_0))).2
          refine y_iast (n := 2) rfl rfl (by decide) rfl (by decide) ?_
          refine y_aload rfl rfl rfl ?_
          refine y_aload rfl rfl rfl ?_
          refine y_gfi (v := (σ 140 5)) rfl rfl (by decide) rfl (by decide) rfl (yne (by omega) rfl) ?_
          refine y_push rfl ?_
          refine y_icne rfl (fun q41 => ?_) (fun q41 => ?_)
          · exfalso; omega
          · skip
            refine y_push rfl ?_
            refine y_goto rfl ?_
            have r_1 : 0 ≤ (nmD T L (itE T L p)) ∧ (nmD T L (itE T L p)) ≤ L := nmD_r0 r_0
            refine y_vi (as := [(2, 140), (0, 1)]) (S := []) rfl rfl rfl rfl rfl rfl (by decide) rfl (x_expect1 (T := T) (L := L) (p := (nmD T L (itE T L p))) ((yne (by omega) rfl).trans hL) (fun k a b => ((yne (by omega) rfl).trans (hT k a b))) hTr hl ((yne (by omega) rfl).trans (a7_0.trans n_0.2.1)) r_1) ?_
            rintro _ s1 ⟨rfl, y1⟩
            have a5_1 := y1.1
            have a6_1 := y1.2.1
            have a7_1 := y1.2.2.1
            have f_1 : frR σ s1 := fun x y c d => by rw [y1.2.2.2 x y (by omega), yne (by omega) rfl]; try exact f_0 x y c d
            have g_1 : s1 140 3 = σ 140 3 := by rw [y1.2.2.2 _ _ (by omega), yne (by omega) rfl]; try exact g_0
            have m0_1 : s1 142 0 = itA T L p := by rw [y1.2.2.2 _ _ (by omega), yeq, n_0.2.1]; exact n_0.2.2.symm
            refine y_ifne rfl (fun q52 => ?_) (fun q52 => ?_)
            · skip
              refine y_iinc (L' := [some (2, 140), some (0, 7), some (0, 2), some (0, 1)]) rfl rfl rfl rfl rfl (by decide) ?_
              refine y_goto rfl ?_
              refine y_iload rfl rfl ?_
              refine y_iload rfl rfl ?_
              refine y_icge rfl (fun q22 => ?_) (fun q22 => ?_)
              · exfalso; omega
              · skip
                refine y_aload rfl rfl rfl ?_
                refine y_gfr (t := 142) rfl rfl (by decide) rfl (by decide) ?_
                refine y_iload rfl rfl ?_
                refine y_aload rfl rfl rfl ?_
                have e_1 := nmS_r (T := T) (L := L) (p := (nmD T L (itE T L p))) r_1.2
                have x_1 := xtend_r (T := T) (L := L) (s := nmS T L (nmD T L (itE T L p))) e_1.2
                refine y_vi (as := [(2, 140)]) (S := [(0, 1), (2, 142)]) rfl rfl rfl rfl rfl rfl (by decide) rfl (x_value (T := T) (L := L) (p := nmS T L (nmD T L (itE T L p))) (d := xtend T L (nmS T L (nmD T L (itE T L p)))) (rfl.trans ((f_1 _ _ (by omega) (by omega)).trans hL)) (fun k a b => (rfl.trans ((f_1 _ _ (by omega) (by omega)).trans (hT k a b)))) hTr hl a6_1 a7_1 ⟨by omega, x_1.2⟩ (fun z => xtok_2 (a5_1.symm.trans z))) ?_
                rintro b_ s_ (⟨z5_1, rfl, rfl⟩ | ⟨z5_1, rfl, rfl⟩)
                · skip
                  have n_1 := ((xtok_num (T := T) (L := L) (p := (nmD T L (itE T L p))) r_1.1 r_1.2).resolve_right (fun z => z.1 (a5_1.symm.trans z5_1))).2
                  refine y_iast (n := 2) rfl rfl (by decide) rfl (by decide) ?_
                  refine y_aload rfl rfl rfl ?_
                  refine y_aload rfl rfl rfl ?_
                  refine y_gfi (v := (s1 140 5)) rfl rfl (by decide) rfl (by decide) rfl (yne (by omega) rfl) ?_
                  refine y_push rfl ?_
                  refine y_icne rfl (fun q41 => ?_) (fun q41 => ?_)
                  · exfalso; omega
                  · skip
                    refine y_push rfl ?_
                    refine y_goto rfl ?_
                    have r_2 : 0 ≤ (nmD T L (nmD T L (itE T L p))) ∧ (nmD T L (nmD T L (itE T L p))) ≤ L := nmD_r0 r_1
                    refine y_vi (as := [(2, 140), (0, 1)]) (S := []) rfl rfl rfl rfl rfl rfl (by decide) rfl (x_expect1 (T := T) (L := L) (p := (nmD T L (nmD T L (itE T L p)))) ((yne (by omega) rfl).trans ((f_1 _ _ (by omega) (by omega)).trans hL)) (fun k a b => ((yne (by omega) rfl).trans ((f_1 _ _ (by omega) (by omega)).trans (hT k a b)))) hTr hl ((yne (by omega) rfl).trans (a7_1.trans n_1.2.1)) r_2) ?_
                    rintro _ s2 ⟨rfl, y2⟩
                    have a5_2 := y2.1
                    have a6_2 := y2.2.1
                    have a7_2 := y2.2.2.1
                    have f_2 : frR σ s2 := fun x y c d => by rw [y2.2.2.2 x y (by omega), yne (by omega) rfl]; try exact f_1 x y c d
                    have g_2 : s2 140 3 = σ 140 3 := by rw [y2.2.2.2 _ _ (by omega), yne (by omega) rfl]; try exact g_1
                    have m1_2 : s2 142 1 = itB T L p := by rw [y2.2.2.2 _ _ (by omega), yeq, n_1.2.1]; exact n_1.2.2.symm
                    have m0_2 : s2 142 0 = itA T L p := by rw [y2.2.2.2 _ _ (by omega), yne (by omega) rfl]; exact m0_1
                    refine y_ifne rfl (fun q52 => ?_) (fun q52 => ?_)
                    · skip
                      refine y_iinc (L' := [some (2, 140), some (0, 7), some (0, 2), some (0, 2)]) rfl rfl rfl rfl rfl (by decide) ?_
                      refine y_goto rfl ?_
                      refine y_iload rfl rfl ?_
                      refine y_iload rfl rfl ?_
                      refine y_icge rfl (fun q22 => ?_) (fun q22 => ?_)
                      · skip
                        refine y_iload rfl rfl ?_
                        refine y_push rfl ?_
                        refine y_icne rfl (fun q66 => ?_) (fun q66 => ?_)
                        · skip
                          have e_2 := nmS_r (T := T) (L := L) (p := (nmD T L (nmD T L (itE T L p)))) r_2.2
                          have x_2 := xtend_r (T := T) (L := L) (s := nmS T L (nmD T L (nmD T L (itE T L p)))) e_2.2
                          have iq : itQ T L p = (nmD T L (nmD T L (itE T L p))) := by unfold itQ; rw [if_pos (by omega)]
                          have i2 : itF2 T L p = -1 := by unfold itF2; rw [if_pos (by omega)]; exact n_1.1
                          refine y_aload rfl rfl rfl ?_
                          refine y_aload rfl rfl rfl ?_
                          refine y_gfi (v := (s2 140 5)) rfl rfl (by decide) rfl (by decide) rfl rfl ?_
                          refine y_push rfl ?_
                          refine y_icne rfl (fun q117 => ?_) (fun q117 => ?_)
                          · skip
                            refine y_push rfl ?_
                            refine y_vi (as := [(2, 140), (0, 0)]) (S := []) rfl rfl rfl rfl rfl rfl (by decide) rfl x_expect0 ?_
                            rintro _ s_ ⟨rfl, rfl⟩
                            refine y_zret rfl rfl (by decide) ⟨_, rfl, ?_⟩
                            have nn := ((xtok_end (T := T) (L := L) (p := (nmD T L (nmD T L (itE T L p)))) r_2.1 r_2.2).resolve_left (fun z => q117 (a5_2.trans z.1))).2
                            have rf : rF T L p = nmS T L (nmD T L (nmD T L (itE T L p))) := by unfold rF; rw [if_neg (by omega), if_neg (by omega), iq]; exact nn
                            exact Or.inr ⟨rfl, by rw [rf]; omega, by rw [yeq, rf]; exact a6_2, fun x y c d => by rw [yne (by omega) rfl]; try exact f_2 x y c d⟩
                          · skip
                            refine y_push rfl ?_
                            refine y_goto rfl ?_
                            have n_2 := ((xtok_end (T := T) (L := L) (p := (nmD T L (nmD T L (itE T L p)))) r_2.1 r_2.2).resolve_right (fun z => z.1 (a5_2.symm.trans q117))).2
                            have iN : itN T L p = nmS T L (nmD T L (nmD T L (itE T L p))) + 1 := by unfold itN; rw [iq]
                            have r_3 : 0 ≤ (itN T L p) ∧ (itN T L p) ≤ L := by rw [iN, ← n_2.2]; omega
                            refine y_vi (as := [(2, 140), (0, 1)]) (S := []) rfl rfl rfl rfl rfl rfl (by decide) rfl (x_expect1 (T := T) (L := L) (p := (itN T L p)) (rfl.trans ((f_2 _ _ (by omega) (by omega)).trans hL)) (fun k a b => (rfl.trans ((f_2 _ _ (by omega) (by omega)).trans (hT k a b)))) hTr hl (rfl.trans (a7_2.trans (n_2.2.trans iN.symm))) r_3) ?_
                            rintro _ s3 ⟨rfl, y3⟩
                            have a5_3 := y3.1
                            have a6_3 := y3.2.1
                            have a7_3 := y3.2.2.1
                            have f_3 : frR σ s3 := fun x y c d => by rw [y3.2.2.2 x y (by omega)]; try exact f_2 x y c d
                            have g_3 : s3 140 3 = σ 140 3 := by rw [y3.2.2.2 _ _ (by omega)]; try exact g_2
                            have m0_3 : s3 142 0 = itA T L p := by rw [y3.2.2.2 _ _ (by omega)]; exact m0_2
                            have m1_3 : s3 142 1 = itB T L p := by rw [y3.2.2.2 _ _ (by omega)]; exact m1_2
                            refine y_zret rfl rfl (by decide) ⟨_, rfl, ?_⟩
                            have rf : rF T L p = -1 := by unfold rF; rw [if_neg (by omega), if_neg (by omega), iq]; exact n_2.1
                            exact Or.inl ⟨rfl, rf, m0_3, fun _ => m1_3, fun z => by omega, ⟨a5_3, a6_3, a7_3⟩, g_3, r_3, f_3⟩
                        · exfalso; omega
                      · exfalso; omega
                    · exfalso; omega
                · skip
                  have n_1 := ((xtok_num (T := T) (L := L) (p := (nmD T L (itE T L p))) r_1.1 r_1.2).resolve_left (fun z => z5_1 (a5_1.trans z.1))).2
                  refine y_iast (n := 2) rfl rfl (by decide) rfl (by decide) ?_
                  refine y_aload rfl rfl rfl ?_
                  refine y_aload rfl rfl rfl ?_
                  refine y_gfi (v := (s1 140 5)) rfl rfl (by decide) rfl (by decide) rfl (yne (by omega) rfl) ?_
                  refine y_push rfl ?_
                  refine y_icne rfl (fun q41 => ?_) (fun q41 => ?_)
                  · skip
                    refine y_push rfl ?_
                    refine y_vi (as := [(2, 140), (0, 0)]) (S := []) rfl rfl rfl rfl rfl rfl (by decide) rfl x_expect0 ?_
                    rintro _ s_ ⟨rfl, rfl⟩
                    refine y_ifne rfl (fun q52 => ?_) (fun q52 => ?_)
                    · exfalso; omega
                    · skip
                      refine y_push rfl ?_
                      refine y_zret rfl rfl (by decide) ⟨_, rfl, ?_⟩
                      have i2_ : itF2 T L p = nmS T L (nmD T L (itE T L p)) := by unfold itF2; rw [if_pos (by omega)]; exact n_1
                      have rf : rF T L p = nmS T L (nmD T L (itE T L p)) := by unfold rF; rw [if_neg (by omega), if_pos (by omega)]; exact i2_
                      exact Or.inr ⟨rfl, by rw [rf]; omega, by rw [yeq, rf]; exact a6_1, fun x y c d => by rw [yne (by omega) rfl, yne (by omega) rfl]; try exact f_1 x y c d⟩
                  · exfalso; omega
            · exfalso; omega
        · skip
          have n_0 := ((xtok_num (T := T) (L := L) (p := (itE T L p)) r_0.1 r_0.2).resolve_left (fun z => z5_0 (a5_0.trans z.1))).2
          refine y_iast (n := 2) rfl rfl (by decide) rfl (by decide) ?_
          refine y_aload rfl rfl rfl ?_
          refine y_aload rfl rfl rfl ?_
          refine y_gfi (v := (σ 140 5)) rfl rfl (by decide) rfl (by decide) rfl (yne (by omega) rfl) ?_
          refine y_push rfl ?_
          refine y_icne rfl (fun q41 => ?_) (fun q41 => ?_)
          · skip
            refine y_push rfl ?_
            refine y_vi (as := [(2, 140), (0, 0)]) (S := []) rfl rfl rfl rfl rfl rfl (by decide) rfl x_expect0 ?_
            rintro _ s_ ⟨rfl, rfl⟩
            refine y_ifne rfl (fun q52 => ?_) (fun q52 => ?_)
            · exfalso; omega
            · skip
              refine y_push rfl ?_
              refine y_zret rfl rfl (by decide) ⟨_, rfl, ?_⟩
              have rf : rF T L p = nmS T L (itE T L p) := by unfold rF; rw [if_pos (by omega)]; exact n_0
              exact Or.inr ⟨rfl, by rw [rf]; omega, by rw [yeq, rf]; exact a6_0, fun x y c d => by rw [yne (by omega) rfl, yne (by omega) rfl]; try exact f_0 x y c d⟩
          · exfalso; omega
theorem x_readRest8 {g : Launch × XG × va_G} {σ : YS} {T : Int → Int} {L : Int} {p : Int} (hL : σ 140 2 = L) (hT : ∀ k, 0 ≤ k → k < L → σ 141 k = T k) (hTr : ∀ k, 0 ≤ k → k < L → 0 ≤ T k ∧ T k ≤ 255) (hl : 0 ≤ L ∧ L ≤ 200) (hx : xat σ T L (nmS T L (itE T L p))) (hp : 0 ≤ p ∧ p ≤ L) (hw : lwd T L p = 3) : YI g 153 [(2, 140), (0, 8)] σ (fun b σ' => (b = 1 ∧ rF T L p = -1 ∧ σ' 142 0 = itA T L p ∧ (lwd T L p = 1 ∨ lwd T L p = 2 → σ' 142 1 = itB T L p) ∧ (lwd T L p = 3 → σ' 140 8 = itG T L p ∧ σ' 140 9 = itG T L p + itM T L p ∧ 0 ≤ itG T L p ∧ 1 ≤ itM T L p ∧ itG T L p + itM T L p ≤ L) ∧ xat σ' T L (nmS T L (itN T L p)) ∧ σ' 140 3 = σ 140 3 ∧ (0 ≤ itN T L p ∧ itN T L p ≤ L) ∧ frR σ σ') ∨ (b = 0 ∧ rF T L p ≠ -1 ∧ σ' 140 3 = rF T L p ∧ frR σ σ')) := by
  refine y_start rfl rfl rfl ?_
  have r_0 : 0 ≤ (itE T L p) ∧ (itE T L p) ≤ L := itE_r hp
  have ⟨a5_0, a6_0, a7_0⟩ := hx
  have f_0 : frR σ σ := fun _ _ _ _ => rfl
  have g_0 : σ 140 3 = σ 140 3 := rfl
  refine y_iload rfl rfl ?_
  refine y_push rfl ?_
  refine y_iceq rfl (fun q3 => ?_) (fun q3 => ?_)
  · exfalso; omega
  · skip
    refine y_iload rfl rfl ?_
    refine y_push rfl ?_
    refine y_icne rfl (fun q9 => ?_) (fun q9 => ?_)
    · skip
      refine y_push rfl ?_
      refine y_istore (L' := [some (2, 140), some (0, 8), some (0, 1), none]) rfl rfl rfl rfl ?_
      refine y_push rfl ?_
      refine y_istore (L' := [some (2, 140), some (0, 8), some (0, 1), some (0, 0)]) rfl rfl rfl rfl ?_
      refine y_iload rfl rfl ?_
      refine y_iload rfl rfl ?_
      refine y_icge rfl (fun q22 => ?_) (fun q22 => ?_)
      · exfalso; omega
      · skip
        refine y_aload rfl rfl rfl ?_
        refine y_gfr (t := 142) rfl rfl (by decide) rfl (by decide) ?_
        refine y_iload rfl rfl ?_
        refine y_aload rfl rfl rfl ?_
        have e_0 := nmS_r (T := T) (L := L) (p := (itE T L p)) r_0.2
        have x_0 := xtend_r (T := T) (L := L) (s := nmS T L (itE T L p)) e_0.2
        refine y_vi (as := [(2, 140)]) (S := [(0, 0), (2, 142)]) rfl rfl rfl rfl rfl rfl (by decide) rfl (x_value (T := T) (L := L) (p := nmS T L (itE T L p)) (d := xtend T L (nmS T L (itE T L p))) (rfl.trans hL) (fun k a b => (rfl.trans (hT k a b))) hTr hl a6_0 a7_0 ⟨by omega, x_0.2⟩ (fun z => xtok_2 (a5_0.symm.trans z))) ?_
        rintro b_ s_ (⟨z5_0, rfl, rfl⟩ | ⟨z5_0, rfl, rfl⟩)
        · skip
          have n_0 := ((xtok_num (T := T) (L := L) (p := (itE T L p)) r_0.1 r_0.2).resolve_right (fun z => z.1 (a5_0.symm.trans z5_0))).2
          refine y_iast (n := 2) rfl rfl (by decide) rfl (by decide) ?_
          refine y_aload rfl rfl rfl ?_
          refine y_aload rfl rfl rfl ?_
          refine y_gfi (v := (σ 140 5)) rfl rfl (by decide) rfl (by decide) rfl (yne (by omega) rfl) ?_
          refine y_push rfl ?_
          refine y_icne rfl (fun q41 => ?_) (fun q41 => ?_)
          · exfalso; omega
          · skip
            refine y_push rfl ?_
            refine y_goto rfl ?_
            have r_1 : 0 ≤ (nmD T L (itE T L p)) ∧ (nmD T L (itE T L p)) ≤ L := nmD_r0 r_0
            refine y_vi (as := [(2, 140), (0, 1)]) (S := []) rfl rfl rfl rfl rfl rfl (by decide) rfl (x_expect1 (T := T) (L := L) (p := (nmD T L (itE T L p))) ((yne (by omega) rfl).trans hL) (fun k a b => ((yne (by omega) rfl).trans (hT k a b))) hTr hl ((yne (by omega) rfl).trans (a7_0.trans n_0.2.1)) r_1) ?_
            rintro _ s1 ⟨rfl, y1⟩
            have a5_1 := y1.1
            have a6_1 := y1.2.1
            have a7_1 := y1.2.2.1
            have f_1 : frR σ s1 := fun x y c d => by rw [y1.2.2.2 x y (by omega), yne (by omega) rfl]; try exact f_0 x y c d
            have g_1 : s1 140 3 = σ 140 3 := by rw [y1.2.2.2 _ _ (by omega), yne (by omega) rfl]; try exact g_0
            have m0_1 : s1 142 0 = itA T L p := by rw [y1.2.2.2 _ _ (by omega), yeq, n_0.2.1]; exact n_0.2.2.symm
            refine y_ifne rfl (fun q52 => ?_) (fun q52 => ?_)
            · skip
              refine y_iinc (L' := [some (2, 140), some (0, 8), some (0, 1), some (0, 1)]) rfl rfl rfl rfl rfl (by decide) ?_
              refine y_goto rfl ?_
              refine y_iload rfl rfl ?_
              refine y_iload rfl rfl ?_
              refine y_icge rfl (fun q22 => ?_) (fun q22 => ?_)
              · skip
                refine y_iload rfl rfl ?_
                refine y_push rfl ?_
                have e_1 := nmS_r (T := T) (L := L) (p := (nmD T L (itE T L p))) r_1.2
                have x_1 := xtend_r (T := T) (L := L) (s := nmS T L (nmD T L (itE T L p))) e_1.2
                refine y_icne rfl (fun q66 => ?_) (fun q66 => ?_)
                · exfalso; omega
                · skip
                  refine y_aload rfl rfl rfl ?_
                  refine y_aload rfl rfl rfl ?_
                  refine y_gfi (v := (s1 140 6)) rfl rfl (by decide) rfl (by decide) rfl rfl ?_
                  refine y_push rfl ?_
                  refine y_iadd (v := ((s1 140 6) + 1)) rfl rfl (by omega) ?_
                  refine y_pfi (j := 8) rfl rfl (by decide) rfl rfl rfl rfl rfl ?_
                  refine y_aload rfl rfl rfl ?_
                  refine y_aload rfl rfl rfl ?_
                  refine y_gfi (v := (s1 140 7)) rfl rfl (by decide) rfl (by decide) rfl (yne (by omega) rfl) ?_
                  refine y_push rfl ?_
                  refine y_isub (v := ((s1 140 7) - 1)) rfl rfl (by omega) ?_
                  refine y_pfi (j := 9) rfl rfl (by decide) rfl rfl rfl rfl rfl ?_
                  refine y_aload rfl rfl rfl ?_
                  refine y_aload rfl rfl rfl ?_
                  refine y_gfi (v := (s1 140 5)) rfl rfl (by decide) rfl (by decide) rfl (yne (by omega) (yne (by omega) rfl)) ?_
                  refine y_push rfl ?_
                  refine y_icne rfl (fun q95 => ?_) (fun q95 => ?_)
                  · skip
                    refine y_push rfl ?_
                    refine y_vi (as := [(2, 140), (0, 0)]) (S := []) rfl rfl rfl rfl rfl rfl (by decide) rfl x_expect0 ?_
                    rintro _ s_ ⟨rfl, rfl⟩
                    refine y_ifne rfl (fun q106 => ?_) (fun q106 => ?_)
                    · exfalso; omega
                    · skip
                      refine y_push rfl ?_
                      refine y_zret rfl rfl (by decide) ⟨_, rfl, ?_⟩
                      have nn := ((xtok_sl (T := T) (L := L) (p := (nmD T L (itE T L p))) r_1.1 r_1.2).resolve_left (fun z => q95 (a5_1.trans z.1))).2
                      have i2_ : itF2 T L p = nmS T L (nmD T L (itE T L p)) := by unfold itF2; rw [if_neg (by omega), if_pos hw]; exact nn
                      have rf : rF T L p = nmS T L (nmD T L (itE T L p)) := by unfold rF; rw [if_neg (by omega), if_pos (by omega)]; exact i2_
                      exact Or.inr ⟨rfl, by rw [rf]; omega, by rw [yeq, rf]; exact a6_1, fun x y c d => by rw [yne (by omega) rfl, yne (by omega) rfl, yne (by omega) rfl]; try exact f_1 x y c d⟩
                  · skip
                    refine y_push rfl ?_
                    refine y_goto rfl ?_
                    have n_1 := ((xtok_sl (T := T) (L := L) (p := (nmD T L (itE T L p))) r_1.1 r_1.2).resolve_right (fun z => z.1 (a5_1.symm.trans q95))).2
                    have r_2 : 0 ≤ (sqG T L (nmD T L (itE T L p)) + 1) ∧ (sqG T L (nmD T L (itE T L p)) + 1) ≤ L := by rw [← n_1.2]; omega
                    have so : sqOk T L (nmD T L (itE T L p)) := by have z := n_1.1; unfold sqF at z; split at z; exact absurd z (by omega); split at z; assumption; exact absurd z (by omega)
                    refine y_vi (as := [(2, 140), (0, 1)]) (S := []) rfl rfl rfl rfl rfl rfl (by decide) rfl (x_expect1 (T := T) (L := L) (p := (sqG T L (nmD T L (itE T L p)) + 1)) ((yne (by omega) (yne (by omega) rfl)).trans ((f_1 _ _ (by omega) (by omega)).trans hL)) (fun k a b => ((yne (by omega) (yne (by omega) rfl)).trans ((f_1 _ _ (by omega) (by omega)).trans (hT k a b)))) hTr hl ((yne (by omega) (yne (by omega) rfl)).trans (a7_1.trans n_1.2)) r_2) ?_
                    rintro _ s2 ⟨rfl, y2⟩
                    have a5_2 := y2.1
                    have a6_2 := y2.2.1
                    have a7_2 := y2.2.2.1
                    have f_2 : frR σ s2 := fun x y c d => by rw [y2.2.2.2 x y (by omega), yne (by omega) rfl, yne (by omega) rfl]; try exact f_1 x y c d
                    have g_2 : s2 140 3 = σ 140 3 := by rw [y2.2.2.2 _ _ (by omega), yne (by omega) rfl, yne (by omega) rfl]; try exact g_1
                    have m0_2 : s2 142 0 = itA T L p := by rw [y2.2.2.2 _ _ (by omega), yne (by omega) rfl, yne (by omega) rfl]; exact m0_1
                    have m8_2 : s2 140 8 = itG T L p := by rw [y2.2.2.2 _ _ (by omega), yne (by omega) rfl, yeq, a6_1]; rfl
                    have m9_2 : s2 140 9 = itG T L p + itM T L p := by rw [y2.2.2.2 _ _ (by omega), yeq, a7_1, n_1.2]; unfold itG itM; omega
                    refine y_ifne rfl (fun q106 => ?_) (fun q106 => ?_)
                    · skip
                      have e_2 := nmS_r (T := T) (L := L) (p := (sqG T L (nmD T L (itE T L p)) + 1)) r_2.2
                      have x_2 := xtend_r (T := T) (L := L) (s := nmS T L (sqG T L (nmD T L (itE T L p)) + 1)) e_2.2
                      have iq : itQ T L p = (sqG T L (nmD T L (itE T L p)) + 1) := by unfold itQ; rw [if_neg (by omega), if_pos hw]
                      have i2 : itF2 T L p = -1 := by unfold itF2; rw [if_neg (by omega), if_pos hw]; exact n_1.1
                      refine y_aload rfl rfl rfl ?_
                      refine y_aload rfl rfl rfl ?_
                      refine y_gfi (v := (s2 140 5)) rfl rfl (by decide) rfl (by decide) rfl rfl ?_
                      refine y_push rfl ?_
                      refine y_icne rfl (fun q117 => ?_) (fun q117 => ?_)
                      · skip
                        refine y_push rfl ?_
                        refine y_vi (as := [(2, 140), (0, 0)]) (S := []) rfl rfl rfl rfl rfl rfl (by decide) rfl x_expect0 ?_
                        rintro _ s_ ⟨rfl, rfl⟩
                        refine y_zret rfl rfl (by decide) ⟨_, rfl, ?_⟩
                        have nn := ((xtok_end (T := T) (L := L) (p := (sqG T L (nmD T L (itE T L p)) + 1)) r_2.1 r_2.2).resolve_left (fun z => q117 (a5_2.trans z.1))).2
                        have rf : rF T L p = nmS T L (sqG T L (nmD T L (itE T L p)) + 1) := by unfold rF; rw [if_neg (by omega), if_neg (by omega), iq]; exact nn
                        exact Or.inr ⟨rfl, by rw [rf]; omega, by rw [yeq, rf]; exact a6_2, fun x y c d => by rw [yne (by omega) rfl]; try exact f_2 x y c d⟩
                      · skip
                        refine y_push rfl ?_
                        refine y_goto rfl ?_
                        have n_2 := ((xtok_end (T := T) (L := L) (p := (sqG T L (nmD T L (itE T L p)) + 1)) r_2.1 r_2.2).resolve_right (fun z => z.1 (a5_2.symm.trans q117))).2
                        have iN : itN T L p = nmS T L (sqG T L (nmD T L (itE T L p)) + 1) + 1 := by unfold itN; rw [iq]
                        have r_3 : 0 ≤ (itN T L p) ∧ (itN T L p) ≤ L := by rw [iN, ← n_2.2]; omega
                        refine y_vi (as := [(2, 140), (0, 1)]) (S := []) rfl rfl rfl rfl rfl rfl (by decide) rfl (x_expect1 (T := T) (L := L) (p := (itN T L p)) (rfl.trans ((f_2 _ _ (by omega) (by omega)).trans hL)) (fun k a b => (rfl.trans ((f_2 _ _ (by omega) (by omega)).trans (hT k a b)))) hTr hl (rfl.trans (a7_2.trans (n_2.2.trans iN.symm))) r_3) ?_
                        rintro _ s3 ⟨rfl, y3⟩
                        have a5_3 := y3.1
                        have a6_3 := y3.2.1
                        have a7_3 := y3.2.2.1
                        have f_3 : frR σ s3 := fun x y c d => by rw [y3.2.2.2 x y (by omega)]; try exact f_2 x y c d
                        have g_3 : s3 140 3 = σ 140 3 := by rw [y3.2.2.2 _ _ (by omega)]; try exact g_2
                        have m0_3 : s3 142 0 = itA T L p := by rw [y3.2.2.2 _ _ (by omega)]; exact m0_2
                        have m8_3 : s3 140 8 = itG T L p := by rw [y3.2.2.2 _ _ (by omega)]; exact m8_2
                        have m9_3 : s3 140 9 = itG T L p + itM T L p := by rw [y3.2.2.2 _ _ (by omega)]; exact m9_2
                        refine y_zret rfl rfl (by decide) ⟨_, rfl, ?_⟩
                        have rf : rF T L p = -1 := by unfold rF; rw [if_neg (by omega), if_neg (by omega), iq]; exact n_2.1
                        exact Or.inl ⟨rfl, rf, m0_3, fun z => by omega, fun _ => ⟨m8_3, m9_3, by unfold itG; omega, by unfold itM; exact so.2.2.2.1, by have := so.2.1; unfold itG itM; omega⟩, ⟨a5_3, a6_3, a7_3⟩, g_3, r_3, f_3⟩
                    · exfalso; omega
              · exfalso; omega
            · exfalso; omega
        · skip
          have n_0 := ((xtok_num (T := T) (L := L) (p := (itE T L p)) r_0.1 r_0.2).resolve_left (fun z => z5_0 (a5_0.trans z.1))).2
          refine y_iast (n := 2) rfl rfl (by decide) rfl (by decide) ?_
          refine y_aload rfl rfl rfl ?_
          refine y_aload rfl rfl rfl ?_
          refine y_gfi (v := (σ 140 5)) rfl rfl (by decide) rfl (by decide) rfl (yne (by omega) rfl) ?_
          refine y_push rfl ?_
          refine y_icne rfl (fun q41 => ?_) (fun q41 => ?_)
          · skip
            refine y_push rfl ?_
            refine y_vi (as := [(2, 140), (0, 0)]) (S := []) rfl rfl rfl rfl rfl rfl (by decide) rfl x_expect0 ?_
            rintro _ s_ ⟨rfl, rfl⟩
            refine y_ifne rfl (fun q52 => ?_) (fun q52 => ?_)
            · exfalso; omega
            · skip
              refine y_push rfl ?_
              refine y_zret rfl rfl (by decide) ⟨_, rfl, ?_⟩
              have rf : rF T L p = nmS T L (itE T L p) := by unfold rF; rw [if_pos (by omega)]; exact n_0
              exact Or.inr ⟨rfl, by rw [rf]; omega, by rw [yeq, rf]; exact a6_0, fun x y c d => by rw [yne (by omega) rfl, yne (by omega) rfl]; try exact f_0 x y c d⟩
          · exfalso; omega
    · exfalso; omega
theorem x_readRest {g : Launch × XG × va_G} {σ : YS} {T : Int → Int} {L : Int} {p w : Int} (hL : σ 140 2 = L) (hT : ∀ k, 0 ≤ k → k < L → σ 141 k = T k) (hTr : ∀ k, 0 ≤ k → k < L → 0 ≤ T k ∧ T k ≤ 255) (hl : 0 ≤ L ∧ L ≤ 200) (hx : xat σ T L (nmS T L (itE T L p))) (hp : 0 ≤ p ∧ p ≤ L) (hw : w = lwd T L p + 5) (hwl : 0 ≤ lwd T L p ∧ lwd T L p ≤ 3) : YI g 153 [(2, 140), (0, w)] σ (fun b σ' => (b = 1 ∧ rF T L p = -1 ∧ σ' 142 0 = itA T L p ∧ (lwd T L p = 1 ∨ lwd T L p = 2 → σ' 142 1 = itB T L p) ∧ (lwd T L p = 3 → σ' 140 8 = itG T L p ∧ σ' 140 9 = itG T L p + itM T L p ∧ 0 ≤ itG T L p ∧ 1 ≤ itM T L p ∧ itG T L p + itM T L p ≤ L) ∧ xat σ' T L (nmS T L (itN T L p)) ∧ σ' 140 3 = σ 140 3 ∧ (0 ≤ itN T L p ∧ itN T L p ≤ L) ∧ frR σ σ') ∨ (b = 0 ∧ rF T L p ≠ -1 ∧ σ' 140 3 = rF T L p ∧ frR σ σ')) := by
  rcases (by omega : lwd T L p = 0 ∨ lwd T L p = 1 ∨ lwd T L p = 2 ∨ lwd T L p = 3) with z | z | z | z
  · rw [show w = 5 by omega]; exact x_readRest5 hL hT hTr hl hx hp z
  · rw [show w = 6 by omega]; exact x_readRest6 hL hT hTr hl hx hp z
  · rw [show w = 7 by omega]; exact x_readRest7 hL hT hTr hl hx hp z
  · rw [show w = 8 by omega]; exact x_readRest8 hL hT hTr hl hx hp z
