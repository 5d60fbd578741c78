/-! The class: what a text tells; read. -/
theorem lx_tell {g : Launch × XG × va_G} {σ : YS} {T : Int → Int} {L N : Int} {E D : YS}  (hL : σ 140 2 = L) (hT : ∀ k, 0 ≤ k → k < L → σ 141 k = T k) (hTr : ∀ k, 0 ≤ k → k < L → 0 ≤ T k ∧ T k ≤ 255) (hl : 0 ≤ L ∧ L ≤ 200) (ho : oG (1, E, D) N) (hN : 0 ≤ N) (h7 : σ 37 7 = D 6 0) : ∀ (nn : Nat) (τ : YS) (n : Nat), 42 - n < (nn : Int) → (5 * (n : Int) ≤ (ips T L n) ∧ (ips T L n) ≤ L) → (xat τ T L (ips T L n)) → (∀ j : Nat, j < n → (ips T L j) ≠ L ∧ itF T L j (ips T L j) = -1) → (τ 140 3 = -1) → ((τ 140 4 = -1 ∧ (obs T L E D n).1 ≠ 0 ∧ (rep τ 37 (obs T L E D n).2.1 (obs T L E D n).2.2 ∨ (n = 0 ∧ τ 37 7 = (obs T L E D n).2.2 6 0))) ∨ (∃ j : Nat, j < n ∧ (obs T L E D j).1 ≠ 0 ∧ (obs T L E D (j + 1)).1 = 0 ∧ τ 140 4 = j)) → ((∀ x y, ¬ (37 ≤ x ∧ x ≤ 49) → ¬ (x = 140 ∧ 3 ≤ y ∧ y ≤ 9) → x ≠ 142 → τ x y = σ x y)) → YW g 43 21 [some (2, 140), some (2, 37), some (0, (n : Int)), none, none] [] τ (fun rv σ' => ∃ b, rv = some (0, b) ∧ ((σ' 140 3 = -1 ∧ ∃ n : Nat, rdn T L n ∧ ips T L n = L ∧ 0 < n ∧ b = n ∧ (n : Int) ≤ 40 ∧ ((σ' 140 4 = -1 ∧ (obs T L E D n).1 ≠ 0 ∧ rep σ' 37 (obs T L E D n).2.1 (obs T L E D n).2.2) ∨ ∃ j : Nat, j < n ∧ (obs T L E D j).1 ≠ 0 ∧ (obs T L E D (j + 1)).1 = 0 ∧ σ' 140 4 = j) ∧ (∀ x y, ¬ (37 ≤ x ∧ x ≤ 49) → ¬ (x = 140 ∧ 3 ≤ y ∧ y ≤ 9) → x ≠ 142 → σ' x y = σ x y)) ∨ ((0 ≤ σ' 140 3 ∧ σ' 140 3 ≤ 200) ∧ (∃ n : Nat, rdn T L n ∧ ((ips T L n = L ∧ n = 0 ∧ σ' 140 3 = L) ∨ (ips T L n ≠ L ∧ σ' 140 3 = itF T L n (ips T L n)))) ∧ (∀ x y, ¬ (37 ≤ x ∧ x ≤ 49) → ¬ (x = 140 ∧ 3 ≤ y ∧ y ≤ 9) → x ≠ 142 → σ' x y = σ x y)))) := by
  intro nn
  induction nn with
  | zero =>
    intro τ n hn h0 h1 h2 h3 h4 h5
    exfalso
    omega
  | succ nn ih =>
    intro τ n hn h0 h1 h2 h3 h4 h5
    have ⟨x5, x6, x7⟩ := h1
    have p0 : 0 ≤ (ips T L n) ∧ (ips T L n) ≤ L := by omega
    have xr := xtend_r (T := T) p0.2
    have wd := xtok_wd (T := T) p0.2
    have wr := lwd_r (T := T) (L := L) (p := (ips T L n))
    refine y_iload rfl rfl ?_
    refine y_push rfl ?_
    refine y_icgt rfl (fun q25 => ?_) (fun q25 => ?_)
    · skip
      refine y_push rfl ?_
      refine y_iret rfl rfl ⟨_, rfl, ?_⟩
      exfalso; omega
    · skip
      refine y_iload rfl rfl ?_
      refine y_ifle rfl (fun q29 => ?_) (fun q29 => ?_)
      · skip
        refine y_aload rfl rfl rfl ?_
        refine y_gfi (v := (τ 140 5)) rfl rfl (by decide) rfl (by decide) rfl rfl ?_
        refine y_istore (L' := [some (2, 140), some (2, 37), some (0, (n : Int)), some (0, (τ 140 5)), none]) rfl rfl rfl rfl ?_
        refine y_iload rfl rfl ?_
        refine y_ifne rfl (fun q47 => ?_) (fun q47 => ?_)
        · exfalso; omega
        · skip
          refine y_iload rfl rfl ?_
          refine y_push rfl ?_
          refine y_icne rfl (fun q52 => ?_) (fun q52 => ?_)
          · skip
            refine y_push rfl ?_
            refine y_goto rfl ?_
            refine y_istore (L' := [some (2, 140), some (2, 37), some (0, (n : Int)), some (0, (τ 140 5)), some (0, 0)]) rfl rfl rfl rfl ?_
            refine y_aload rfl rfl rfl ?_
            refine y_iload rfl rfl ?_
            refine y_vi (as := [(2, 140), (0, 0)]) (S := []) rfl rfl rfl rfl rfl rfl (by decide) rfl x_expect0 ?_
            rintro _ s_ ⟨rfl, rfl⟩
            refine y_ifeq rfl (fun q94 => ?_) (fun q94 => ?_)
            · skip
              refine y_push rfl ?_
              refine y_iret rfl rfl ⟨_, rfl, ?_⟩
              have bad : itBad T L n (ips T L n) := by unfold itBad; omega
              have fl : itF T L n (ips T L n) = (ips T L n) := if_pos bad
              refine Or.inr ⟨by rw [yeq, x6]; omega, ⟨n, ⟨h2, Or.inr (by rw [fl]; omega)⟩, ?_⟩, fun x y a b c => by rw [yne (by omega) rfl]; exact h5 x y a b c⟩
              rw [yeq, x6]
              by_cases eL : (ips T L n) = L
              · exact Or.inl ⟨eL, by omega, eL⟩
              · exact Or.inr ⟨eL, fl.symm⟩
            · exfalso; omega
          · skip
            refine y_push rfl ?_
            refine y_goto rfl ?_
            refine y_istore (L' := [some (2, 140), some (2, 37), some (0, (n : Int)), some (0, (τ 140 5)), some (0, 1)]) rfl rfl rfl rfl ?_
            refine y_aload rfl rfl rfl ?_
            refine y_iload rfl rfl ?_
            have gd : ¬ itBad T L n (ips T L n) := by unfold itBad; omega
            have w0 : 0 ≤ lwd T L (ips T L n) ∧ lwd T L (ips T L n) ≤ 3 := by omega
            have wv_ : τ 140 5 = lwd T L (ips T L n) + 5 := by omega
            have xe : xtend T L (ips T L n) = itE T L (ips T L n) := by omega
            have nL : (ips T L n) ≠ L := fun z => by have := (xtok_0 (T := T) (L := L) (s := (ips T L n)) (by omega)).1; omega
            have er := itE_r (T := T) p0
            refine y_vi (as := [(2, 140), (0, 1)]) (S := []) rfl rfl rfl rfl rfl rfl (by decide) rfl (x_expect1 (T := T) (L := L) (p := itE T L (ips T L n)) ((h5 _ _ (by omega) (by omega) (by omega)).trans hL) (fun k a b => (h5 _ _ (by omega) (by omega) (by omega)).trans (hT k a b)) hTr hl (x7.trans xe) er) ?_
            rintro _ s1 ⟨rfl, y1⟩
            refine y_ifeq rfl (fun q94 => ?_) (fun q94 => ?_)
            · exfalso; omega
            · skip
              refine y_aload rfl rfl rfl ?_
              refine y_iload rfl rfl ?_
              refine y_vi (as := [(2, 140), (0, (τ 140 5))]) (S := []) rfl rfl rfl rfl rfl rfl (by decide) rfl (x_readRest (T := T) (L := L) (p := (ips T L n)) (w := τ 140 5) ((y1.2.2.2 _ _ (by omega)).trans ((h5 _ _ (by omega) (by omega) (by omega)).trans hL)) (fun k a b => (y1.2.2.2 _ _ (by omega)).trans ((h5 _ _ (by omega) (by omega) (by omega)).trans (hT k a b))) hTr hl ⟨y1.1, y1.2.1, y1.2.2.1⟩ p0 wv_ w0) ?_
              rintro b_ s2 (⟨rfl, rf, m0, mB, mS, xa, g3, nr, fr⟩ | ⟨rfl, rf, g3, fr⟩)
              · skip
                have e4 : s2 140 4 = τ 140 4 := by rw [fr _ _ (by omega) (by omega), y1.2.2.2 _ _ (by omega)]
                have f2 : (∀ x y, ¬ (37 ≤ x ∧ x ≤ 49) → ¬ (x = 140 ∧ 3 ≤ y ∧ y ≤ 9) → x ≠ 142 → s2 x y = σ x y) := fun x y a b c => by rw [fr _ _ (by omega) (by omega), y1.2.2.2 _ _ (by omega)]; exact h5 x y a b c
                have hF : itF T L n (ips T L n) = -1 := (itF_rF gd).trans rf
                have n5 := itN_5 p0 hF
                have nn5 := nmS_r (T := T) (L := L) n5.2
                have is : ips T L (n + 1) = nmS T L (itN T L (ips T L n)) := rfl
                refine y_ifne rfl (fun q102 => ?_) (fun q102 => ?_)
                · skip
                  refine y_aload rfl rfl rfl ?_
                  refine y_gfi (v := (s2 140 4)) rfl rfl (by decide) rfl (by decide) rfl rfl ?_
                  refine y_push rfl ?_
                  refine y_icne rfl (fun q112 => ?_) (fun q112 => ?_)
                  · skip
                    refine y_iinc (L' := [some (2, 140), some (2, 37), some (0, ((n : Int) + 1)), some (0, (τ 140 5)), some (0, 1)]) rfl rfl rfl rfl rfl (by omega) ?_
                    refine y_goto rfl ?_
                    refine y_forget (M := [some (2, 140), some (2, 37), some (0, ((n : Int) + 1)), none, none]) ⟨Or.inr rfl, ⟨Or.inr rfl, ⟨Or.inr rfl, ⟨Or.inl rfl, ⟨Or.inl rfl, trivial⟩⟩⟩⟩⟩ ?_
                    have nG : ∀ j : Nat, j < n + 1 → (ips T L j) ≠ L ∧ itF T L j (ips T L j) = -1 := fun j hj => by
                      by_cases e : j = n
                      · subst e; exact ⟨nL, hF⟩
                      · exact h2 j (by omega)
                    have z3 : s2 140 3 = -1 := by rw [g3, y1.2.2.2 _ _ (by omega)]; exact h3
                    refine ih s2 (n + 1) (by omega) (by rw [is]; omega) xa nG (z3) ?_ (fun x y a b c => f2 x y a b c)
                    rcases h4 with ⟨z1, _⟩ | ⟨j, j1, j2, j3, j4⟩
                    · exfalso; omega
                    · exact Or.inr ⟨j, by omega, j2, j3, e4.trans j4⟩
                  · skip
                    refine y_aload rfl rfl rfl ?_
                    refine y_aload rfl rfl rfl ?_
                    refine y_iload rfl rfl ?_
                    have h4a := h4.resolve_right (fun ⟨j, _, _, _, z⟩ => by omega)
                    have og := oG_n (T := T) (L := L) hN ho n
                    have hrr : rep s2 37 (obs T L E D n).2.1 (obs T L E D n).2.2 ∨ (lwd T L (ips T L n) = 0 ∧ s2 37 7 = (obs T L E D n).2.2 6 0) := by
                      rcases h4a.2.2 with z | ⟨z, z2⟩
                      · exact Or.inl (rep_cong og.1.2.1.2 z (fun x y a b => by rw [fr _ _ (by omega) (by omega), y1.2.2.2 _ _ (by omega)]))
                      · exact Or.inr ⟨by unfold itBad at gd; omega, by rw [fr _ _ (by omega) (by omega), y1.2.2.2 _ _ (by omega)]; exact z2⟩
                    have os : (obs T L E D (n + 1)) = ob1 T L (ips T L n) (obs T L E D n) := if_neg h4a.2.1
                    refine y_vi (as := [(2, 140), (2, 37), (0, (τ 140 5))]) (S := []) rfl rfl rfl rfl rfl rfl (by decide) rfl (x_obey (T := T) (L := L) (p := (ips T L n)) (w := τ 140 5) (N := N) (r := (obs T L E D n)) ((f2 _ _ (by omega) (by omega) (by omega)).trans hL) (fun k a b => (f2 _ _ (by omega) (by omega) (by omega)).trans (hT k a b)) hTr hl wv_ w0 m0 mB mS og h4a.2.1 hrr) ?_
                    rintro b_ s3 (⟨v0, v1, v2⟩ | ⟨v0, v1, v2, v3⟩)
                    · skip
                      rw [← os] at v1
                      refine y_ifge rfl (fun q121 => ?_) (fun q121 => ?_)
                      · exfalso; omega
                      · skip
                        refine y_aload rfl rfl rfl ?_
                        refine y_iload rfl rfl ?_
                        refine y_pfi (j := 4) rfl rfl (by decide) rfl rfl rfl rfl rfl ?_
                        refine y_iinc (L' := [some (2, 140), some (2, 37), some (0, ((n : Int) + 1)), some (0, (τ 140 5)), some (0, 1)]) rfl rfl rfl rfl rfl (by omega) ?_
                        refine y_goto rfl ?_
                        refine y_forget (M := [some (2, 140), some (2, 37), some (0, ((n : Int) + 1)), none, none]) ⟨Or.inr rfl, ⟨Or.inr rfl, ⟨Or.inr rfl, ⟨Or.inl rfl, ⟨Or.inl rfl, trivial⟩⟩⟩⟩⟩ ?_
                        have nG : ∀ j : Nat, j < n + 1 → (ips T L j) ≠ L ∧ itF T L j (ips T L j) = -1 := fun j hj => by
                          by_cases e : j = n
                          · subst e; exact ⟨nL, hF⟩
                          · exact h2 j (by omega)
                        have z3 : s2 140 3 = -1 := by rw [g3, y1.2.2.2 _ _ (by omega)]; exact h3
                        refine ih (yset s3 140 4 (n : Int)) (n + 1) (by omega) (by rw [is]; omega) ⟨by rw [yne (by omega) rfl, v2 _ _ (by omega)]; exact xa.1, by rw [yne (by omega) rfl, v2 _ _ (by omega)]; exact xa.2.1, by rw [yne (by omega) rfl, v2 _ _ (by omega)]; exact xa.2.2⟩ nG (by rw [yne (by omega) rfl, v2 _ _ (by omega)]; exact z3) (Or.inr ⟨n, by omega, h4a.2.1, v1, yeq _ _ _ _⟩) (fun x y a b c => by rw [yne (by omega) rfl, v2 _ _ (by omega)]; exact f2 x y a b c)
                    · skip
                      rw [← os] at v1 v2
                      refine y_ifge rfl (fun q121 => ?_) (fun q121 => ?_)
                      · skip
                        refine y_iinc (L' := [some (2, 140), some (2, 37), some (0, ((n : Int) + 1)), some (0, (τ 140 5)), some (0, 1)]) rfl rfl rfl rfl rfl (by omega) ?_
                        refine y_goto rfl ?_
                        refine y_forget (M := [some (2, 140), some (2, 37), some (0, ((n : Int) + 1)), none, none]) ⟨Or.inr rfl, ⟨Or.inr rfl, ⟨Or.inr rfl, ⟨Or.inl rfl, ⟨Or.inl rfl, trivial⟩⟩⟩⟩⟩ ?_
                        have nG : ∀ j : Nat, j < n + 1 → (ips T L j) ≠ L ∧ itF T L j (ips T L j) = -1 := fun j hj => by
                          by_cases e : j = n
                          · subst e; exact ⟨nL, hF⟩
                          · exact h2 j (by omega)
                        have z3 : s2 140 3 = -1 := by rw [g3, y1.2.2.2 _ _ (by omega)]; exact h3
                        refine ih s3 (n + 1) (by omega) (by rw [is]; omega) ⟨by rw [v3 _ _ (by omega)]; exact xa.1, by rw [v3 _ _ (by omega)]; exact xa.2.1, by rw [v3 _ _ (by omega)]; exact xa.2.2⟩ nG (by rw [v3 _ _ (by omega)]; exact z3) (Or.inl ⟨by rw [v3 _ _ (by omega)]; omega, v1, Or.inl v2⟩) (fun x y a b c => by rw [v3 _ _ (by omega)]; exact f2 x y a b c)
                      · exfalso; omega
                · exfalso; omega
              · skip
                have f2 : (∀ x y, ¬ (37 ≤ x ∧ x ≤ 49) → ¬ (x = 140 ∧ 3 ≤ y ∧ y ≤ 9) → x ≠ 142 → s2 x y = σ x y) := fun x y a b c => by rw [fr _ _ (by omega) (by omega), y1.2.2.2 _ _ (by omega)]; exact h5 x y a b c
                refine y_ifne rfl (fun q102 => ?_) (fun q102 => ?_)
                · exfalso; omega
                · skip
                  refine y_push rfl ?_
                  refine y_iret rfl rfl ⟨_, rfl, ?_⟩
                  have fi := itF_rF (T := T) (L := L) (it := n) (p := (ips T L n)) gd
                  have ir := itF_r (T := T) (L := L) (it := n) p0
                  exact Or.inr ⟨by omega, ⟨n, ⟨h2, Or.inr (by rw [fi]; exact rf)⟩, Or.inr ⟨nL, by rw [fi]; exact g3⟩⟩, f2⟩
      · skip
        refine y_aload rfl rfl rfl ?_
        refine y_gfi (v := (τ 140 5)) rfl rfl (by decide) rfl (by decide) rfl rfl ?_
        refine y_ifne rfl (fun q36 => ?_) (fun q36 => ?_)
        · skip
          refine y_aload rfl rfl rfl ?_
          refine y_gfi (v := (τ 140 5)) rfl rfl (by decide) rfl (by decide) rfl rfl ?_
          refine y_istore (L' := [some (2, 140), some (2, 37), some (0, (n : Int)), some (0, (τ 140 5)), none]) rfl rfl rfl rfl ?_
          refine y_iload rfl rfl ?_
          refine y_ifne rfl (fun q47 => ?_) (fun q47 => ?_)
          · skip
            refine y_iload rfl rfl ?_
            refine y_push rfl ?_
            refine y_iceq rfl (fun q66 => ?_) (fun q66 => ?_)
            · skip
              refine y_push rfl ?_
              refine y_goto rfl ?_
              refine y_istore (L' := [some (2, 140), some (2, 37), some (0, (n : Int)), some (0, (τ 140 5)), some (0, 1)]) rfl rfl rfl rfl ?_
              refine y_aload rfl rfl rfl ?_
              refine y_iload rfl rfl ?_
              have gd : ¬ itBad T L n (ips T L n) := by unfold itBad; omega
              have w0 : 0 ≤ lwd T L (ips T L n) ∧ lwd T L (ips T L n) ≤ 3 := by omega
              have wv_ : τ 140 5 = lwd T L (ips T L n) + 5 := by omega
              have xe : xtend T L (ips T L n) = itE T L (ips T L n) := by omega
              have nL : (ips T L n) ≠ L := fun z => by have := (xtok_0 (T := T) (L := L) (s := (ips T L n)) (by omega)).1; omega
              have er := itE_r (T := T) p0
              refine y_vi (as := [(2, 140), (0, 1)]) (S := []) rfl rfl rfl rfl rfl rfl (by decide) rfl (x_expect1 (T := T) (L := L) (p := itE T L (ips T L n)) ((h5 _ _ (by omega) (by omega) (by omega)).trans hL) (fun k a b => (h5 _ _ (by omega) (by omega) (by omega)).trans (hT k a b)) hTr hl (x7.trans xe) er) ?_
              rintro _ s1 ⟨rfl, y1⟩
              refine y_ifeq rfl (fun q94 => ?_) (fun q94 => ?_)
              · exfalso; omega
              · skip
                refine y_aload rfl rfl rfl ?_
                refine y_iload rfl rfl ?_
                refine y_vi (as := [(2, 140), (0, (τ 140 5))]) (S := []) rfl rfl rfl rfl rfl rfl (by decide) rfl (x_readRest (T := T) (L := L) (p := (ips T L n)) (w := τ 140 5) ((y1.2.2.2 _ _ (by omega)).trans ((h5 _ _ (by omega) (by omega) (by omega)).trans hL)) (fun k a b => (y1.2.2.2 _ _ (by omega)).trans ((h5 _ _ (by omega) (by omega) (by omega)).trans (hT k a b))) hTr hl ⟨y1.1, y1.2.1, y1.2.2.1⟩ p0 wv_ w0) ?_
                rintro b_ s2 (⟨rfl, rf, m0, mB, mS, xa, g3, nr, fr⟩ | ⟨rfl, rf, g3, fr⟩)
                · skip
                  have e4 : s2 140 4 = τ 140 4 := by rw [fr _ _ (by omega) (by omega), y1.2.2.2 _ _ (by omega)]
                  have f2 : (∀ x y, ¬ (37 ≤ x ∧ x ≤ 49) → ¬ (x = 140 ∧ 3 ≤ y ∧ y ≤ 9) → x ≠ 142 → s2 x y = σ x y) := fun x y a b c => by rw [fr _ _ (by omega) (by omega), y1.2.2.2 _ _ (by omega)]; exact h5 x y a b c
                  have hF : itF T L n (ips T L n) = -1 := (itF_rF gd).trans rf
                  have n5 := itN_5 p0 hF
                  have nn5 := nmS_r (T := T) (L := L) n5.2
                  have is : ips T L (n + 1) = nmS T L (itN T L (ips T L n)) := rfl
                  refine y_ifne rfl (fun q102 => ?_) (fun q102 => ?_)
                  · skip
                    refine y_aload rfl rfl rfl ?_
                    refine y_gfi (v := (s2 140 4)) rfl rfl (by decide) rfl (by decide) rfl rfl ?_
                    refine y_push rfl ?_
                    refine y_icne rfl (fun q112 => ?_) (fun q112 => ?_)
                    · skip
                      refine y_iinc (L' := [some (2, 140), some (2, 37), some (0, ((n : Int) + 1)), some (0, (τ 140 5)), some (0, 1)]) rfl rfl rfl rfl rfl (by omega) ?_
                      refine y_goto rfl ?_
                      refine y_forget (M := [some (2, 140), some (2, 37), some (0, ((n : Int) + 1)), none, none]) ⟨Or.inr rfl, ⟨Or.inr rfl, ⟨Or.inr rfl, ⟨Or.inl rfl, ⟨Or.inl rfl, trivial⟩⟩⟩⟩⟩ ?_
                      have nG : ∀ j : Nat, j < n + 1 → (ips T L j) ≠ L ∧ itF T L j (ips T L j) = -1 := fun j hj => by
                        by_cases e : j = n
                        · subst e; exact ⟨nL, hF⟩
                        · exact h2 j (by omega)
                      have z3 : s2 140 3 = -1 := by rw [g3, y1.2.2.2 _ _ (by omega)]; exact h3
                      refine ih s2 (n + 1) (by omega) (by rw [is]; omega) xa nG (z3) ?_ (fun x y a b c => f2 x y a b c)
                      rcases h4 with ⟨z1, _⟩ | ⟨j, j1, j2, j3, j4⟩
                      · exfalso; omega
                      · exact Or.inr ⟨j, by omega, j2, j3, e4.trans j4⟩
                    · skip
                      refine y_aload rfl rfl rfl ?_
                      refine y_aload rfl rfl rfl ?_
                      refine y_iload rfl rfl ?_
                      have h4a := h4.resolve_right (fun ⟨j, _, _, _, z⟩ => by omega)
                      have og := oG_n (T := T) (L := L) hN ho n
                      have hrr : rep s2 37 (obs T L E D n).2.1 (obs T L E D n).2.2 ∨ (lwd T L (ips T L n) = 0 ∧ s2 37 7 = (obs T L E D n).2.2 6 0) := by
                        rcases h4a.2.2 with z | ⟨z, z2⟩
                        · exact Or.inl (rep_cong og.1.2.1.2 z (fun x y a b => by rw [fr _ _ (by omega) (by omega), y1.2.2.2 _ _ (by omega)]))
                        · exact Or.inr ⟨by unfold itBad at gd; omega, by rw [fr _ _ (by omega) (by omega), y1.2.2.2 _ _ (by omega)]; exact z2⟩
                      have os : (obs T L E D (n + 1)) = ob1 T L (ips T L n) (obs T L E D n) := if_neg h4a.2.1
                      refine y_vi (as := [(2, 140), (2, 37), (0, (τ 140 5))]) (S := []) rfl rfl rfl rfl rfl rfl (by decide) rfl (x_obey (T := T) (L := L) (p := (ips T L n)) (w := τ 140 5) (N := N) (r := (obs T L E D n)) ((f2 _ _ (by omega) (by omega) (by omega)).trans hL) (fun k a b => (f2 _ _ (by omega) (by omega) (by omega)).trans (hT k a b)) hTr hl wv_ w0 m0 mB mS og h4a.2.1 hrr) ?_
                      rintro b_ s3 (⟨v0, v1, v2⟩ | ⟨v0, v1, v2, v3⟩)
                      · skip
                        rw [← os] at v1
                        refine y_ifge rfl (fun q121 => ?_) (fun q121 => ?_)
                        · exfalso; omega
                        · skip
                          refine y_aload rfl rfl rfl ?_
                          refine y_iload rfl rfl ?_
                          refine y_pfi (j := 4) rfl rfl (by decide) rfl rfl rfl rfl rfl ?_
                          refine y_iinc (L' := [some (2, 140), some (2, 37), some (0, ((n : Int) + 1)), some (0, (τ 140 5)), some (0, 1)]) rfl rfl rfl rfl rfl (by omega) ?_
                          refine y_goto rfl ?_
                          refine y_forget (M := [some (2, 140), some (2, 37), some (0, ((n : Int) + 1)), none, none]) ⟨Or.inr rfl, ⟨Or.inr rfl, ⟨Or.inr rfl, ⟨Or.inl rfl, ⟨Or.inl rfl, trivial⟩⟩⟩⟩⟩ ?_
                          have nG : ∀ j : Nat, j < n + 1 → (ips T L j) ≠ L ∧ itF T L j (ips T L j) = -1 := fun j hj => by
                            by_cases e : j = n
                            · subst e; exact ⟨nL, hF⟩
                            · exact h2 j (by omega)
                          have z3 : s2 140 3 = -1 := by rw [g3, y1.2.2.2 _ _ (by omega)]; exact h3
                          refine ih (yset s3 140 4 (n : Int)) (n + 1) (by omega) (by rw [is]; omega) ⟨by rw [yne (by omega) rfl, v2 _ _ (by omega)]; exact xa.1, by rw [yne (by omega) rfl, v2 _ _ (by omega)]; exact xa.2.1, by rw [yne (by omega) rfl, v2 _ _ (by omega)]; exact xa.2.2⟩ nG (by rw [yne (by omega) rfl, v2 _ _ (by omega)]; exact z3) (Or.inr ⟨n, by omega, h4a.2.1, v1, yeq _ _ _ _⟩) (fun x y a b c => by rw [yne (by omega) rfl, v2 _ _ (by omega)]; exact f2 x y a b c)
                      · skip
                        rw [← os] at v1 v2
                        refine y_ifge rfl (fun q121 => ?_) (fun q121 => ?_)
                        · skip
                          refine y_iinc (L' := [some (2, 140), some (2, 37), some (0, ((n : Int) + 1)), some (0, (τ 140 5)), some (0, 1)]) rfl rfl rfl rfl rfl (by omega) ?_
                          refine y_goto rfl ?_
                          refine y_forget (M := [some (2, 140), some (2, 37), some (0, ((n : Int) + 1)), none, none]) ⟨Or.inr rfl, ⟨Or.inr rfl, ⟨Or.inr rfl, ⟨Or.inl rfl, ⟨Or.inl rfl, trivial⟩⟩⟩⟩⟩ ?_
                          have nG : ∀ j : Nat, j < n + 1 → (ips T L j) ≠ L ∧ itF T L j (ips T L j) = -1 := fun j hj => by
                            by_cases e : j = n
                            · subst e; exact ⟨nL, hF⟩
                            · exact h2 j (by omega)
                          have z3 : s2 140 3 = -1 := by rw [g3, y1.2.2.2 _ _ (by omega)]; exact h3
                          refine ih s3 (n + 1) (by omega) (by rw [is]; omega) ⟨by rw [v3 _ _ (by omega)]; exact xa.1, by rw [v3 _ _ (by omega)]; exact xa.2.1, by rw [v3 _ _ (by omega)]; exact xa.2.2⟩ nG (by rw [v3 _ _ (by omega)]; exact z3) (Or.inl ⟨by rw [v3 _ _ (by omega)]; omega, v1, Or.inl v2⟩) (fun x y a b c => by rw [v3 _ _ (by omega)]; exact f2 x y a b c)
                        · exfalso; omega
                  · exfalso; omega
                · skip
                  have f2 : (∀ x y, ¬ (37 ≤ x ∧ x ≤ 49) → ¬ (x = 140 ∧ 3 ≤ y ∧ y ≤ 9) → x ≠ 142 → s2 x y = σ x y) := fun x y a b c => by rw [fr _ _ (by omega) (by omega), y1.2.2.2 _ _ (by omega)]; exact h5 x y a b c
                  refine y_ifne rfl (fun q102 => ?_) (fun q102 => ?_)
                  · exfalso; omega
                  · skip
                    refine y_push rfl ?_
                    refine y_iret rfl rfl ⟨_, rfl, ?_⟩
                    have fi := itF_rF (T := T) (L := L) (it := n) (p := (ips T L n)) gd
                    have ir := itF_r (T := T) (L := L) (it := n) p0
                    exact Or.inr ⟨by omega, ⟨n, ⟨h2, Or.inr (by rw [fi]; exact rf)⟩, Or.inr ⟨nL, by rw [fi]; exact g3⟩⟩, f2⟩
            · skip
              refine y_iload rfl rfl ?_
              refine y_push rfl ?_
              refine y_iceq rfl (fun q72 => ?_) (fun q72 => ?_)
              · skip
                refine y_push rfl ?_
                refine y_goto rfl ?_
                refine y_istore (L' := [some (2, 140), some (2, 37), some (0, (n : Int)), some (0, (τ 140 5)), some (0, 1)]) rfl rfl rfl rfl ?_
                refine y_aload rfl rfl rfl ?_
                refine y_iload rfl rfl ?_
                have gd : ¬ itBad T L n (ips T L n) := by unfold itBad; omega
                have w0 : 0 ≤ lwd T L (ips T L n) ∧ lwd T L (ips T L n) ≤ 3 := by omega
                have wv_ : τ 140 5 = lwd T L (ips T L n) + 5 := by omega
                have xe : xtend T L (ips T L n) = itE T L (ips T L n) := by omega
                have nL : (ips T L n) ≠ L := fun z => by have := (xtok_0 (T := T) (L := L) (s := (ips T L n)) (by omega)).1; omega
                have er := itE_r (T := T) p0
                refine y_vi (as := [(2, 140), (0, 1)]) (S := []) rfl rfl rfl rfl rfl rfl (by decide) rfl (x_expect1 (T := T) (L := L) (p := itE T L (ips T L n)) ((h5 _ _ (by omega) (by omega) (by omega)).trans hL) (fun k a b => (h5 _ _ (by omega) (by omega) (by omega)).trans (hT k a b)) hTr hl (x7.trans xe) er) ?_
                rintro _ s1 ⟨rfl, y1⟩
                refine y_ifeq rfl (fun q94 => ?_) (fun q94 => ?_)
                · exfalso; omega
                · skip
                  refine y_aload rfl rfl rfl ?_
                  refine y_iload rfl rfl ?_
                  refine y_vi (as := [(2, 140), (0, (τ 140 5))]) (S := []) rfl rfl rfl rfl rfl rfl (by decide) rfl (x_readRest (T := T) (L := L) (p := (ips T L n)) (w := τ 140 5) ((y1.2.2.2 _ _ (by omega)).trans ((h5 _ _ (by omega) (by omega) (by omega)).trans hL)) (fun k a b => (y1.2.2.2 _ _ (by omega)).trans ((h5 _ _ (by omega) (by omega) (by omega)).trans (hT k a b))) hTr hl ⟨y1.1, y1.2.1, y1.2.2.1⟩ p0 wv_ w0) ?_
                  rintro b_ s2 (⟨rfl, rf, m0, mB, mS, xa, g3, nr, fr⟩ | ⟨rfl, rf, g3, fr⟩)
                  · skip
                    have e4 : s2 140 4 = τ 140 4 := by rw [fr _ _ (by omega) (by omega), y1.2.2.2 _ _ (by omega)]
                    have f2 : (∀ x y, ¬ (37 ≤ x ∧ x ≤ 49) → ¬ (x = 140 ∧ 3 ≤ y ∧ y ≤ 9) → x ≠ 142 → s2 x y = σ x y) := fun x y a b c => by rw [fr _ _ (by omega) (by omega), y1.2.2.2 _ _ (by omega)]; exact h5 x y a b c
                    have hF : itF T L n (ips T L n) = -1 := (itF_rF gd).trans rf
                    have n5 := itN_5 p0 hF
                    have nn5 := nmS_r (T := T) (L := L) n5.2
                    have is : ips T L (n + 1) = nmS T L (itN T L (ips T L n)) := rfl
                    refine y_ifne rfl (fun q102 => ?_) (fun q102 => ?_)
                    · skip
                      refine y_aload rfl rfl rfl ?_
                      refine y_gfi (v := (s2 140 4)) rfl rfl (by decide) rfl (by decide) rfl rfl ?_
                      refine y_push rfl ?_
                      refine y_icne rfl (fun q112 => ?_) (fun q112 => ?_)
                      · skip
                        refine y_iinc (L' := [some (2, 140), some (2, 37), some (0, ((n : Int) + 1)), some (0, (τ 140 5)), some (0, 1)]) rfl rfl rfl rfl rfl (by omega) ?_
                        refine y_goto rfl ?_
                        refine y_forget (M := [some (2, 140), some (2, 37), some (0, ((n : Int) + 1)), none, none]) ⟨Or.inr rfl, ⟨Or.inr rfl, ⟨Or.inr rfl, ⟨Or.inl rfl, ⟨Or.inl rfl, trivial⟩⟩⟩⟩⟩ ?_
                        have nG : ∀ j : Nat, j < n + 1 → (ips T L j) ≠ L ∧ itF T L j (ips T L j) = -1 := fun j hj => by
                          by_cases e : j = n
                          · subst e; exact ⟨nL, hF⟩
                          · exact h2 j (by omega)
                        have z3 : s2 140 3 = -1 := by rw [g3, y1.2.2.2 _ _ (by omega)]; exact h3
                        refine ih s2 (n + 1) (by omega) (by rw [is]; omega) xa nG (z3) ?_ (fun x y a b c => f2 x y a b c)
                        rcases h4 with ⟨z1, _⟩ | ⟨j, j1, j2, j3, j4⟩
                        · exfalso; omega
                        · exact Or.inr ⟨j, by omega, j2, j3, e4.trans j4⟩
                      · skip
                        refine y_aload rfl rfl rfl ?_
                        refine y_aload rfl rfl rfl ?_
                        refine y_iload rfl rfl ?_
                        have h4a := h4.resolve_right (fun ⟨j, _, _, _, z⟩ => by omega)
                        have og := oG_n (T := T) (L := L) hN ho n
                        have hrr : rep s2 37 (obs T L E D n).2.1 (obs T L E D n).2.2 ∨ (lwd T L (ips T L n) = 0 ∧ s2 37 7 = (obs T L E D n).2.2 6 0) := by
                          rcases h4a.2.2 with z | ⟨z, z2⟩
                          · exact Or.inl (rep_cong og.1.2.1.2 z (fun x y a b => by rw [fr _ _ (by omega) (by omega), y1.2.2.2 _ _ (by omega)]))
                          · exact Or.inr ⟨by unfold itBad at gd; omega, by rw [fr _ _ (by omega) (by omega), y1.2.2.2 _ _ (by omega)]; exact z2⟩
                        have os : (obs T L E D (n + 1)) = ob1 T L (ips T L n) (obs T L E D n) := if_neg h4a.2.1
                        refine y_vi (as := [(2, 140), (2, 37), (0, (τ 140 5))]) (S := []) rfl rfl rfl rfl rfl rfl (by decide) rfl (x_obey (T := T) (L := L) (p := (ips T L n)) (w := τ 140 5) (N := N) (r := (obs T L E D n)) ((f2 _ _ (by omega) (by omega) (by omega)).trans hL) (fun k a b => (f2 _ _ (by omega) (by omega) (by omega)).trans (hT k a b)) hTr hl wv_ w0 m0 mB mS og h4a.2.1 hrr) ?_
                        rintro b_ s3 (⟨v0, v1, v2⟩ | ⟨v0, v1, v2, v3⟩)
                        · skip
                          rw [← os] at v1
                          refine y_ifge rfl (fun q121 => ?_) (fun q121 => ?_)
                          · exfalso; omega
                          · skip
                            refine y_aload rfl rfl rfl ?_
                            refine y_iload rfl rfl ?_
                            refine y_pfi (j := 4) rfl rfl (by decide) rfl rfl rfl rfl rfl ?_
                            refine y_iinc (L' := [some (2, 140), some (2, 37), some (0, ((n : Int) + 1)), some (0, (τ 140 5)), some (0, 1)]) rfl rfl rfl rfl rfl (by omega) ?_
                            refine y_goto rfl ?_
                            refine y_forget (M := [some (2, 140), some (2, 37), some (0, ((n : Int) + 1)), none, none]) ⟨Or.inr rfl, ⟨Or.inr rfl, ⟨Or.inr rfl, ⟨Or.inl rfl, ⟨Or.inl rfl, trivial⟩⟩⟩⟩⟩ ?_
                            have nG : ∀ j : Nat, j < n + 1 → (ips T L j) ≠ L ∧ itF T L j (ips T L j) = -1 := fun j hj => by
                              by_cases e : j = n
                              · subst e; exact ⟨nL, hF⟩
                              · exact h2 j (by omega)
                            have z3 : s2 140 3 = -1 := by rw [g3, y1.2.2.2 _ _ (by omega)]; exact h3
                            refine ih (yset s3 140 4 (n : Int)) (n + 1) (by omega) (by rw [is]; omega) ⟨by rw [yne (by omega) rfl, v2 _ _ (by omega)]; exact xa.1, by rw [yne (by omega) rfl, v2 _ _ (by omega)]; exact xa.2.1, by rw [yne (by omega) rfl, v2 _ _ (by omega)]; exact xa.2.2⟩ nG (by rw [yne (by omega) rfl, v2 _ _ (by omega)]; exact z3) (Or.inr ⟨n, by omega, h4a.2.1, v1, yeq _ _ _ _⟩) (fun x y a b c => by rw [yne (by omega) rfl, v2 _ _ (by omega)]; exact f2 x y a b c)
                        · skip
                          rw [← os] at v1 v2
                          refine y_ifge rfl (fun q121 => ?_) (fun q121 => ?_)
                          · skip
                            refine y_iinc (L' := [some (2, 140), some (2, 37), some (0, ((n : Int) + 1)), some (0, (τ 140 5)), some (0, 1)]) rfl rfl rfl rfl rfl (by omega) ?_
                            refine y_goto rfl ?_
                            refine y_forget (M := [some (2, 140), some (2, 37), some (0, ((n : Int) + 1)), none, none]) ⟨Or.inr rfl, ⟨Or.inr rfl, ⟨Or.inr rfl, ⟨Or.inl rfl, ⟨Or.inl rfl, trivial⟩⟩⟩⟩⟩ ?_
                            have nG : ∀ j : Nat, j < n + 1 → (ips T L j) ≠ L ∧ itF T L j (ips T L j) = -1 := fun j hj => by
                              by_cases e : j = n
                              · subst e; exact ⟨nL, hF⟩
                              · exact h2 j (by omega)
                            have z3 : s2 140 3 = -1 := by rw [g3, y1.2.2.2 _ _ (by omega)]; exact h3
                            refine ih s3 (n + 1) (by omega) (by rw [is]; omega) ⟨by rw [v3 _ _ (by omega)]; exact xa.1, by rw [v3 _ _ (by omega)]; exact xa.2.1, by rw [v3 _ _ (by omega)]; exact xa.2.2⟩ nG (by rw [v3 _ _ (by omega)]; exact z3) (Or.inl ⟨by rw [v3 _ _ (by omega)]; omega, v1, Or.inl v2⟩) (fun x y a b c => by rw [v3 _ _ (by omega)]; exact f2 x y a b c)
                          · exfalso; omega
                    · exfalso; omega
                  · skip
                    have f2 : (∀ x y, ¬ (37 ≤ x ∧ x ≤ 49) → ¬ (x = 140 ∧ 3 ≤ y ∧ y ≤ 9) → x ≠ 142 → s2 x y = σ x y) := fun x y a b c => by rw [fr _ _ (by omega) (by omega), y1.2.2.2 _ _ (by omega)]; exact h5 x y a b c
                    refine y_ifne rfl (fun q102 => ?_) (fun q102 => ?_)
                    · exfalso; omega
                    · skip
                      refine y_push rfl ?_
                      refine y_iret rfl rfl ⟨_, rfl, ?_⟩
                      have fi := itF_rF (T := T) (L := L) (it := n) (p := (ips T L n)) gd
                      have ir := itF_r (T := T) (L := L) (it := n) p0
                      exact Or.inr ⟨by omega, ⟨n, ⟨h2, Or.inr (by rw [fi]; exact rf)⟩, Or.inr ⟨nL, by rw [fi]; exact g3⟩⟩, f2⟩
              · skip
                refine y_iload rfl rfl ?_
                refine y_push rfl ?_
                refine y_icne rfl (fun q78 => ?_) (fun q78 => ?_)
                · skip
                  refine y_push rfl ?_
                  refine y_istore (L' := [some (2, 140), some (2, 37), some (0, (n : Int)), some (0, (τ 140 5)), some (0, 0)]) rfl rfl rfl rfl ?_
                  refine y_aload rfl rfl rfl ?_
                  refine y_iload rfl rfl ?_
                  refine y_vi (as := [(2, 140), (0, 0)]) (S := []) rfl rfl rfl rfl rfl rfl (by decide) rfl x_expect0 ?_
                  rintro _ s_ ⟨rfl, rfl⟩
                  refine y_ifeq rfl (fun q94 => ?_) (fun q94 => ?_)
                  · skip
                    refine y_push rfl ?_
                    refine y_iret rfl rfl ⟨_, rfl, ?_⟩
                    have bad : itBad T L n (ips T L n) := by unfold itBad; omega
                    have fl : itF T L n (ips T L n) = (ips T L n) := if_pos bad
                    refine Or.inr ⟨by rw [yeq, x6]; omega, ⟨n, ⟨h2, Or.inr (by rw [fl]; omega)⟩, ?_⟩, fun x y a b c => by rw [yne (by omega) rfl]; exact h5 x y a b c⟩
                    rw [yeq, x6]
                    by_cases eL : (ips T L n) = L
                    · exfalso; have := (xtok_0 (T := T) (L := L) (s := (ips T L n)) (by omega)).1; omega
                    · exact Or.inr ⟨eL, fl.symm⟩
                  · exfalso; omega
                · skip
                  refine y_push rfl ?_
                  refine y_goto rfl ?_
                  refine y_istore (L' := [some (2, 140), some (2, 37), some (0, (n : Int)), some (0, (τ 140 5)), some (0, 1)]) rfl rfl rfl rfl ?_
                  refine y_aload rfl rfl rfl ?_
                  refine y_iload rfl rfl ?_
                  have gd : ¬ itBad T L n (ips T L n) := by unfold itBad; omega
                  have w0 : 0 ≤ lwd T L (ips T L n) ∧ lwd T L (ips T L n) ≤ 3 := by omega
                  have wv_ : τ 140 5 = lwd T L (ips T L n) + 5 := by omega
                  have xe : xtend T L (ips T L n) = itE T L (ips T L n) := by omega
                  have nL : (ips T L n) ≠ L := fun z => by have := (xtok_0 (T := T) (L := L) (s := (ips T L n)) (by omega)).1; omega
                  have er := itE_r (T := T) p0
                  refine y_vi (as := [(2, 140), (0, 1)]) (S := []) rfl rfl rfl rfl rfl rfl (by decide) rfl (x_expect1 (T := T) (L := L) (p := itE T L (ips T L n)) ((h5 _ _ (by omega) (by omega) (by omega)).trans hL) (fun k a b => (h5 _ _ (by omega) (by omega) (by omega)).trans (hT k a b)) hTr hl (x7.trans xe) er) ?_
                  rintro _ s1 ⟨rfl, y1⟩
                  refine y_ifeq rfl (fun q94 => ?_) (fun q94 => ?_)
                  · exfalso; omega
                  · skip
                    refine y_aload rfl rfl rfl ?_
                    refine y_iload rfl rfl ?_
                    refine y_vi (as := [(2, 140), (0, (τ 140 5))]) (S := []) rfl rfl rfl rfl rfl rfl (by decide) rfl (x_readRest (T := T) (L := L) (p := (ips T L n)) (w := τ 140 5) ((y1.2.2.2 _ _ (by omega)).trans ((h5 _ _ (by omega) (by omega) (by omega)).trans hL)) (fun k a b => (y1.2.2.2 _ _ (by omega)).trans ((h5 _ _ (by omega) (by omega) (by omega)).trans (hT k a b))) hTr hl ⟨y1.1, y1.2.1, y1.2.2.1⟩ p0 wv_ w0) ?_
                    rintro b_ s2 (⟨rfl, rf, m0, mB, mS, xa, g3, nr, fr⟩ | ⟨rfl, rf, g3, fr⟩)
                    · skip
                      have e4 : s2 140 4 = τ 140 4 := by rw [fr _ _ (by omega) (by omega), y1.2.2.2 _ _ (by omega)]
                      have f2 : (∀ x y, ¬ (37 ≤ x ∧ x ≤ 49) → ¬ (x = 140 ∧ 3 ≤ y ∧ y ≤ 9) → x ≠ 142 → s2 x y = σ x y) := fun x y a b c => by rw [fr _ _ (by omega) (by omega), y1.2.2.2 _ _ (by omega)]; exact h5 x y a b c
                      have hF : itF T L n (ips T L n) = -1 := (itF_rF gd).trans rf
                      have n5 := itN_5 p0 hF
                      have nn5 := nmS_r (T := T) (L := L) n5.2
                      have is : ips T L (n + 1) = nmS T L (itN T L (ips T L n)) := rfl
                      refine y_ifne rfl (fun q102 => ?_) (fun q102 => ?_)
                      · skip
                        refine y_aload rfl rfl rfl ?_
                        refine y_gfi (v := (s2 140 4)) rfl rfl (by decide) rfl (by decide) rfl rfl ?_
                        refine y_push rfl ?_
                        refine y_icne rfl (fun q112 => ?_) (fun q112 => ?_)
                        · skip
                          refine y_iinc (L' := [some (2, 140), some (2, 37), some (0, ((n : Int) + 1)), some (0, (τ 140 5)), some (0, 1)]) rfl rfl rfl rfl rfl (by omega) ?_
                          refine y_goto rfl ?_
                          refine y_forget (M := [some (2, 140), some (2, 37), some (0, ((n : Int) + 1)), none, none]) ⟨Or.inr rfl, ⟨Or.inr rfl, ⟨Or.inr rfl, ⟨Or.inl rfl, ⟨Or.inl rfl, trivial⟩⟩⟩⟩⟩ ?_
                          have nG : ∀ j : Nat, j < n + 1 → (ips T L j) ≠ L ∧ itF T L j (ips T L j) = -1 := fun j hj => by
                            by_cases e : j = n
                            · subst e; exact ⟨nL, hF⟩
                            · exact h2 j (by omega)
                          have z3 : s2 140 3 = -1 := by rw [g3, y1.2.2.2 _ _ (by omega)]; exact h3
                          refine ih s2 (n + 1) (by omega) (by rw [is]; omega) xa nG (z3) ?_ (fun x y a b c => f2 x y a b c)
                          rcases h4 with ⟨z1, _⟩ | ⟨j, j1, j2, j3, j4⟩
                          · exfalso; omega
                          · exact Or.inr ⟨j, by omega, j2, j3, e4.trans j4⟩
                        · skip
                          refine y_aload rfl rfl rfl ?_
                          refine y_aload rfl rfl rfl ?_
                          refine y_iload rfl rfl ?_
                          have h4a := h4.resolve_right (fun ⟨j, _, _, _, z⟩ => by omega)
                          have og := oG_n (T := T) (L := L) hN ho n
                          have hrr : rep s2 37 (obs T L E D n).2.1 (obs T L E D n).2.2 ∨ (lwd T L (ips T L n) = 0 ∧ s2 37 7 = (obs T L E D n).2.2 6 0) := by
                            rcases h4a.2.2 with z | ⟨z, z2⟩
                            · exact Or.inl (rep_cong og.1.2.1.2 z (fun x y a b => by rw [fr _ _ (by omega) (by omega), y1.2.2.2 _ _ (by omega)]))
                            · exact Or.inr ⟨by unfold itBad at gd; omega, by rw [fr _ _ (by omega) (by omega), y1.2.2.2 _ _ (by omega)]; exact z2⟩
                          have os : (obs T L E D (n + 1)) = ob1 T L (ips T L n) (obs T L E D n) := if_neg h4a.2.1
                          refine y_vi (as := [(2, 140), (2, 37), (0, (τ 140 5))]) (S := []) rfl rfl rfl rfl rfl rfl (by decide) rfl (x_obey (T := T) (L := L) (p := (ips T L n)) (w := τ 140 5) (N := N) (r := (obs T L E D n)) ((f2 _ _ (by omega) (by omega) (by omega)).trans hL) (fun k a b => (f2 _ _ (by omega) (by omega) (by omega)).trans (hT k a b)) hTr hl wv_ w0 m0 mB mS og h4a.2.1 hrr) ?_
                          rintro b_ s3 (⟨v0, v1, v2⟩ | ⟨v0, v1, v2, v3⟩)
                          · skip
                            rw [← os] at v1
                            refine y_ifge rfl (fun q121 => ?_) (fun q121 => ?_)
                            · exfalso; omega
                            · skip
                              refine y_aload rfl rfl rfl ?_
                              refine y_iload rfl rfl ?_
                              refine y_pfi (j := 4) rfl rfl (by decide) rfl rfl rfl rfl rfl ?_
                              refine y_iinc (L' := [some (2, 140), some (2, 37), some (0, ((n : Int) + 1)), some (0, (τ 140 5)), some (0, 1)]) rfl rfl rfl rfl rfl (by omega) ?_
                              refine y_goto rfl ?_
                              refine y_forget (M := [some (2, 140), some (2, 37), some (0, ((n : Int) + 1)), none, none]) ⟨Or.inr rfl, ⟨Or.inr rfl, ⟨Or.inr rfl, ⟨Or.inl rfl, ⟨Or.inl rfl, trivial⟩⟩⟩⟩⟩ ?_
                              have nG : ∀ j : Nat, j < n + 1 → (ips T L j) ≠ L ∧ itF T L j (ips T L j) = -1 := fun j hj => by
                                by_cases e : j = n
                                · subst e; exact ⟨nL, hF⟩
                                · exact h2 j (by omega)
                              have z3 : s2 140 3 = -1 := by rw [g3, y1.2.2.2 _ _ (by omega)]; exact h3
                              refine ih (yset s3 140 4 (n : Int)) (n + 1) (by omega) (by rw [is]; omega) ⟨by rw [yne (by omega) rfl, v2 _ _ (by omega)]; exact xa.1, by rw [yne (by omega) rfl, v2 _ _ (by omega)]; exact xa.2.1, by rw [yne (by omega) rfl, v2 _ _ (by omega)]; exact xa.2.2⟩ nG (by rw [yne (by omega) rfl, v2 _ _ (by omega)]; exact z3) (Or.inr ⟨n, by omega, h4a.2.1, v1, yeq _ _ _ _⟩) (fun x y a b c => by rw [yne (by omega) rfl, v2 _ _ (by omega)]; exact f2 x y a b c)
                          · skip
                            rw [← os] at v1 v2
                            refine y_ifge rfl (fun q121 => ?_) (fun q121 => ?_)
                            · skip
                              refine y_iinc (L' := [some (2, 140), some (2, 37), some (0, ((n : Int) + 1)), some (0, (τ 140 5)), some (0, 1)]) rfl rfl rfl rfl rfl (by omega) ?_
                              refine y_goto rfl ?_
                              refine y_forget (M := [some (2, 140), some (2, 37), some (0, ((n : Int) + 1)), none, none]) ⟨Or.inr rfl, ⟨Or.inr rfl, ⟨Or.inr rfl, ⟨Or.inl rfl, ⟨Or.inl rfl, trivial⟩⟩⟩⟩⟩ ?_
                              have nG : ∀ j : Nat, j < n + 1 → (ips T L j) ≠ L ∧ itF T L j (ips T L j) = -1 := fun j hj => by
                                by_cases e : j = n
                                · subst e; exact ⟨nL, hF⟩
                                · exact h2 j (by omega)
                              have z3 : s2 140 3 = -1 := by rw [g3, y1.2.2.2 _ _ (by omega)]; exact h3
                              refine ih s3 (n + 1) (by omega) (by rw [is]; omega) ⟨by rw [v3 _ _ (by omega)]; exact xa.1, by rw [v3 _ _ (by omega)]; exact xa.2.1, by rw [v3 _ _ (by omega)]; exact xa.2.2⟩ nG (by rw [v3 _ _ (by omega)]; exact z3) (Or.inl ⟨by rw [v3 _ _ (by omega)]; omega, v1, Or.inl v2⟩) (fun x y a b c => by rw [v3 _ _ (by omega)]; exact f2 x y a b c)
                            · exfalso; omega
                      · exfalso; omega
                    · skip
                      have f2 : (∀ x y, ¬ (37 ≤ x ∧ x ≤ 49) → ¬ (x = 140 ∧ 3 ≤ y ∧ y ≤ 9) → x ≠ 142 → s2 x y = σ x y) := fun x y a b c => by rw [fr _ _ (by omega) (by omega), y1.2.2.2 _ _ (by omega)]; exact h5 x y a b c
                      refine y_ifne rfl (fun q102 => ?_) (fun q102 => ?_)
                      · exfalso; omega
                      · skip
                        refine y_push rfl ?_
                        refine y_iret rfl rfl ⟨_, rfl, ?_⟩
                        have fi := itF_rF (T := T) (L := L) (it := n) (p := (ips T L n)) gd
                        have ir := itF_r (T := T) (L := L) (it := n) p0
                        exact Or.inr ⟨by omega, ⟨n, ⟨h2, Or.inr (by rw [fi]; exact rf)⟩, Or.inr ⟨nL, by rw [fi]; exact g3⟩⟩, f2⟩
          · exfalso; omega
        · skip
          refine y_iload rfl rfl ?_
          refine y_iret rfl rfl ⟨_, rfl, ?_⟩
          have eL : (ips T L n) = L := by have := xtok_00 (T := T) (L := L) (s := (ips T L n)) (by omega); omega
          refine Or.inl ⟨h3, n, ⟨h2, Or.inl eL⟩, eL, by omega, rfl, by omega, ?_, h5⟩
          rcases h4 with ⟨z1, z2, z3⟩ | z
          · exact Or.inl ⟨z1, z2, z3.resolve_right (fun z => by omega)⟩
          · exact Or.inr z
theorem x_tell {g : Launch × XG × va_G} {σ : YS} {T : Int → Int} {L N : Int} {E D : YS}  (hL : σ 140 2 = L) (hT : ∀ k, 0 ≤ k → k < L → σ 141 k = T k) (hTr : ∀ k, 0 ≤ k → k < L → 0 ≤ T k ∧ T k ≤ 255) (hl : 0 ≤ L ∧ L ≤ 200) (ho : oG (1, E, D) N) (hN : 0 ≤ N) (h7 : σ 37 7 = D 6 0) : YI g 43 [(2, 140), (2, 37)] σ (fun b σ' => (σ' 140 3 = -1 ∧ ∃ n : Nat, rdn T L n ∧ ips T L n = L ∧ 0 < n ∧ b = n ∧ (n : Int) ≤ 40 ∧ ((σ' 140 4 = -1 ∧ (obs T L E D n).1 ≠ 0 ∧ rep σ' 37 (obs T L E D n).2.1 (obs T L E D n).2.2) ∨ ∃ j : Nat, j < n ∧ (obs T L E D j).1 ≠ 0 ∧ (obs T L E D (j + 1)).1 = 0 ∧ σ' 140 4 = j) ∧ (∀ x y, ¬ (37 ≤ x ∧ x ≤ 49) → ¬ (x = 140 ∧ 3 ≤ y ∧ y ≤ 9) → x ≠ 142 → σ' x y = σ x y)) ∨ ((0 ≤ σ' 140 3 ∧ σ' 140 3 ≤ 200) ∧ (∃ n : Nat, rdn T L n ∧ ((ips T L n = L ∧ n = 0 ∧ σ' 140 3 = L) ∨ (ips T L n ≠ L ∧ σ' 140 3 = itF T L n (ips T L n)))) ∧ (∀ x y, ¬ (37 ≤ x ∧ x ≤ 49) → ¬ (x = 140 ∧ 3 ≤ y ∧ y ≤ 9) → x ≠ 142 → σ' x y = σ x y))) := by
  refine y_start rfl rfl rfl ?_
  refine y_aload rfl rfl rfl ?_
  refine y_push rfl ?_
  refine y_pfi (j := 3) rfl rfl (by decide) rfl rfl rfl rfl rfl ?_
  refine y_aload rfl rfl rfl ?_
  refine y_push rfl ?_
  refine y_pfi (j := 4) rfl rfl (by decide) rfl rfl rfl rfl rfl ?_
  refine y_aload rfl rfl rfl ?_
  refine y_push rfl ?_
  refine y_pfi (j := 7) rfl rfl (by decide) rfl rfl rfl rfl rfl ?_
  refine y_aload rfl rfl rfl ?_
  refine y_vu (as := [(2, 140)]) (S := []) rfl rfl rfl rfl rfl rfl (by decide) rfl (x_advanceToken (T := T) (L := L) (p := 0) ((yne (by omega) (yne (by omega) (yne (by omega) rfl))).trans hL) (fun k a b => (yne (by omega) (yne (by omega) (yne (by omega) rfl))).trans (hT k a b)) hTr hl (yeq _ _ _ _) ⟨by omega, hl.1⟩) ?_
  rintro s0 y0
  refine y_push rfl ?_
  refine y_istore (L' := [some (2, 140), some (2, 37), some (0, 0), none, none]) rfl rfl rfl rfl ?_
  have e0 := nmS_r (T := T) (L := L) (p := 0) hl.1
  refine lx_tell hL hT hTr hl ho hN h7 43 s0 0 (by omega) ⟨?_, e0.2⟩ ⟨y0.1, y0.2.1, y0.2.2.1⟩ (fun j hj => absurd hj (by omega)) (by rw [y0.2.2.2 _ _ (by omega), yne (by omega) rfl, yne (by omega) rfl, yeq]) (Or.inl ⟨by rw [y0.2.2.2 _ _ (by omega), yne (by omega) rfl, yeq], by show (1 : Int) ≠ 0; decide, Or.inr ⟨rfl, by rw [y0.2.2.2 _ _ (by omega), yne (by omega) rfl, yne (by omega) rfl, yne (by omega) rfl]; exact h7⟩⟩) (fun x y a b c => by rw [y0.2.2.2 _ _ (by omega), yne (by omega) rfl, yne (by omega) rfl, yne (by omega) rfl])
  show 5 * ((0 : Nat) : Int) ≤ nmS T L 0
  omega
theorem xW_txt {σ σ' : YS} {Z Z' : YZ} {I : Int → YZ} {M : YS} {N : Int} (hg : wG Z I M N) (h : xW σ Z I M) (hz : zst σ' 1 15 Z') (e : ∀ x y, (66 ≤ x ∧ x ≤ 139) ∨ x = 141 ∨ x = 0 ∨ (x = 140 ∧ y = 2) → σ' x y = σ x y) : xW σ' Z' I M := by
  obtain ⟨h1, h2, h3, ⟨h4, h5⟩, h6⟩ := h
  refine ⟨hz, fun j a b c => by rw [e (66 + 14 * j) 7 (by omega)]; exact zst_cong ((hg.2.1 j a b).2 c).1.2.1 (h2 j a b c) (fun x y z => e x y (by omega)), fun j a b => by rw [e _ _ (by omega)]; exact h3 j a b, ⟨by rw [e _ _ (by omega)]; exact h4, fun k a b => by rw [e _ _ (by omega)]; exact h5 k a b⟩, fun j a b => by rw [e _ _ (by omega)]; exact h6 j a b⟩
theorem c_read {g : Launch × XG × va_G} {σ : YS} {Z : YZ} {I : Int → YZ} {M : YS} {N : Int}  (hx : xW σ Z I M) (hg : wG Z I M N) (hN : N < 100000) : YI g 42 [(2, 0)] σ (fun b σ' => ∃ Z', kread Z M b Z' ∧ xW σ' Z' I M ∧ mfr σ σ') := by
  refine y_start rfl rfl rfl ?_
  refine y_aload rfl rfl rfl ?_
  refine y_gfr (t := 140) rfl rfl (by decide) rfl (by decide) ?_
  refine y_aload rfl rfl rfl ?_
  refine y_gfr (t := 37) rfl rfl (by decide) rfl (by decide) ?_
  have ⟨a0, g2, g3, g4⟩ := hg
  have ho : oG (1, Z 0, yset (Z 1) 6 0 (σ 37 7)) N := ⟨a0.1, dG_w6 a0.2.1, by have := a0.2.2.1; show 0 ≤ yset (Z 1) 6 0 (σ 37 7) 5 0 ∧ yset (Z 1) 6 0 (σ 37 7) 5 0 ≤ N; rw [yne (by omega) rfl]; exact this, a0.2.2.2.2.1.1, a0.2.2.2.2.1.2⟩
  have Npos : 0 ≤ N := by have := a0.2.2.1; omega
  refine y_vi (as := [(2, 140), (2, 37)]) (S := []) rfl rfl rfl rfl rfl rfl (by decide) rfl (x_tell (T := M 1) (L := M 2 0) (E := Z 0) (D := yset (Z 1) 6 0 (σ 37 7)) (N := N) hx.2.2.2.1.1 (fun k x y => hx.2.2.2.1.2 k x y) (fun k x y => g3.2.2 k x y) ⟨g3.1, g3.2.1⟩ ho Npos (yeq _ _ _ _).symm) ?_
  rintro b_ s1 (⟨t3, n, t1, t2, t0, tb, t40, tr, tf⟩ | ⟨t3, ⟨n, t1, tt⟩, tf⟩)
  · skip
    refine y_istore (L' := [some (2, 0), some (0, b_)]) rfl rfl rfl rfl ?_
    refine y_aload rfl rfl rfl ?_
    refine y_gfr (t := 140) rfl rfl (by decide) rfl (by decide) ?_
    refine y_gfi (v := (s1 140 3)) rfl rfl (by decide) rfl (by decide) rfl rfl ?_
    refine y_push rfl ?_
    refine y_iceq rfl (fun q20 => ?_) (fun q20 => ?_)
    · skip
      refine y_aload rfl rfl rfl ?_
      refine y_gfr (t := 140) rfl rfl (by decide) rfl (by decide) ?_
      refine y_gfi (v := (s1 140 4)) rfl rfl (by decide) rfl (by decide) rfl rfl ?_
      refine y_push rfl ?_
      refine y_iceq rfl (fun q42 => ?_) (fun q42 => ?_)
      · skip
        refine y_aload rfl rfl rfl ?_
        refine y_gfr (t := 1) rfl rfl (by decide) rfl (by decide) ?_
        refine y_aload rfl rfl rfl ?_
        refine y_gfr (t := 37) rfl rfl (by decide) rfl (by decide) ?_
        have ⟨_, tok, trep⟩ := tr.resolve_right (fun ⟨j, _, _, _, z⟩ => by omega)
        have og := oG_n (T := M 1) (L := M 2 0) Npos ho n
        refine y_vu (as := [(2, 1), (2, 37)]) (S := []) rfl rfl rfl rfl rfl rfl (yS_0 yS_1).1 (yS_c yS_1) (c_scopy yS_1 yS_37 (by decide) trep og.1) ?_
        rintro s2 ⟨y1, y2⟩
        refine y_aload rfl rfl rfl ?_
        refine y_gfr (t := 15) rfl rfl (by decide) rfl (by decide) ?_
        refine y_push rfl ?_
        refine y_pfi (j := 1) rfl (yP_c yP_15) (by have := yP_0 yP_15; omega) rfl rfl rfl rfl rfl ?_
        refine y_iload rfl rfl ?_
        refine y_iret rfl rfl ⟨_, rfl, ?_⟩
        rw [obs_wv] at tok
        rw [obs_wv] at y1
        have e7 : s1 1 7 = Z 1 6 0 := (tf _ _ (by omega) (by omega) (by omega)).trans hx.1.1.1.2.2.2
        have z : rep s2 1 (obs (M 1) (M 2 0) (Z 0) (Z 1) n).2.1 (yset (yset (obs (M 1) (M 2 0) (Z 0) (Z 1) n).2.2 6 0 (σ 37 7)) 6 0 (s1 1 7)) := y1
        rw [yset_2, e7] at z
        rw [obs_wv] at og
        have o5 : 0 ≤ (obs (M 1) (M 2 0) (Z 0) (Z 1) n).2.2 5 0 := by have q := og.2.2.1.1; have q2 : (0 : Int) ≤ yset (obs (M 1) (M 2 0) (Z 0) (Z 1) n).2.2 6 0 (σ 37 7) 5 0 := q; rw [yne (by omega) rfl] at q2; exact q2
        have y2a : ∀ x y, ¬ (1 ≤ x ∧ x ≤ 13) → s2 x y = s1 x y := fun x y a => y2 x y (by omega)
        refine ⟨_, ⟨n, t1, Or.inr (Or.inr (Or.inr ⟨t2, t0, tok, tb, rfl⟩))⟩, xW_txt hg hx ⟨rep_cong (by rw [ztell_0]; exact og.1.2.1.2) z (fun x y a b => yne (by omega) rfl), ?_, ?_, fun k a b => ?_⟩ (fun x y a => by rw [yne (by omega) rfl, y2a _ _ (by omega)]; exact tf x y (by omega) (by omega) (by omega)), fun x y a => by rw [yne (by omega) rfl, y2a _ _ (by omega)]; exact tf x y (by omega) (by omega) (by omega)⟩
        · rw [yeq, ztell_2]
        · rw [ztell_2, ztell_1, yne (by omega) rfl]; omega
        · rw [ztell_2] at b; omega
      · skip
        obtain ⟨j, j1, j2, j3, j4⟩ := tr.resolve_left (fun z => q42 z.1)
        refine y_push rfl ?_
        refine y_aload rfl rfl rfl ?_
        refine y_gfr (t := 140) rfl rfl (by decide) rfl (by decide) ?_
        refine y_gfi (v := (s1 140 4)) rfl rfl (by decide) rfl (by decide) rfl rfl ?_
        refine y_isub (v := ((-1000) - (s1 140 4))) rfl rfl (by omega) ?_
        refine y_iret rfl rfl ⟨_, rfl, ?_⟩
        rw [obs_wv] at j2 j3
        exact ⟨Z, ⟨n, t1, Or.inr (Or.inr (Or.inl ⟨t2, t0, ⟨j, j1, j2, j3, by rw [j4]⟩, rfl⟩))⟩, xW_txt hg hx (zst_cong a0.1.2.1 hx.1 (fun x y a => tf x y (by omega) (by omega) (by omega))) (fun x y a => tf x y (by omega) (by omega) (by omega)), fun x y a => tf x y (by omega) (by omega) (by omega)⟩
    · exfalso; omega
  · skip
    refine y_istore (L' := [some (2, 0), some (0, (b_))]) rfl rfl rfl rfl ?_
    refine y_aload rfl rfl rfl ?_
    refine y_gfr (t := 140) rfl rfl (by decide) rfl (by decide) ?_
    refine y_gfi (v := (s1 140 3)) rfl rfl (by decide) rfl (by decide) rfl rfl ?_
    refine y_push rfl ?_
    refine y_iceq rfl (fun q20 => ?_) (fun q20 => ?_)
    · exfalso; omega
    · skip
      refine y_push rfl ?_
      refine y_aload rfl rfl rfl ?_
      refine y_gfr (t := 140) rfl rfl (by decide) rfl (by decide) ?_
      refine y_gfi (v := (s1 140 3)) rfl rfl (by decide) rfl (by decide) rfl rfl ?_
      refine y_isub (v := ((-10) - (s1 140 3))) rfl rfl (by omega) ?_
      refine y_iret rfl rfl ⟨_, rfl, ?_⟩
      rcases tt with ⟨a, b, c⟩ | ⟨a, c⟩
      · exact ⟨Z, ⟨n, t1, Or.inl ⟨a, b, by rw [c], rfl⟩⟩, xW_txt hg hx (zst_cong a0.1.2.1 hx.1 (fun x y a => tf x y (by omega) (by omega) (by omega))) (fun x y a => tf x y (by omega) (by omega) (by omega)), fun x y a => tf x y (by omega) (by omega) (by omega)⟩
      · exact ⟨Z, ⟨n, t1, Or.inr (Or.inl ⟨a, by rw [c], rfl⟩)⟩, xW_txt hg hx (zst_cong a0.1.2.1 hx.1 (fun x y a => tf x y (by omega) (by omega) (by omega))) (fun x y a => tf x y (by omega) (by omega) (by omega)), fun x y a => tf x y (by omega) (by omega) (by omega)⟩
