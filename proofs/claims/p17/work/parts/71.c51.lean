/-! again, on both sides. -/
theorem xl_again {g : Launch × XG × va_G} {σ : YS} {Z : YZ} {I : Int → YZ} {M : YS} {N : Int} {q w : Int} {hb : Int → Int}  (hx : xW σ Z I M) (hg : wG Z I M N) (hN : N < 100000) (hq : 0 ≤ q ∧ q ≤ 2) : ∀ (nn : Nat) (τ : YS) (t : Int), 402 - t < (nn : Int) → (1 ≤ t ∧ t ≤ 401) → (rep τ 37 (Z 0) (msteps (Z 0) (yset (Z 1) 6 0 w) (t - 1).toNat)) → (sfr σ τ) → (∀ i, 0 ≤ i → i < Z 0 1 0 → mdead (Z 0) i → τ (37 + 3 + 3 * i) 8 = hb i) → (∀ u, 0 ≤ u → u < t → rowx τ (144 + u) (Z 0) (msteps (Z 0) (yset (Z 1) 6 0 w) u.toNat) hb) → (∀ u, 0 ≤ u → u < t - 1 → τ 545 u = (msteps (Z 0) (yset (Z 1) 6 0 w) (u + 1).toNat) 6 0) → (∀ t', 1 ≤ t' → t' < t → ∀ s', 0 ≤ s' → s' < t' → ¬ alk (Z 0) (yset (Z 1) 6 0 w) s' t') → YW g 71 42 [some (2, 0), some (0, q), some (0, t), none] [] τ (fun rv σ' => ∃ b, rv = some (0, b) ∧ ((if 0 ≤ q ∧ q ≤ 2 then kag (Z 0) (Z 1) q b ∧ xW σ' Z I M else b = -10 ∧ xW σ' Z I (bump M 0)) ∧ mfr σ σ')) := by
  intro nn
  induction nn with
  | zero =>
    intro τ t hn h0 h1 h2 h3 h4 h5 h6
    exfalso
    omega
  | succ nn ih =>
    intro τ t hn h0 h1 h2 h3 h4 h5 h6
    refine y_iload rfl rfl ?_
    refine y_push rfl ?_
    refine y_icgt rfl (fun q46 => ?_) (fun q46 => ?_)
    · skip
      refine y_push rfl ?_
      refine y_iret rfl rfl ⟨_, rfl, ?_⟩
      refine ⟨?_, sfr_m h2⟩
      rw [if_pos hq]
      refine ⟨kag_w (v := w) (Or.inr ⟨fun t' a b => h6 t' a (by omega), rfl⟩), xW_sfr hg hx h2⟩
    · skip
      refine y_aload rfl rfl rfl ?_
      refine y_gfr (t := 37) rfl rfl (by decide) rfl (by decide) ?_
      refine y_vi (as := [(2, 37)]) (S := []) rfl rfl rfl rfl rfl rfl (yS_0 yS_37).1 (yS_c yS_37) (d_advance yS_37 h1 hg.1.1 (dG_steps (dG_w6 hg.1.2.1) hg.1.1 _) (by rw [msteps_5, yne (by omega) rfl]; have := hg.1.2.2.1; omega)) ?_
      rintro _ σ1 ⟨y1, rfl, y2, y3⟩
      refine y_pop rfl rfl ?_
      refine y_aload rfl rfl rfl ?_
      refine y_gfr (t := 37) rfl rfl (by decide) rfl (by decide) ?_
      refine y_aload rfl rfl rfl ?_
      refine y_gfr (t := 143) rfl rfl (by decide) rfl (by decide) ?_
      refine y_iload rfl rfl ?_
      refine y_aald (ty := 0) (v := (144 + t)) (n := 401) rfl rfl (by decide) rfl (by omega) (yone _ _) ?_
      refine y_vu (as := [(2, 37), (2, (144 + t))]) (S := []) rfl rfl rfl rfl rfl rfl (yS_0 yS_37).1 (yS_c yS_37) (d_save yS_37 (yB_r (j := t) (by omega)) (by omega) y1 hg.1.1) ?_
      rintro σ2 ⟨⟨z1, z3⟩, z2⟩
      refine y_aload rfl rfl rfl ?_
      refine y_gfr (t := 545) rfl rfl (by decide) rfl (by decide) ?_
      refine y_iload rfl rfl ?_
      refine y_push rfl ?_
      refine y_isub (v := (t - 1)) rfl rfl (by omega) ?_
      refine y_aload rfl rfl rfl ?_
      refine y_gfr (t := 37) rfl rfl (by decide) rfl (by decide) ?_
      refine y_gfi (v := (σ2 37 7)) rfl (yS_c yS_37) (yS_0 yS_37).1 rfl (by decide) rfl rfl ?_
      refine y_iast (n := 400) rfl rfl (by decide) rfl (by omega) ?_
      refine y_aload rfl rfl rfl ?_
      refine y_iload rfl rfl ?_
      refine y_vi (as := [(2, 0), (0, t)]) (S := []) rfl rfl rfl rfl rfl rfl (by decide) rfl (c_earlier (by omega)) ?_
      rintro s _ ⟨rfl, hs⟩
      refine y_istore (L' := [some (2, 0), some (0, q), some (0, t), some (0, s)]) rfl rfl rfl rfl ?_
      have em := hg.1.1.2.1
      have dgu : ∀ u : Int, dG (Z 0) (msteps (Z 0) (yset (Z 1) 6 0 w) u.toNat) := fun u => dG_steps (dG_w6 hg.1.2.1) hg.1.1 _
      have mt : (msteps (Z 0) (yset (Z 1) 6 0 w) t.toNat) = mstep (Z 0) (msteps (Z 0) (yset (Z 1) 6 0 w) (t - 1).toNat) := by rw [show t.toNat = (t - 1).toNat + 1 by omega]; rfl
      have b2 : ∀ i, 0 ≤ i → i < Z 0 1 0 → mdead (Z 0) i → (yset σ2 545 (t - 1) (σ2 37 7)) (37 + 3 + 3 * i) 8 = hb i := fun i a b c => by
        rw [yne (by omega) rfl, z2 _ _ (by omega), y3 i a b c]; exact h3 i a b c
      have rx : ∀ u, 0 ≤ u → u < t + 1 → rowx (yset σ2 545 (t - 1) (σ2 37 7)) (144 + u) (Z 0) (msteps (Z 0) (yset (Z 1) 6 0 w) u.toNat) hb := fun u a b => by
        by_cases e : u = t
        · subst e
          rw [mt]
          refine ⟨rowc_cong em z1 (fun k _ _ => yne (by omega) rfl), fun i a b c => ?_⟩
          rw [yne (by omega) rfl, z3 i a b, y3 i a b c]; exact h3 i a b c
        · refine rowx_cong em (h4 u a (by omega)) (fun y => ?_)
          rw [yne (by omega) rfl, z2 _ _ (by omega), y2 _ _ (by omega)]
      have wx : ∀ u, 0 ≤ u → u < t → (yset σ2 545 (t - 1) (σ2 37 7)) 545 u = (msteps (Z 0) (yset (Z 1) 6 0 w) (u + 1).toNat) 6 0 := fun u a b => by
        by_cases e : u = t - 1
        · subst e
          rw [yeq, show t - 1 + 1 = t by omega, mt, z2 _ _ (by omega)]
          exact y1.1.2.2.2
        · rw [yne (by omega) rfl, z2 _ _ (by omega), y2 _ _ (by omega)]; exact h5 u a (by omega)
      have re : ∀ u, 0 ≤ u → u < t → ((∀ k, 0 ≤ k → k < 21 → (yset σ2 545 (t - 1) (σ2 37 7)) (144 + u) k = (yset σ2 545 (t - 1) (σ2 37 7)) (144 + t) k) ↔ deqF (Z 0) (msteps (Z 0) (yset (Z 1) 6 0 w) u.toNat) (msteps (Z 0) (yset (Z 1) 6 0 w) t.toNat)) := fun u a b => row_eq em.2 (dgu u) (dgu t) (rx u a (by omega)) (rx t (by omega) (by omega))
      refine y_iload rfl rfl ?_
      refine y_push rfl ?_
      refine y_iceq rfl (fun q93 => ?_) (fun q93 => ?_)
      · skip
        refine y_iinc (L' := [some (2, 0), some (0, q), some (0, (t + 1)), some (0, s)]) rfl rfl rfl rfl rfl (by omega) ?_
        refine y_goto rfl ?_
        refine y_forget (M := [some (2, 0), some (0, q), some (0, (t + 1)), none]) ⟨Or.inr rfl, ⟨Or.inr rfl, ⟨Or.inr rfl, ⟨Or.inl rfl, trivial⟩⟩⟩⟩ ?_
        rcases hs with ⟨_, nn_⟩ | ⟨p1, p2, p3, p4⟩
        · have r2 : rep σ2 37 (Z 0) (msteps (Z 0) (yset (Z 1) 6 0 w) (t + 1 - 1).toNat) := by rw [show (t + 1 - 1).toNat = (t - 1).toNat + 1 by omega]; exact rep_cong em.2 y1 (fun x y a b => z2 x y (by omega))
          refine ih (yset σ2 545 (t - 1) (σ2 37 7)) (t + 1) (by omega) (by omega) (rep_cong em.2 r2 (fun x y a b => yne (by omega) rfl)) (sfr_s (sfr_y (sfr_y h2 y2 (by omega)) z2 (by omega)) (by omega)) b2 rx (fun u a b => wx u a (by omega)) (fun t' a b s' c d z => ?_)
          by_cases e : t' = t
          · subst e; exact nn_ s' c d z.1 ((re s' c d).mpr z.2)
          · exact h6 t' a (by omega) s' c d z
        · exfalso; omega
      · skip
        refine y_iload rfl rfl ?_
        refine y_ifne rfl (fun q97 => ?_) (fun q97 => ?_)
        · skip
          refine y_iload rfl rfl ?_
          refine y_push rfl ?_
          refine y_icne rfl (fun q106 => ?_) (fun q106 => ?_)
          · skip
            refine y_aload rfl rfl rfl ?_
            refine y_iload rfl rfl ?_
            refine y_iload rfl rfl ?_
            refine y_vi (as := [(2, 0), (0, s), (0, t)]) (S := []) rfl rfl rfl rfl rfl rfl (by decide) rfl (c_waiting (by omega) (by omega)) ?_
            rintro _ _ ⟨rfl, rfl⟩
            refine y_iret rfl rfl ⟨_, rfl, ?_⟩
            rcases hs with ⟨z, _⟩ | ⟨p1, p2, p3, p4⟩
            · exfalso; omega
            refine ⟨?_, sfr_m (sfr_s (sfr_y (sfr_y h2 y2 (by omega)) z2 (by omega)) (by omega))⟩
            rw [if_pos hq]
            refine ⟨kag_w (v := w) (Or.inl ⟨t, s, by omega, p1, ⟨p2, (re s p1.1 p1.2).mp p3⟩, h6, fun s' a b z => p4 s' a b z.1 ((re s' a (by omega)).mpr z.2), by rw [if_neg (by omega), if_neg (by omega)]; exact wand_cong _ (fun k hk => wx (s + k) (by omega) (by omega))⟩), xW_sfr hg hx (sfr_s (sfr_y (sfr_y h2 y2 (by omega)) z2 (by omega)) (by omega))⟩
          · skip
            refine y_iload rfl rfl ?_
            refine y_goto rfl ?_
            refine y_iret rfl rfl ⟨_, rfl, ?_⟩
            rcases hs with ⟨z, _⟩ | ⟨p1, p2, p3, p4⟩
            · exfalso; omega
            refine ⟨?_, sfr_m (sfr_s (sfr_y (sfr_y h2 y2 (by omega)) z2 (by omega)) (by omega))⟩
            rw [if_pos hq]
            refine ⟨kag_w (v := w) (Or.inl ⟨t, s, by omega, p1, ⟨p2, (re s p1.1 p1.2).mp p3⟩, h6, fun s' a b z => p4 s' a b z.1 ((re s' a (by omega)).mpr z.2), by rw [if_neg (by omega), if_pos (by omega)]⟩), xW_sfr hg hx (sfr_s (sfr_y (sfr_y h2 y2 (by omega)) z2 (by omega)) (by omega))⟩
        · skip
          refine y_iload rfl rfl ?_
          refine y_goto rfl ?_
          refine y_iret rfl rfl ⟨_, rfl, ?_⟩
          rcases hs with ⟨z, _⟩ | ⟨p1, p2, p3, p4⟩
          · exfalso; omega
          refine ⟨?_, sfr_m (sfr_s (sfr_y (sfr_y h2 y2 (by omega)) z2 (by omega)) (by omega))⟩
          rw [if_pos hq]
          refine ⟨kag_w (v := w) (Or.inl ⟨t, s, by omega, p1, ⟨p2, (re s p1.1 p1.2).mp p3⟩, h6, fun s' a b z => p4 s' a b z.1 ((re s' a (by omega)).mpr z.2), by rw [if_pos (by omega)]⟩), xW_sfr hg hx (sfr_s (sfr_y (sfr_y h2 y2 (by omega)) z2 (by omega)) (by omega))⟩
theorem x_again {g : Launch × XG × va_G} {σ : YS} {Z : YZ} {I : Int → YZ} {M : YS} {N : Int} {q : Int} (hx : xW σ Z I M) (hg : wG Z I M N) (hN : N < 100000) : YI g 71 [(2, 0), (0, q)] σ (fun b σ' => (if 0 ≤ q ∧ q ≤ 2 then kag (Z 0) (Z 1) q b ∧ xW σ' Z I M else b = -10 ∧ xW σ' Z I (bump M 0)) ∧ mfr σ σ') := by
  refine y_start rfl rfl rfl ?_
  have ⟨⟨hr, hu⟩, x2, x3, ⟨x4, x5⟩, x6⟩ := hx
  have ⟨⟨he, hd, hn, hu2, h67, hk⟩, g2, g3, g4⟩ := hg
  have ⟨e1, e2, e3⟩ := he
  have x60 : σ 0 11 = M 3 0 := x6 0 (by omega) (by omega)
  have g40 := g4 0 (by omega) (by omega)
  refine y_iload rfl rfl ?_
  refine y_iflt rfl (fun q1 => ?_) (fun q1 => ?_)
  · skip
    refine y_aload rfl rfl rfl ?_
    refine y_push rfl ?_
    refine y_vi (as := [(2, 0), (0, (-10))]) (S := []) rfl rfl rfl rfl rfl rfl (by decide) rfl (c_bad (by omega)) ?_
    rintro _ _ ⟨rfl, rfl⟩
    refine y_iret rfl rfl ⟨_, rfl, ?_⟩
    exact ⟨by rw [if_neg (by omega)]; exact ⟨rfl, xW_bump hg hx (by omega) rfl rfl⟩, mfr_s (mfr_0 _) (by omega)⟩
  · skip
    refine y_iload rfl rfl ?_
    refine y_push rfl ?_
    refine y_icle rfl (fun q6 => ?_) (fun q6 => ?_)
    · skip
      refine y_aload rfl rfl rfl ?_
      refine y_gfr (t := 37) rfl rfl (by decide) rfl (by decide) ?_
      refine y_aload rfl rfl rfl ?_
      refine y_gfr (t := 1) rfl rfl (by decide) rfl (by decide) ?_
      refine y_vu (as := [(2, 37), (2, 1)]) (S := []) rfl rfl rfl rfl rfl rfl (yS_0 yS_37).1 (yS_c yS_37) (c_scopy yS_37 yS_1 (by decide) hr he) ?_
      rintro σ1 ⟨z1, z2⟩
      refine y_aload rfl rfl rfl ?_
      refine y_gfr (t := 37) rfl rfl (by decide) rfl (by decide) ?_
      refine y_aload rfl rfl rfl ?_
      refine y_gfr (t := 143) rfl rfl (by decide) rfl (by decide) ?_
      refine y_push rfl ?_
      refine y_aald (ty := 0) (v := (144 + 0)) (n := 401) rfl rfl (by decide) rfl (by decide) (yone _ _) ?_
      refine y_vu (as := [(2, 37), (2, (144 + 0))]) (S := []) rfl rfl rfl rfl rfl rfl (yS_0 yS_37).1 (yS_c yS_37) (d_save yS_37 (yB_r (j := 0) (by decide)) (by omega) z1 he) ?_
      rintro σ2 ⟨⟨w1, w3⟩, w2⟩
      refine y_push rfl ?_
      refine y_istore (L' := [some (2, 0), some (0, q), some (0, 1), none]) rfl rfl rfl rfl ?_
      refine xl_again (w := σ 37 7) (hb := fun i => σ1 (37 + 3 + 3 * i) 8) hx hg hN (by omega) 402 σ2 1 (by omega) (by omega) (rep_cong e2.2 z1 (fun x y a b => w2 x y (by omega))) (sfr_y (sfr_y (sfr_0 _) z2 (by omega)) w2 (by omega)) (fun i a b c => w2 _ _ (by omega)) (fun u a b => ?_) (fun u a b => by omega) (fun t' a b => by omega)
      have u0 : u = 0 := by omega
      subst u0
      exact ⟨w1, fun i a b c => w3 i a b⟩
    · skip
      refine y_aload rfl rfl rfl ?_
      refine y_push rfl ?_
      refine y_vi (as := [(2, 0), (0, (-10))]) (S := []) rfl rfl rfl rfl rfl rfl (by decide) rfl (c_bad (by omega)) ?_
      rintro _ _ ⟨rfl, rfl⟩
      refine y_iret rfl rfl ⟨_, rfl, ?_⟩
      exact ⟨by rw [if_neg (by omega)]; exact ⟨rfl, xW_bump hg hx (by omega) rfl rfl⟩, mfr_s (mfr_0 _) (by omega)⟩
theorem n_fetch {g : Launch × XG × va_G} {σ : YS} {E D : YS} {i t : Int} (hr : rm σ E D) (he : eG E) (hd : dG E D) (hn : 0 ≤ D 5 0 ∧ D 5 0 < 1000000) (hi : 0 ≤ i ∧ i < E 1 0) (ht : 0 ≤ t) : YU g 129 [(2, 547), (0, i), (0, t)] σ (fun σ' => rm σ' E (mfetch D i t.toNat) ∧ rfq E σ σ') := by
  refine y_start rfl rfl rfl ?_
  have ⟨⟨f1, f2, f3⟩, f4, f5, f6⟩ := hr
  have ⟨e1, e2, e3⟩ := he
  have ⟨⟨b1, b2, b3, b4⟩, ⟨b5, b6⟩, b7, b8⟩ := f5 i (by omega) (by omega)
  have ⟨⟨d1, d2⟩, ⟨d3, d4⟩, ⟨d5, d6⟩, d7⟩ := hd.2 i (by omega) (by omega)
  have ⟨⟨t1, t2⟩, ⟨t3, t4⟩, t5⟩ := e3 i (by omega) (by omega)
  have w1 : σ 554 (σ 555 i) = D 0 (D 1 i) := by rw [b1]; exact f4 _ (by omega) (by omega)
  have w2 := hd.1 (D 1 i) (by omega) (by omega)
  refine y_iload rfl rfl ?_
  refine y_aload rfl rfl rfl ?_
  refine y_gfr (t := 554) rfl rfl (by decide) rfl (by decide) ?_
  refine y_aload rfl rfl rfl ?_
  refine y_gfr (t := 555) rfl rfl (by decide) rfl (by decide) ?_
  refine y_iload rfl rfl ?_
  refine y_iald (v := (σ 555 i)) (n := 3) rfl rfl (by decide) rfl (by omega) rfl ?_
  refine y_iald (v := (σ 554 (σ 555 i))) (n := 9) rfl rfl (by decide) rfl (by omega) rfl ?_
  refine y_push rfl ?_
  refine y_aload rfl rfl rfl ?_
  refine y_gfr (t := 556) rfl rfl (by decide) rfl (by decide) ?_
  refine y_iload rfl rfl ?_
  refine y_iald (v := (σ 556 i)) (n := 3) rfl rfl (by decide) rfl (by omega) rfl ?_
  refine y_isub (v := (20 - (σ 556 i))) rfl rfl (by omega) ?_
  refine y_si (as := [(0, (σ 554 (σ 555 i))), (0, (20 - (σ 556 i)))]) (S := [(0, t)]) rfl rfl rfl rfl rfl rfl m_lesser ?_
  rintro _ _ ⟨rfl, rfl⟩
  refine y_si (as := [(0, t), (0, (min (σ 554 (σ 555 i)) (20 - (σ 556 i))))]) (S := []) rfl rfl rfl rfl rfl rfl m_lesser ?_
  rintro _ _ ⟨rfl, rfl⟩
  refine y_istore (L' := [some (2, 547), some (0, i), some (0, t), some (0, (min t (min (σ 554 (σ 555 i)) (20 - (σ 556 i)))))]) rfl rfl rfl rfl ?_
  refine y_aload rfl rfl rfl ?_
  refine y_gfr (t := 554) rfl rfl (by decide) rfl (by decide) ?_
  refine y_aload rfl rfl rfl ?_
  refine y_gfr (t := 555) rfl rfl (by decide) rfl (by decide) ?_
  refine y_iload rfl rfl ?_
  refine y_iald (v := (σ 555 i)) (n := 3) rfl rfl (by decide) rfl (by omega) rfl ?_
  refine y_dup2 rfl rfl rfl ?_
  refine y_iald (v := (σ 554 (σ 555 i))) (n := 9) rfl rfl (by decide) rfl (by omega) rfl ?_
  refine y_iload rfl rfl ?_
  refine y_isub (v := ((σ 554 (σ 555 i)) - (min t (min (σ 554 (σ 555 i)) (20 - (σ 556 i)))))) rfl rfl (by omega) ?_
  refine y_iast (n := 9) rfl rfl (by decide) rfl (by omega) ?_
  refine y_aload rfl rfl rfl ?_
  refine y_gfr (t := 556) rfl rfl (by decide) rfl (by decide) ?_
  refine y_iload rfl rfl ?_
  refine y_dup2 rfl rfl rfl ?_
  refine y_iald (v := (σ 556 i)) (n := 3) rfl rfl (by decide) rfl (by omega) (yne (by omega) rfl) ?_
  refine y_iload rfl rfl ?_
  refine y_iadd (v := ((σ 556 i) + (min t (min (σ 554 (σ 555 i)) (20 - (σ 556 i)))))) rfl rfl (by omega) ?_
  refine y_iast (n := 3) rfl rfl (by decide) rfl (by omega) ?_
  refine y_ret rfl rfl ⟨rfl, ?_⟩
  refine ⟨?_, rfq_s (rfq_s (rfq_0 _) (by omega)) (by omega)⟩
  rw [mfetch_mf _ _ (by omega) (by omega), show ((t.toNat : Nat) : Int) = t by omega]
  unfold mf
  rw [w1, b1, b2]
  exact rm_m (rm_w hr) hi (by omega)
theorem n_moves0 {g : Launch × XG × va_G} {σ : YS} {E D : YS} {i : Int} (hr : rm σ E D) (he : eG E) (hd : dG E D) (hn : 0 ≤ D 5 0 ∧ D 5 0 < 1000000) (hi : 0 ≤ i ∧ i < E 1 0) : YU g 130 [(2, 547), (0, i), (0, (-1))] σ (fun σ' => rm σ' E (yset D 1 i (mgoal (E 2 i) (D 1 i) (0) (D 5 0) (E 0 0))) ∧ rfq E σ σ') := by
  refine y_start rfl rfl rfl ?_
  have ⟨⟨f1, f2, f3⟩, f4, f5, f6⟩ := hr
  have ⟨e1, e2, e3⟩ := he
  have ⟨⟨b1, b2, b3, b4⟩, ⟨b5, b6⟩, b7, b8⟩ := f5 i (by omega) (by omega)
  have ⟨⟨d1, d2⟩, ⟨d3, d4⟩, ⟨d5, d6⟩, d7⟩ := hd.2 i (by omega) (by omega)
  have ⟨⟨t1, t2⟩, ⟨t3, t4⟩, t5⟩ := e3 i (by omega) (by omega)
  have w1 : σ 554 (σ 555 i) = D 0 (D 1 i) := by rw [b1]; exact f4 _ (by omega) (by omega)
  have w2 := hd.1 (D 1 i) (by omega) (by omega)
  refine y_aload rfl rfl rfl ?_
  refine y_gfr (t := 548) rfl rfl (by decide) rfl (by decide) ?_
  refine y_push rfl ?_
  refine y_iload rfl rfl ?_
  refine y_iadd (v := (11 + i)) rfl rfl (by omega) ?_
  refine y_iald (v := (σ 548 (11 + i))) (n := 2108) rfl rfl (by decide) rfl (by omega) rfl ?_
  refine y_push rfl ?_
  refine y_iceq rfl (fun q10 => ?_) (fun q10 => ?_)
  · skip
    refine y_push rfl ?_
    refine y_goto rfl ?_
    refine y_istore (L' := [some (2, 547), some (0, i), some (0, (-1)), some (0, 1), none]) rfl rfl rfl rfl ?_
    refine y_aload rfl rfl rfl ?_
    refine y_gfr (t := 555) rfl rfl (by decide) rfl (by decide) ?_
    refine y_iload rfl rfl ?_
    refine y_iald (v := (σ 555 i)) (n := 3) rfl rfl (by decide) rfl (by omega) rfl ?_
    refine y_iload rfl rfl ?_
    refine y_iadd (v := ((σ 555 i) + (-1))) rfl rfl (by omega) ?_
    refine y_istore (L' := [some (2, 547), some (0, i), some (0, (-1)), some (0, 1), some (0, ((σ 555 i) + (-1)))]) rfl rfl rfl rfl ?_
    refine y_iload rfl rfl ?_
    refine y_i2l rfl ?_
    refine y_lconst (v := 0) rfl rfl ?_
    refine y_aload rfl rfl rfl ?_
    refine y_gfr (t := 548) rfl rfl (by decide) rfl (by decide) ?_
    refine y_push rfl ?_
    refine y_iald (v := (σ 548 0)) (n := 2108) rfl rfl (by decide) rfl (by decide) rfl ?_
    refine y_push rfl ?_
    refine y_isub (v := ((σ 548 0) - 1)) rfl rfl (by omega) ?_
    refine y_i2l rfl ?_
    refine y_si (as := [(1, ((σ 555 i) + (-1))), (1, 0), (1, ((σ 548 0) - 1))]) (S := []) rfl rfl rfl rfl rfl rfl m_lies ?_
    rintro _ _ ⟨rfl, rfl⟩
    refine y_ifeq rfl (fun q58 => ?_) (fun q58 => ?_)
    · skip
      replace q58 := yb_0.mp q58
      refine y_ret rfl rfl ⟨rfl, ?_⟩
      have hg : mgoal (E 2 i) (D 1 i) 0 (D 5 0) (E 0 0) = D 1 i := by unfold mgoal; (repeat' split) <;> omega
      exact ⟨by rw [hg, yset_id]; exact hr, rfq_0 _⟩
    · skip
      replace q58 := yb_1.mp q58
      refine y_iload rfl rfl ?_
      refine y_ifeq rfl (fun q62 => ?_) (fun q62 => ?_)
      · exfalso; omega
      · skip
        refine y_aload rfl rfl rfl ?_
        refine y_gfi (v := (σ 547 18)) rfl rfl (by decide) rfl (by decide) rfl rfl ?_
        refine y_push rfl ?_
        refine y_irem (v := ((σ 547 18) % 2)) rfl rfl (by omega) ?_
        refine y_push rfl ?_
        refine y_iceq rfl (fun q72 => ?_) (fun q72 => ?_)
        · skip
          refine y_ret rfl rfl ⟨rfl, ?_⟩
          have hg : mgoal (E 2 i) (D 1 i) 0 (D 5 0) (E 0 0) = D 1 i := by unfold mgoal; (repeat' split) <;> omega
          exact ⟨by rw [hg, yset_id]; exact hr, rfq_0 _⟩
        · skip
          refine y_aload rfl rfl rfl ?_
          refine y_gfr (t := 555) rfl rfl (by decide) rfl (by decide) ?_
          refine y_iload rfl rfl ?_
          refine y_iload rfl rfl ?_
          refine y_iast (n := 3) rfl rfl (by decide) rfl (by omega) ?_
          refine y_ret rfl rfl ⟨rfl, ?_⟩
          have hg : mgoal (E 2 i) (D 1 i) 0 (D 5 0) (E 0 0) = ((σ 555 i) + (-1)) := by unfold mgoal; (repeat' split) <;> omega
          exact ⟨by rw [hg]; exact rm_m hr hi (by omega), rfq_s (rfq_0 _) (by omega)⟩
  · skip
    refine y_aload rfl rfl rfl ?_
    refine y_gfr (t := 548) rfl rfl (by decide) rfl (by decide) ?_
    refine y_push rfl ?_
    refine y_iload rfl rfl ?_
    refine y_iadd (v := (11 + i)) rfl rfl (by omega) ?_
    refine y_iald (v := (σ 548 (11 + i))) (n := 2108) rfl rfl (by decide) rfl (by omega) rfl ?_
    refine y_push rfl ?_
    refine y_icne rfl (fun q23 => ?_) (fun q23 => ?_)
    · skip
      refine y_push rfl ?_
      refine y_istore (L' := [some (2, 547), some (0, i), some (0, (-1)), some (0, 0), none]) rfl rfl rfl rfl ?_
      refine y_aload rfl rfl rfl ?_
      refine y_gfr (t := 555) rfl rfl (by decide) rfl (by decide) ?_
      refine y_iload rfl rfl ?_
      refine y_iald (v := (σ 555 i)) (n := 3) rfl rfl (by decide) rfl (by omega) rfl ?_
      refine y_iload rfl rfl ?_
      refine y_iadd (v := ((σ 555 i) + (-1))) rfl rfl (by omega) ?_
      refine y_istore (L' := [some (2, 547), some (0, i), some (0, (-1)), some (0, 0), some (0, ((σ 555 i) + (-1)))]) rfl rfl rfl rfl ?_
      refine y_iload rfl rfl ?_
      refine y_i2l rfl ?_
      refine y_lconst (v := 0) rfl rfl ?_
      refine y_aload rfl rfl rfl ?_
      refine y_gfr (t := 548) rfl rfl (by decide) rfl (by decide) ?_
      refine y_push rfl ?_
      refine y_iald (v := (σ 548 0)) (n := 2108) rfl rfl (by decide) rfl (by decide) rfl ?_
      refine y_push rfl ?_
      refine y_isub (v := ((σ 548 0) - 1)) rfl rfl (by omega) ?_
      refine y_i2l rfl ?_
      refine y_si (as := [(1, ((σ 555 i) + (-1))), (1, 0), (1, ((σ 548 0) - 1))]) (S := []) rfl rfl rfl rfl rfl rfl m_lies ?_
      rintro _ _ ⟨rfl, rfl⟩
      refine y_ifeq rfl (fun q58 => ?_) (fun q58 => ?_)
      · skip
        replace q58 := yb_0.mp q58
        refine y_ret rfl rfl ⟨rfl, ?_⟩
        have hg : mgoal (E 2 i) (D 1 i) 0 (D 5 0) (E 0 0) = D 1 i := by unfold mgoal; (repeat' split) <;> omega
        exact ⟨by rw [hg, yset_id]; exact hr, rfq_0 _⟩
      · skip
        replace q58 := yb_1.mp q58
        refine y_iload rfl rfl ?_
        refine y_ifeq rfl (fun q62 => ?_) (fun q62 => ?_)
        · skip
          refine y_aload rfl rfl rfl ?_
          refine y_gfr (t := 555) rfl rfl (by decide) rfl (by decide) ?_
          refine y_iload rfl rfl ?_
          refine y_iload rfl rfl ?_
          refine y_iast (n := 3) rfl rfl (by decide) rfl (by omega) ?_
          refine y_ret rfl rfl ⟨rfl, ?_⟩
          have hg : mgoal (E 2 i) (D 1 i) 0 (D 5 0) (E 0 0) = ((σ 555 i) + (-1)) := by unfold mgoal; (repeat' split) <;> omega
          exact ⟨by rw [hg]; exact rm_m hr hi (by omega), rfq_s (rfq_0 _) (by omega)⟩
        · exfalso; omega
    · skip
      refine y_push rfl ?_
      refine y_goto rfl ?_
      refine y_istore (L' := [some (2, 547), some (0, i), some (0, (-1)), some (0, 1), none]) rfl rfl rfl rfl ?_
      refine y_aload rfl rfl rfl ?_
      refine y_gfr (t := 555) rfl rfl (by decide) rfl (by decide) ?_
      refine y_iload rfl rfl ?_
      refine y_iald (v := (σ 555 i)) (n := 3) rfl rfl (by decide) rfl (by omega) rfl ?_
      refine y_iload rfl rfl ?_
      refine y_iadd (v := ((σ 555 i) + (-1))) rfl rfl (by omega) ?_
      refine y_istore (L' := [some (2, 547), some (0, i), some (0, (-1)), some (0, 1), some (0, ((σ 555 i) + (-1)))]) rfl rfl rfl rfl ?_
      refine y_iload rfl rfl ?_
      refine y_i2l rfl ?_
      refine y_lconst (v := 0) rfl rfl ?_
      refine y_aload rfl rfl rfl ?_
      refine y_gfr (t := 548) rfl rfl (by decide) rfl (by decide) ?_
      refine y_push rfl ?_
      refine y_iald (v := (σ 548 0)) (n := 2108) rfl rfl (by decide) rfl (by decide) rfl ?_
      refine y_push rfl ?_
      refine y_isub (v := ((σ 548 0) - 1)) rfl rfl (by omega) ?_
      refine y_i2l rfl ?_
      refine y_si (as := [(1, ((σ 555 i) + (-1))), (1, 0), (1, ((σ 548 0) - 1))]) (S := []) rfl rfl rfl rfl rfl rfl m_lies ?_
      rintro _ _ ⟨rfl, rfl⟩
      refine y_ifeq rfl (fun q58 => ?_) (fun q58 => ?_)
      · skip
        replace q58 := yb_0.mp q58
        refine y_ret rfl rfl ⟨rfl, ?_⟩
        have hg : mgoal (E 2 i) (D 1 i) 0 (D 5 0) (E 0 0) = D 1 i := by unfold mgoal; (repeat' split) <;> omega
        exact ⟨by rw [hg, yset_id]; exact hr, rfq_0 _⟩
      · skip
        replace q58 := yb_1.mp q58
        refine y_iload rfl rfl ?_
        refine y_ifeq rfl (fun q62 => ?_) (fun q62 => ?_)
        · exfalso; omega
        · skip
          refine y_aload rfl rfl rfl ?_
          refine y_gfi (v := (σ 547 18)) rfl rfl (by decide) rfl (by decide) rfl rfl ?_
          refine y_push rfl ?_
          refine y_irem (v := ((σ 547 18) % 2)) rfl rfl (by omega) ?_
          refine y_push rfl ?_
          refine y_iceq rfl (fun q72 => ?_) (fun q72 => ?_)
          · skip
            refine y_ret rfl rfl ⟨rfl, ?_⟩
            have hg : mgoal (E 2 i) (D 1 i) 0 (D 5 0) (E 0 0) = D 1 i := by unfold mgoal; (repeat' split) <;> omega
            exact ⟨by rw [hg, yset_id]; exact hr, rfq_0 _⟩
          · skip
            refine y_aload rfl rfl rfl ?_
            refine y_gfr (t := 555) rfl rfl (by decide) rfl (by decide) ?_
            refine y_iload rfl rfl ?_
            refine y_iload rfl rfl ?_
            refine y_iast (n := 3) rfl rfl (by decide) rfl (by omega) ?_
            refine y_ret rfl rfl ⟨rfl, ?_⟩
            have hg : mgoal (E 2 i) (D 1 i) 0 (D 5 0) (E 0 0) = ((σ 555 i) + (-1)) := by unfold mgoal; (repeat' split) <;> omega
            exact ⟨by rw [hg]; exact rm_m hr hi (by omega), rfq_s (rfq_0 _) (by omega)⟩
theorem n_moves1 {g : Launch × XG × va_G} {σ : YS} {E D : YS} {i : Int} (hr : rm σ E D) (he : eG E) (hd : dG E D) (hn : 0 ≤ D 5 0 ∧ D 5 0 < 1000000) (hi : 0 ≤ i ∧ i < E 1 0) : YU g 130 [(2, 547), (0, i), (0, 1)] σ (fun σ' => rm σ' E (yset D 1 i (mgoal (E 2 i) (D 1 i) (1) (D 5 0) (E 0 0))) ∧ rfq E σ σ') := by
  refine y_start rfl rfl rfl ?_
  have ⟨⟨f1, f2, f3⟩, f4, f5, f6⟩ := hr
  have ⟨e1, e2, e3⟩ := he
  have ⟨⟨b1, b2, b3, b4⟩, ⟨b5, b6⟩, b7, b8⟩ := f5 i (by omega) (by omega)
  have ⟨⟨d1, d2⟩, ⟨d3, d4⟩, ⟨d5, d6⟩, d7⟩ := hd.2 i (by omega) (by omega)
  have ⟨⟨t1, t2⟩, ⟨t3, t4⟩, t5⟩ := e3 i (by omega) (by omega)
  have w1 : σ 554 (σ 555 i) = D 0 (D 1 i) := by rw [b1]; exact f4 _ (by omega) (by omega)
  have w2 := hd.1 (D 1 i) (by omega) (by omega)
  refine y_aload rfl rfl rfl ?_
  refine y_gfr (t := 548) rfl rfl (by decide) rfl (by decide) ?_
  refine y_push rfl ?_
  refine y_iload rfl rfl ?_
  refine y_iadd (v := (11 + i)) rfl rfl (by omega) ?_
  refine y_iald (v := (σ 548 (11 + i))) (n := 2108) rfl rfl (by decide) rfl (by omega) rfl ?_
  refine y_push rfl ?_
  refine y_iceq rfl (fun q10 => ?_) (fun q10 => ?_)
  · skip
    refine y_push rfl ?_
    refine y_goto rfl ?_
    refine y_istore (L' := [some (2, 547), some (0, i), some (0, 1), some (0, 1), none]) rfl rfl rfl rfl ?_
    refine y_aload rfl rfl rfl ?_
    refine y_gfr (t := 555) rfl rfl (by decide) rfl (by decide) ?_
    refine y_iload rfl rfl ?_
    refine y_iald (v := (σ 555 i)) (n := 3) rfl rfl (by decide) rfl (by omega) rfl ?_
    refine y_iload rfl rfl ?_
    refine y_iadd (v := ((σ 555 i) + 1)) rfl rfl (by omega) ?_
    refine y_istore (L' := [some (2, 547), some (0, i), some (0, 1), some (0, 1), some (0, ((σ 555 i) + 1))]) rfl rfl rfl rfl ?_
    refine y_iload rfl rfl ?_
    refine y_i2l rfl ?_
    refine y_lconst (v := 0) rfl rfl ?_
    refine y_aload rfl rfl rfl ?_
    refine y_gfr (t := 548) rfl rfl (by decide) rfl (by decide) ?_
    refine y_push rfl ?_
    refine y_iald (v := (σ 548 0)) (n := 2108) rfl rfl (by decide) rfl (by decide) rfl ?_
    refine y_push rfl ?_
    refine y_isub (v := ((σ 548 0) - 1)) rfl rfl (by omega) ?_
    refine y_i2l rfl ?_
    refine y_si (as := [(1, ((σ 555 i) + 1)), (1, 0), (1, ((σ 548 0) - 1))]) (S := []) rfl rfl rfl rfl rfl rfl m_lies ?_
    rintro _ _ ⟨rfl, rfl⟩
    refine y_ifeq rfl (fun q58 => ?_) (fun q58 => ?_)
    · skip
      replace q58 := yb_0.mp q58
      refine y_ret rfl rfl ⟨rfl, ?_⟩
      have hg : mgoal (E 2 i) (D 1 i) 1 (D 5 0) (E 0 0) = D 1 i := by unfold mgoal; (repeat' split) <;> omega
      exact ⟨by rw [hg, yset_id]; exact hr, rfq_0 _⟩
    · skip
      replace q58 := yb_1.mp q58
      refine y_iload rfl rfl ?_
      refine y_ifeq rfl (fun q62 => ?_) (fun q62 => ?_)
      · exfalso; omega
      · skip
        refine y_aload rfl rfl rfl ?_
        refine y_gfi (v := (σ 547 18)) rfl rfl (by decide) rfl (by decide) rfl rfl ?_
        refine y_push rfl ?_
        refine y_irem (v := ((σ 547 18) % 2)) rfl rfl (by omega) ?_
        refine y_push rfl ?_
        refine y_iceq rfl (fun q72 => ?_) (fun q72 => ?_)
        · skip
          refine y_ret rfl rfl ⟨rfl, ?_⟩
          have hg : mgoal (E 2 i) (D 1 i) 1 (D 5 0) (E 0 0) = D 1 i := by unfold mgoal; (repeat' split) <;> omega
          exact ⟨by rw [hg, yset_id]; exact hr, rfq_0 _⟩
        · skip
          refine y_aload rfl rfl rfl ?_
          refine y_gfr (t := 555) rfl rfl (by decide) rfl (by decide) ?_
          refine y_iload rfl rfl ?_
          refine y_iload rfl rfl ?_
          refine y_iast (n := 3) rfl rfl (by decide) rfl (by omega) ?_
          refine y_ret rfl rfl ⟨rfl, ?_⟩
          have hg : mgoal (E 2 i) (D 1 i) 1 (D 5 0) (E 0 0) = ((σ 555 i) + 1) := by unfold mgoal; (repeat' split) <;> omega
          exact ⟨by rw [hg]; exact rm_m hr hi (by omega), rfq_s (rfq_0 _) (by omega)⟩
  · skip
    refine y_aload rfl rfl rfl ?_
    refine y_gfr (t := 548) rfl rfl (by decide) rfl (by decide) ?_
    refine y_push rfl ?_
    refine y_iload rfl rfl ?_
    refine y_iadd (v := (11 + i)) rfl rfl (by omega) ?_
    refine y_iald (v := (σ 548 (11 + i))) (n := 2108) rfl rfl (by decide) rfl (by omega) rfl ?_
    refine y_push rfl ?_
    refine y_icne rfl (fun q23 => ?_) (fun q23 => ?_)
    · skip
      refine y_push rfl ?_
      refine y_istore (L' := [some (2, 547), some (0, i), some (0, 1), some (0, 0), none]) rfl rfl rfl rfl ?_
      refine y_aload rfl rfl rfl ?_
      refine y_gfr (t := 555) rfl rfl (by decide) rfl (by decide) ?_
      refine y_iload rfl rfl ?_
      refine y_iald (v := (σ 555 i)) (n := 3) rfl rfl (by decide) rfl (by omega) rfl ?_
      refine y_iload rfl rfl ?_
      refine y_iadd (v := ((σ 555 i) + 1)) rfl rfl (by omega) ?_
      refine y_istore (L' := [some (2, 547), some (0, i), some (0, 1), some (0, 0), some (0, ((σ 555 i) + 1))]) rfl rfl rfl rfl ?_
      refine y_iload rfl rfl ?_
      refine y_i2l rfl ?_
      refine y_lconst (v := 0) rfl rfl ?_
      refine y_aload rfl rfl rfl ?_
      refine y_gfr (t := 548) rfl rfl (by decide) rfl (by decide) ?_
      refine y_push rfl ?_
      refine y_iald (v := (σ 548 0)) (n := 2108) rfl rfl (by decide) rfl (by decide) rfl ?_
      refine y_push rfl ?_
      refine y_isub (v := ((σ 548 0) - 1)) rfl rfl (by omega) ?_
      refine y_i2l rfl ?_
      refine y_si (as := [(1, ((σ 555 i) + 1)), (1, 0), (1, ((σ 548 0) - 1))]) (S := []) rfl rfl rfl rfl rfl rfl m_lies ?_
      rintro _ _ ⟨rfl, rfl⟩
      refine y_ifeq rfl (fun q58 => ?_) (fun q58 => ?_)
      · skip
        replace q58 := yb_0.mp q58
        refine y_ret rfl rfl ⟨rfl, ?_⟩
        have hg : mgoal (E 2 i) (D 1 i) 1 (D 5 0) (E 0 0) = D 1 i := by unfold mgoal; (repeat' split) <;> omega
        exact ⟨by rw [hg, yset_id]; exact hr, rfq_0 _⟩
      · skip
        replace q58 := yb_1.mp q58
        refine y_iload rfl rfl ?_
        refine y_ifeq rfl (fun q62 => ?_) (fun q62 => ?_)
        · skip
          refine y_aload rfl rfl rfl ?_
          refine y_gfr (t := 555) rfl rfl (by decide) rfl (by decide) ?_
          refine y_iload rfl rfl ?_
          refine y_iload rfl rfl ?_
          refine y_iast (n := 3) rfl rfl (by decide) rfl (by omega) ?_
          refine y_ret rfl rfl ⟨rfl, ?_⟩
          have hg : mgoal (E 2 i) (D 1 i) 1 (D 5 0) (E 0 0) = ((σ 555 i) + 1) := by unfold mgoal; (repeat' split) <;> omega
          exact ⟨by rw [hg]; exact rm_m hr hi (by omega), rfq_s (rfq_0 _) (by omega)⟩
        · exfalso; omega
    · skip
      refine y_push rfl ?_
      refine y_goto rfl ?_
      refine y_istore (L' := [some (2, 547), some (0, i), some (0, 1), some (0, 1), none]) rfl rfl rfl rfl ?_
      refine y_aload rfl rfl rfl ?_
      refine y_gfr (t := 555) rfl rfl (by decide) rfl (by decide) ?_
      refine y_iload rfl rfl ?_
      refine y_iald (v := (σ 555 i)) (n := 3) rfl rfl (by decide) rfl (by omega) rfl ?_
      refine y_iload rfl rfl ?_
      refine y_iadd (v := ((σ 555 i) + 1)) rfl rfl (by omega) ?_
      refine y_istore (L' := [some (2, 547), some (0, i), some (0, 1), some (0, 1), some (0, ((σ 555 i) + 1))]) rfl rfl rfl rfl ?_
      refine y_iload rfl rfl ?_
      refine y_i2l rfl ?_
      refine y_lconst (v := 0) rfl rfl ?_
      refine y_aload rfl rfl rfl ?_
      refine y_gfr (t := 548) rfl rfl (by decide) rfl (by decide) ?_
      refine y_push rfl ?_
      refine y_iald (v := (σ 548 0)) (n := 2108) rfl rfl (by decide) rfl (by decide) rfl ?_
      refine y_push rfl ?_
      refine y_isub (v := ((σ 548 0) - 1)) rfl rfl (by omega) ?_
      refine y_i2l rfl ?_
      refine y_si (as := [(1, ((σ 555 i) + 1)), (1, 0), (1, ((σ 548 0) - 1))]) (S := []) rfl rfl rfl rfl rfl rfl m_lies ?_
      rintro _ _ ⟨rfl, rfl⟩
      refine y_ifeq rfl (fun q58 => ?_) (fun q58 => ?_)
      · skip
        replace q58 := yb_0.mp q58
        refine y_ret rfl rfl ⟨rfl, ?_⟩
        have hg : mgoal (E 2 i) (D 1 i) 1 (D 5 0) (E 0 0) = D 1 i := by unfold mgoal; (repeat' split) <;> omega
        exact ⟨by rw [hg, yset_id]; exact hr, rfq_0 _⟩
      · skip
        replace q58 := yb_1.mp q58
        refine y_iload rfl rfl ?_
        refine y_ifeq rfl (fun q62 => ?_) (fun q62 => ?_)
        · exfalso; omega
        · skip
          refine y_aload rfl rfl rfl ?_
          refine y_gfi (v := (σ 547 18)) rfl rfl (by decide) rfl (by decide) rfl rfl ?_
          refine y_push rfl ?_
          refine y_irem (v := ((σ 547 18) % 2)) rfl rfl (by omega) ?_
          refine y_push rfl ?_
          refine y_iceq rfl (fun q72 => ?_) (fun q72 => ?_)
          · skip
            refine y_ret rfl rfl ⟨rfl, ?_⟩
            have hg : mgoal (E 2 i) (D 1 i) 1 (D 5 0) (E 0 0) = D 1 i := by unfold mgoal; (repeat' split) <;> omega
            exact ⟨by rw [hg, yset_id]; exact hr, rfq_0 _⟩
          · skip
            refine y_aload rfl rfl rfl ?_
            refine y_gfr (t := 555) rfl rfl (by decide) rfl (by decide) ?_
            refine y_iload rfl rfl ?_
            refine y_iload rfl rfl ?_
            refine y_iast (n := 3) rfl rfl (by decide) rfl (by omega) ?_
            refine y_ret rfl rfl ⟨rfl, ?_⟩
            have hg : mgoal (E 2 i) (D 1 i) 1 (D 5 0) (E 0 0) = ((σ 555 i) + 1) := by unfold mgoal; (repeat' split) <;> omega
            exact ⟨by rw [hg]; exact rm_m hr hi (by omega), rfq_s (rfq_0 _) (by omega)⟩
theorem n_does {g : Launch × XG × va_G} {σ : YS} {E D : YS} {i sg : Int} (hr : rm σ E D) (he : eG E) (hd : dG E D) (hn : 0 ≤ D 5 0 ∧ D 5 0 < 1000000) (hi : 0 ≤ i ∧ i < E 1 0) (hs : sg ≠ 7 ∧ sg ≠ 8) : YI g 131 [(2, 547), (0, i), (0, sg)] σ (fun b σ' => (b = 1 ∧ ¬ (sg = 6 ∧ E 2 i ≠ 3 ∧ malone E D i) ∧ rm σ' E (mwork E D i sg) ∧ rfq E σ σ') ∨ (b = 0 ∧ (sg = 6 ∧ E 2 i ≠ 3 ∧ malone E D i) ∧ σ = σ')) := by
  refine y_start rfl rfl rfl ?_
  have ⟨⟨f1, f2, f3⟩, f4, f5, f6⟩ := hr
  have ⟨e1, e2, e3⟩ := he
  have ⟨⟨b1, b2, b3, b4⟩, ⟨b5, b6⟩, b7, b8⟩ := f5 i (by omega) (by omega)
  have ⟨⟨d1, d2⟩, ⟨d3, d4⟩, ⟨d5, d6⟩, d7⟩ := hd.2 i (by omega) (by omega)
  have ⟨⟨t1, t2⟩, ⟨t3, t4⟩, t5⟩ := e3 i (by omega) (by omega)
  have w1 : σ 554 (σ 555 i) = D 0 (D 1 i) := by rw [b1]; exact f4 _ (by omega) (by omega)
  have w2 := hd.1 (D 1 i) (by omega) (by omega)
  refine y_aload rfl rfl rfl ?_
  refine y_gfr (t := 548) rfl rfl (by decide) rfl (by decide) ?_
  refine y_push rfl ?_
  refine y_iload rfl rfl ?_
  refine y_iadd (v := (11 + i)) rfl rfl (by omega) ?_
  refine y_iald (v := (σ 548 (11 + i))) (n := 2108) rfl rfl (by decide) rfl (by omega) rfl ?_
  refine y_istore (L' := [some (2, 547), some (0, i), some (0, sg), some (0, (σ 548 (11 + i))), none]) rfl rfl rfl rfl ?_
  refine y_iload rfl rfl ?_
  refine y_push rfl ?_
  refine y_icne rfl (fun q12 => ?_) (fun q12 => ?_)
  · skip
    refine y_push rfl ?_
    refine y_istore (L' := [some (2, 547), some (0, i), some (0, sg), some (0, (σ 548 (11 + i))), some (0, 0)]) rfl rfl rfl rfl ?_
    refine y_iload rfl rfl ?_
    refine y_tsw7 rfl rfl (by decide) rfl rfl rfl rfl rfl rfl rfl rfl (fun q35 => ?_) (fun q35 => ?_) (fun q35 => ?_) (fun q35 => ?_) (fun q35 => ?_) (fun q35 => ?_) (fun q35 => ?_) (fun q35 => ?_)
    · skip
      refine y_push rfl ?_
      refine y_zret rfl rfl (by decide) ⟨_, rfl, ?_⟩
      have hq : ¬ (sg = 6 ∧ E 2 i ≠ 3 ∧ malone E D i) := fun z => by omega
      have hg : mgoal (E 2 i) (D 1 i) sg (D 5 0) (E 0 0) = D 1 i := by unfold mgoal; (repeat' split) <;> omega
      exact Or.inl ⟨rfl, hq, by unfold mwork; rw [if_neg (by omega), if_neg (by omega), if_neg (by omega), hg, yset_id]; exact hr, rfq_0 _⟩
    · skip
      refine y_aload rfl rfl rfl ?_
      refine y_iload rfl rfl ?_
      refine y_push rfl ?_
      refine y_vu (as := [(2, 547), (0, i), (0, (-1))]) (S := []) rfl rfl rfl rfl rfl rfl (by decide) rfl (n_moves0 hr he hd hn hi) ?_
      rintro σ' ⟨z1, z2⟩
      refine y_push rfl ?_
      refine y_zret rfl rfl (by decide) ⟨_, rfl, ?_⟩
      have hq : ¬ (sg = 6 ∧ E 2 i ≠ 3 ∧ malone E D i) := fun z => by omega
      exact Or.inl ⟨rfl, hq, by unfold mwork; rw [if_neg (by omega), if_neg (by omega), if_neg (by omega), show sg = 0 by omega]; exact z1, z2⟩
    · skip
      refine y_aload rfl rfl rfl ?_
      refine y_iload rfl rfl ?_
      refine y_push rfl ?_
      refine y_vu (as := [(2, 547), (0, i), (0, 1)]) (S := []) rfl rfl rfl rfl rfl rfl (by decide) rfl (n_moves1 hr he hd hn hi) ?_
      rintro σ' ⟨z1, z2⟩
      refine y_push rfl ?_
      refine y_zret rfl rfl (by decide) ⟨_, rfl, ?_⟩
      have hq : ¬ (sg = 6 ∧ E 2 i ≠ 3 ∧ malone E D i) := fun z => by omega
      exact Or.inl ⟨rfl, hq, by unfold mwork; rw [if_neg (by omega), if_neg (by omega), if_neg (by omega), show sg = 1 by omega]; exact z1, z2⟩
    · skip
      refine y_aload rfl rfl rfl ?_
      refine y_iload rfl rfl ?_
      refine y_iload rfl rfl ?_
      refine y_ifeq rfl (fun q96 => ?_) (fun q96 => ?_)
      · skip
        refine y_iload rfl rfl ?_
        refine y_push rfl ?_
        refine y_icne rfl (fun q105 => ?_) (fun q105 => ?_)
        · skip
          refine y_iload rfl rfl ?_
          refine y_push rfl ?_
          refine y_icne rfl (fun q114 => ?_) (fun q114 => ?_)
          · skip
            refine y_push rfl ?_
            refine y_vu (as := [(2, 547), (0, i), (0, 1)]) (S := []) rfl rfl rfl rfl rfl rfl (by decide) rfl (n_fetch (t := 1) hr he hd hn hi (by omega)) ?_
            rintro σ' ⟨z1, z2⟩
            refine y_push rfl ?_
            refine y_zret rfl rfl (by decide) ⟨_, rfl, ?_⟩
            have hq : ¬ (sg = 6 ∧ E 2 i ≠ 3 ∧ malone E D i) := fun z => by omega
            have hm : mtimes (E 2 i) = 1 := by unfold mtimes; (repeat' split) <;> omega
            exact Or.inl ⟨rfl, hq, by unfold mwork; rw [if_pos (by omega), hm]; exact z1, z2⟩
          · skip
            refine y_push rfl ?_
            refine y_goto rfl ?_
            refine y_vu (as := [(2, 547), (0, i), (0, 20)]) (S := []) rfl rfl rfl rfl rfl rfl (by decide) rfl (n_fetch (t := 20) hr he hd hn hi (by omega)) ?_
            rintro σ' ⟨z1, z2⟩
            refine y_push rfl ?_
            refine y_zret rfl rfl (by decide) ⟨_, rfl, ?_⟩
            have hq : ¬ (sg = 6 ∧ E 2 i ≠ 3 ∧ malone E D i) := fun z => by omega
            have hm : mtimes (E 2 i) = 20 := by unfold mtimes; (repeat' split) <;> omega
            exact Or.inl ⟨rfl, hq, by unfold mwork; rw [if_pos (by omega), hm]; exact z1, z2⟩
        · skip
          refine y_push rfl ?_
          refine y_goto rfl ?_
          refine y_vu (as := [(2, 547), (0, i), (0, 2)]) (S := []) rfl rfl rfl rfl rfl rfl (by decide) rfl (n_fetch (t := 2) hr he hd hn hi (by omega)) ?_
          rintro σ' ⟨z1, z2⟩
          refine y_push rfl ?_
          refine y_zret rfl rfl (by decide) ⟨_, rfl, ?_⟩
          have hq : ¬ (sg = 6 ∧ E 2 i ≠ 3 ∧ malone E D i) := fun z => by omega
          have hm : mtimes (E 2 i) = 2 := by unfold mtimes; (repeat' split) <;> omega
          exact Or.inl ⟨rfl, hq, by unfold mwork; rw [if_pos (by omega), hm]; exact z1, z2⟩
      · exfalso; omega
    · skip
      refine y_iload rfl rfl ?_
      refine y_ifne rfl (fun q130 => ?_) (fun q130 => ?_)
      · exfalso; omega
      · skip
        refine y_aload rfl rfl rfl ?_
        refine y_gfr (t := 556) rfl rfl (by decide) rfl (by decide) ?_
        refine y_iload rfl rfl ?_
        refine y_iald (v := (σ 556 i)) (n := 3) rfl rfl (by decide) rfl (by omega) rfl ?_
        refine y_ifle rfl (fun q139 => ?_) (fun q139 => ?_)
        · skip
          refine y_push rfl ?_
          refine y_zret rfl rfl (by decide) ⟨_, rfl, ?_⟩
          have hq : ¬ (sg = 6 ∧ E 2 i ≠ 3 ∧ malone E D i) := fun z => by omega
          have hg : mgoal (E 2 i) (D 1 i) sg (D 5 0) (E 0 0) = D 1 i := by unfold mgoal; (repeat' split) <;> omega
          by_cases hrest : E 2 i = 5 ∧ D 5 0 % 7 = 6
          · exact Or.inl ⟨rfl, hq, by unfold mwork; rw [if_neg (by omega), if_neg (by omega), if_neg (by omega), hg, yset_id]; exact hr, rfq_0 _⟩
          · have hm : mput D i = D := if_neg (by omega)
            exact Or.inl ⟨rfl, hq, by unfold mwork; rw [if_neg (by omega), if_pos (by omega), hm]; exact hr, rfq_0 _⟩
        · skip
          refine y_aload rfl rfl rfl ?_
          refine y_gfr (t := 554) rfl rfl (by decide) rfl (by decide) ?_
          refine y_aload rfl rfl rfl ?_
          refine y_gfr (t := 555) rfl rfl (by decide) rfl (by decide) ?_
          refine y_iload rfl rfl ?_
          refine y_iald (v := (σ 555 i)) (n := 3) rfl rfl (by decide) rfl (by omega) rfl ?_
          refine y_iald (v := (σ 554 (σ 555 i))) (n := 9) rfl rfl (by decide) rfl (by omega) rfl ?_
          refine y_push rfl ?_
          refine y_icge rfl (fun q155 => ?_) (fun q155 => ?_)
          · skip
            refine y_push rfl ?_
            refine y_zret rfl rfl (by decide) ⟨_, rfl, ?_⟩
            have hq : ¬ (sg = 6 ∧ E 2 i ≠ 3 ∧ malone E D i) := fun z => by omega
            have hg : mgoal (E 2 i) (D 1 i) sg (D 5 0) (E 0 0) = D 1 i := by unfold mgoal; (repeat' split) <;> omega
            by_cases hrest : E 2 i = 5 ∧ D 5 0 % 7 = 6
            · exact Or.inl ⟨rfl, hq, by unfold mwork; rw [if_neg (by omega), if_neg (by omega), if_neg (by omega), hg, yset_id]; exact hr, rfq_0 _⟩
            · have hm : mput D i = D := if_neg (by omega)
              exact Or.inl ⟨rfl, hq, by unfold mwork; rw [if_neg (by omega), if_pos (by omega), hm]; exact hr, rfq_0 _⟩
          · skip
            refine y_aload rfl rfl rfl ?_
            refine y_gfr (t := 556) rfl rfl (by decide) rfl (by decide) ?_
            refine y_iload rfl rfl ?_
            refine y_dup2 rfl rfl rfl ?_
            refine y_iald (v := (σ 556 i)) (n := 3) rfl rfl (by decide) rfl (by omega) rfl ?_
            refine y_push rfl ?_
            refine y_isub (v := ((σ 556 i) - 1)) rfl rfl (by omega) ?_
            refine y_iast (n := 3) rfl rfl (by decide) rfl (by omega) ?_
            refine y_aload rfl rfl rfl ?_
            refine y_gfr (t := 554) rfl rfl (by decide) rfl (by decide) ?_
            refine y_aload rfl rfl rfl ?_
            refine y_gfr (t := 555) rfl rfl (by decide) rfl (by decide) ?_
            refine y_iload rfl rfl ?_
            refine y_iald (v := (σ 555 i)) (n := 3) rfl rfl (by decide) rfl (by omega) (yne (by omega) rfl) ?_
            refine y_dup2 rfl rfl rfl ?_
            refine y_iald (v := (σ 554 (σ 555 i))) (n := 9) rfl rfl (by decide) rfl (by omega) (yne (by omega) rfl) ?_
            refine y_push rfl ?_
            refine y_iadd (v := ((σ 554 (σ 555 i)) + 1)) rfl rfl (by omega) ?_
            refine y_iast (n := 9) rfl rfl (by decide) rfl (by omega) ?_
            refine y_push rfl ?_
            refine y_zret rfl rfl (by decide) ⟨_, rfl, ?_⟩
            have hq : ¬ (sg = 6 ∧ E 2 i ≠ 3 ∧ malone E D i) := fun z => by omega
            have hm : mput D i = yset (yset D 2 i (D 2 i - 1)) 0 (D 1 i) (D 0 (D 1 i) + 1) := if_pos (by omega)
            exact Or.inl ⟨rfl, hq, by unfold mwork; rw [if_neg (by omega), if_pos (by omega), hm, ← w1, ← b1, ← b2]; exact rm_w (rm_m hr hi (by omega)), rfq_s (rfq_s (rfq_0 _) (by omega)) (by omega)⟩
    · skip
      refine y_push rfl ?_
      refine y_zret rfl rfl (by decide) ⟨_, rfl, ?_⟩
      have hq : ¬ (sg = 6 ∧ E 2 i ≠ 3 ∧ malone E D i) := fun z => by omega
      have hg : mgoal (E 2 i) (D 1 i) sg (D 5 0) (E 0 0) = D 1 i := by unfold mgoal; (repeat' split) <;> omega
      exact Or.inl ⟨rfl, hq, by unfold mwork; rw [if_neg (by omega), if_neg (by omega), if_neg (by omega), hg, yset_id]; exact hr, rfq_0 _⟩
    · skip
      refine y_aload rfl rfl rfl ?_
      refine y_gfr (t := 558) rfl rfl (by decide) rfl (by decide) ?_
      refine y_iload rfl rfl ?_
      refine y_push rfl ?_
      refine y_iast (n := 3) rfl rfl (by decide) rfl (by omega) ?_
      refine y_push rfl ?_
      refine y_zret rfl rfl (by decide) ⟨_, rfl, ?_⟩
      have hq : ¬ (sg = 6 ∧ E 2 i ≠ 3 ∧ malone E D i) := fun z => by omega
      exact Or.inl ⟨rfl, hq, by unfold mwork; rw [if_neg (by omega), if_neg (by omega), if_pos (by omega)]; exact rm_m hr hi (by omega), rfq_s (rfq_0 _) (by omega)⟩
    · skip
      refine y_iload rfl rfl ?_
      refine y_push rfl ?_
      refine y_iceq rfl (fun q196 => ?_) (fun q196 => ?_)
      · skip
        refine y_push rfl ?_
        refine y_goto rfl ?_
        refine y_zret rfl rfl (by decide) ⟨_, rfl, ?_⟩
        have hg : mgoal (E 2 i) (D 1 i) sg (D 5 0) (E 0 0) = D 1 i := by unfold mgoal; (repeat' split) <;> omega
        have hq : ¬ (sg = 6 ∧ E 2 i ≠ 3 ∧ malone E D i) := fun z => by first | exact q204 z.2.2 | (have := z.2.1; omega)
        exact Or.inl ⟨rfl, hq, by unfold mwork; rw [if_neg (by omega), if_neg (by omega), if_neg (by omega), hg, yset_id]; exact hr, rfq_0 _⟩
      · skip
        refine y_aload rfl rfl rfl ?_
        refine y_iload rfl rfl ?_
        refine y_vi (as := [(2, 547), (0, i)]) (S := []) rfl rfl rfl rfl rfl rfl (by decide) rfl (m_together hr he hd hn hi) ?_
        rintro _ _ ⟨rfl, rfl⟩
        refine y_ifeq rfl (fun q204 => ?_) (fun q204 => ?_)
        · skip
          replace q204 := yb_0.mp q204
          refine y_push rfl ?_
          refine y_zret rfl rfl (by decide) ⟨_, rfl, ?_⟩
          exact Or.inr ⟨rfl, ⟨by omega, by omega, Classical.byContradiction q204⟩, rfl⟩
        · skip
          replace q204 := yb_1.mp q204
          refine y_push rfl ?_
          refine y_goto rfl ?_
          refine y_zret rfl rfl (by decide) ⟨_, rfl, ?_⟩
          have hg : mgoal (E 2 i) (D 1 i) sg (D 5 0) (E 0 0) = D 1 i := by unfold mgoal; (repeat' split) <;> omega
          have hq : ¬ (sg = 6 ∧ E 2 i ≠ 3 ∧ malone E D i) := fun z => by first | exact q204 z.2.2 | (have := z.2.1; omega)
          exact Or.inl ⟨rfl, hq, by unfold mwork; rw [if_neg (by omega), if_neg (by omega), if_neg (by omega), hg, yset_id]; exact hr, rfq_0 _⟩
  · skip
    refine y_aload rfl rfl rfl ?_
    refine y_gfi (v := (σ 547 18)) rfl rfl (by decide) rfl (by decide) rfl rfl ?_
    refine y_push rfl ?_
    refine y_irem (v := ((σ 547 18) % 7)) rfl rfl (by omega) ?_
    refine y_push rfl ?_
    refine y_icne rfl (fun q24 => ?_) (fun q24 => ?_)
    · skip
      refine y_push rfl ?_
      refine y_istore (L' := [some (2, 547), some (0, i), some (0, sg), some (0, (σ 548 (11 + i))), some (0, 0)]) rfl rfl rfl rfl ?_
      refine y_iload rfl rfl ?_
      refine y_tsw7 rfl rfl (by decide) rfl rfl rfl rfl rfl rfl rfl rfl (fun q35 => ?_) (fun q35 => ?_) (fun q35 => ?_) (fun q35 => ?_) (fun q35 => ?_) (fun q35 => ?_) (fun q35 => ?_) (fun q35 => ?_)
      · skip
        refine y_push rfl ?_
        refine y_zret rfl rfl (by decide) ⟨_, rfl, ?_⟩
        have hq : ¬ (sg = 6 ∧ E 2 i ≠ 3 ∧ malone E D i) := fun z => by omega
        have hg : mgoal (E 2 i) (D 1 i) sg (D 5 0) (E 0 0) = D 1 i := by unfold mgoal; (repeat' split) <;> omega
        exact Or.inl ⟨rfl, hq, by unfold mwork; rw [if_neg (by omega), if_neg (by omega), if_neg (by omega), hg, yset_id]; exact hr, rfq_0 _⟩
      · skip
        refine y_aload rfl rfl rfl ?_
        refine y_iload rfl rfl ?_
        refine y_push rfl ?_
        refine y_vu (as := [(2, 547), (0, i), (0, (-1))]) (S := []) rfl rfl rfl rfl rfl rfl (by decide) rfl (n_moves0 hr he hd hn hi) ?_
        rintro σ' ⟨z1, z2⟩
        refine y_push rfl ?_
        refine y_zret rfl rfl (by decide) ⟨_, rfl, ?_⟩
        have hq : ¬ (sg = 6 ∧ E 2 i ≠ 3 ∧ malone E D i) := fun z => by omega
        exact Or.inl ⟨rfl, hq, by unfold mwork; rw [if_neg (by omega), if_neg (by omega), if_neg (by omega), show sg = 0 by omega]; exact z1, z2⟩
      · skip
        refine y_aload rfl rfl rfl ?_
        refine y_iload rfl rfl ?_
        refine y_push rfl ?_
        refine y_vu (as := [(2, 547), (0, i), (0, 1)]) (S := []) rfl rfl rfl rfl rfl rfl (by decide) rfl (n_moves1 hr he hd hn hi) ?_
        rintro σ' ⟨z1, z2⟩
        refine y_push rfl ?_
        refine y_zret rfl rfl (by decide) ⟨_, rfl, ?_⟩
        have hq : ¬ (sg = 6 ∧ E 2 i ≠ 3 ∧ malone E D i) := fun z => by omega
        exact Or.inl ⟨rfl, hq, by unfold mwork; rw [if_neg (by omega), if_neg (by omega), if_neg (by omega), show sg = 1 by omega]; exact z1, z2⟩
      · skip
        refine y_aload rfl rfl rfl ?_
        refine y_iload rfl rfl ?_
        refine y_iload rfl rfl ?_
        refine y_ifeq rfl (fun q96 => ?_) (fun q96 => ?_)
        · skip
          refine y_iload rfl rfl ?_
          refine y_push rfl ?_
          refine y_icne rfl (fun q105 => ?_) (fun q105 => ?_)
          · skip
            refine y_iload rfl rfl ?_
            refine y_push rfl ?_
            refine y_icne rfl (fun q114 => ?_) (fun q114 => ?_)
            · skip
              refine y_push rfl ?_
              refine y_vu (as := [(2, 547), (0, i), (0, 1)]) (S := []) rfl rfl rfl rfl rfl rfl (by decide) rfl (n_fetch (t := 1) hr he hd hn hi (by omega)) ?_
              rintro σ' ⟨z1, z2⟩
              refine y_push rfl ?_
              refine y_zret rfl rfl (by decide) ⟨_, rfl, ?_⟩
              have hq : ¬ (sg = 6 ∧ E 2 i ≠ 3 ∧ malone E D i) := fun z => by omega
              have hm : mtimes (E 2 i) = 1 := by unfold mtimes; (repeat' split) <;> omega
              exact Or.inl ⟨rfl, hq, by unfold mwork; rw [if_pos (by omega), hm]; exact z1, z2⟩
            · skip
              refine y_push rfl ?_
              refine y_goto rfl ?_
              refine y_vu (as := [(2, 547), (0, i), (0, 20)]) (S := []) rfl rfl rfl rfl rfl rfl (by decide) rfl (n_fetch (t := 20) hr he hd hn hi (by omega)) ?_
              rintro σ' ⟨z1, z2⟩
              refine y_push rfl ?_
              refine y_zret rfl rfl (by decide) ⟨_, rfl, ?_⟩
              have hq : ¬ (sg = 6 ∧ E 2 i ≠ 3 ∧ malone E D i) := fun z => by omega
              have hm : mtimes (E 2 i) = 20 := by unfold mtimes; (repeat' split) <;> omega
              exact Or.inl ⟨rfl, hq, by unfold mwork; rw [if_pos (by omega), hm]; exact z1, z2⟩
          · skip
            refine y_push rfl ?_
            refine y_goto rfl ?_
            refine y_vu (as := [(2, 547), (0, i), (0, 2)]) (S := []) rfl rfl rfl rfl rfl rfl (by decide) rfl (n_fetch (t := 2) hr he hd hn hi (by omega)) ?_
            rintro σ' ⟨z1, z2⟩
            refine y_push rfl ?_
            refine y_zret rfl rfl (by decide) ⟨_, rfl, ?_⟩
            have hq : ¬ (sg = 6 ∧ E 2 i ≠ 3 ∧ malone E D i) := fun z => by omega
            have hm : mtimes (E 2 i) = 2 := by unfold mtimes; (repeat' split) <;> omega
            exact Or.inl ⟨rfl, hq, by unfold mwork; rw [if_pos (by omega), hm]; exact z1, z2⟩
        · exfalso; omega
      · skip
        refine y_iload rfl rfl ?_
        refine y_ifne rfl (fun q130 => ?_) (fun q130 => ?_)
        · exfalso; omega
        · skip
          refine y_aload rfl rfl rfl ?_
          refine y_gfr (t := 556) rfl rfl (by decide) rfl (by decide) ?_
          refine y_iload rfl rfl ?_
          refine y_iald (v := (σ 556 i)) (n := 3) rfl rfl (by decide) rfl (by omega) rfl ?_
          refine y_ifle rfl (fun q139 => ?_) (fun q139 => ?_)
          · skip
            refine y_push rfl ?_
            refine y_zret rfl rfl (by decide) ⟨_, rfl, ?_⟩
            have hq : ¬ (sg = 6 ∧ E 2 i ≠ 3 ∧ malone E D i) := fun z => by omega
            have hg : mgoal (E 2 i) (D 1 i) sg (D 5 0) (E 0 0) = D 1 i := by unfold mgoal; (repeat' split) <;> omega
            by_cases hrest : E 2 i = 5 ∧ D 5 0 % 7 = 6
            · exact Or.inl ⟨rfl, hq, by unfold mwork; rw [if_neg (by omega), if_neg (by omega), if_neg (by omega), hg, yset_id]; exact hr, rfq_0 _⟩
            · have hm : mput D i = D := if_neg (by omega)
              exact Or.inl ⟨rfl, hq, by unfold mwork; rw [if_neg (by omega), if_pos (by omega), hm]; exact hr, rfq_0 _⟩
          · skip
            refine y_aload rfl rfl rfl ?_
            refine y_gfr (t := 554) rfl rfl (by decide) rfl (by decide) ?_
            refine y_aload rfl rfl rfl ?_
            refine y_gfr (t := 555) rfl rfl (by decide) rfl (by decide) ?_
            refine y_iload rfl rfl ?_
            refine y_iald (v := (σ 555 i)) (n := 3) rfl rfl (by decide) rfl (by omega) rfl ?_
            refine y_iald (v := (σ 554 (σ 555 i))) (n := 9) rfl rfl (by decide) rfl (by omega) rfl ?_
            refine y_push rfl ?_
            refine y_icge rfl (fun q155 => ?_) (fun q155 => ?_)
            · skip
              refine y_push rfl ?_
              refine y_zret rfl rfl (by decide) ⟨_, rfl, ?_⟩
              have hq : ¬ (sg = 6 ∧ E 2 i ≠ 3 ∧ malone E D i) := fun z => by omega
              have hg : mgoal (E 2 i) (D 1 i) sg (D 5 0) (E 0 0) = D 1 i := by unfold mgoal; (repeat' split) <;> omega
              by_cases hrest : E 2 i = 5 ∧ D 5 0 % 7 = 6
              · exact Or.inl ⟨rfl, hq, by unfold mwork; rw [if_neg (by omega), if_neg (by omega), if_neg (by omega), hg, yset_id]; exact hr, rfq_0 _⟩
              · have hm : mput D i = D := if_neg (by omega)
                exact Or.inl ⟨rfl, hq, by unfold mwork; rw [if_neg (by omega), if_pos (by omega), hm]; exact hr, rfq_0 _⟩
            · skip
              refine y_aload rfl rfl rfl ?_
              refine y_gfr (t := 556) rfl rfl (by decide) rfl (by decide) ?_
              refine y_iload rfl rfl ?_
              refine y_dup2 rfl rfl rfl ?_
              refine y_iald (v := (σ 556 i)) (n := 3) rfl rfl (by decide) rfl (by omega) rfl ?_
              refine y_push rfl ?_
              refine y_isub (v := ((σ 556 i) - 1)) rfl rfl (by omega) ?_
              refine y_iast (n := 3) rfl rfl (by decide) rfl (by omega) ?_
              refine y_aload rfl rfl rfl ?_
              refine y_gfr (t := 554) rfl rfl (by decide) rfl (by decide) ?_
              refine y_aload rfl rfl rfl ?_
              refine y_gfr (t := 555) rfl rfl (by decide) rfl (by decide) ?_
              refine y_iload rfl rfl ?_
              refine y_iald (v := (σ 555 i)) (n := 3) rfl rfl (by decide) rfl (by omega) (yne (by omega) rfl) ?_
              refine y_dup2 rfl rfl rfl ?_
              refine y_iald (v := (σ 554 (σ 555 i))) (n := 9) rfl rfl (by decide) rfl (by omega) (yne (by omega) rfl) ?_
              refine y_push rfl ?_
              refine y_iadd (v := ((σ 554 (σ 555 i)) + 1)) rfl rfl (by omega) ?_
              refine y_iast (n := 9) rfl rfl (by decide) rfl (by omega) ?_
              refine y_push rfl ?_
              refine y_zret rfl rfl (by decide) ⟨_, rfl, ?_⟩
              have hq : ¬ (sg = 6 ∧ E 2 i ≠ 3 ∧ malone E D i) := fun z => by omega
              have hm : mput D i = yset (yset D 2 i (D 2 i - 1)) 0 (D 1 i) (D 0 (D 1 i) + 1) := if_pos (by omega)
              exact Or.inl ⟨rfl, hq, by unfold mwork; rw [if_neg (by omega), if_pos (by omega), hm, ← w1, ← b1, ← b2]; exact rm_w (rm_m hr hi (by omega)), rfq_s (rfq_s (rfq_0 _) (by omega)) (by omega)⟩
      · skip
        refine y_push rfl ?_
        refine y_zret rfl rfl (by decide) ⟨_, rfl, ?_⟩
        have hq : ¬ (sg = 6 ∧ E 2 i ≠ 3 ∧ malone E D i) := fun z => by omega
        have hg : mgoal (E 2 i) (D 1 i) sg (D 5 0) (E 0 0) = D 1 i := by unfold mgoal; (repeat' split) <;> omega
        exact Or.inl ⟨rfl, hq, by unfold mwork; rw [if_neg (by omega), if_neg (by omega), if_neg (by omega), hg, yset_id]; exact hr, rfq_0 _⟩
      · skip
        refine y_aload rfl rfl rfl ?_
        refine y_gfr (t := 558) rfl rfl (by decide) rfl (by decide) ?_
        refine y_iload rfl rfl ?_
        refine y_push rfl ?_
        refine y_iast (n := 3) rfl rfl (by decide) rfl (by omega) ?_
        refine y_push rfl ?_
        refine y_zret rfl rfl (by decide) ⟨_, rfl, ?_⟩
        have hq : ¬ (sg = 6 ∧ E 2 i ≠ 3 ∧ malone E D i) := fun z => by omega
        exact Or.inl ⟨rfl, hq, by unfold mwork; rw [if_neg (by omega), if_neg (by omega), if_pos (by omega)]; exact rm_m hr hi (by omega), rfq_s (rfq_0 _) (by omega)⟩
      · skip
        refine y_iload rfl rfl ?_
        refine y_push rfl ?_
        refine y_iceq rfl (fun q196 => ?_) (fun q196 => ?_)
        · skip
          refine y_push rfl ?_
          refine y_goto rfl ?_
          refine y_zret rfl rfl (by decide) ⟨_, rfl, ?_⟩
          have hg : mgoal (E 2 i) (D 1 i) sg (D 5 0) (E 0 0) = D 1 i := by unfold mgoal; (repeat' split) <;> omega
          have hq : ¬ (sg = 6 ∧ E 2 i ≠ 3 ∧ malone E D i) := fun z => by first | exact q204 z.2.2 | (have := z.2.1; omega)
          exact Or.inl ⟨rfl, hq, by unfold mwork; rw [if_neg (by omega), if_neg (by omega), if_neg (by omega), hg, yset_id]; exact hr, rfq_0 _⟩
        · skip
          refine y_aload rfl rfl rfl ?_
          refine y_iload rfl rfl ?_
          refine y_vi (as := [(2, 547), (0, i)]) (S := []) rfl rfl rfl rfl rfl rfl (by decide) rfl (m_together hr he hd hn hi) ?_
          rintro _ _ ⟨rfl, rfl⟩
          refine y_ifeq rfl (fun q204 => ?_) (fun q204 => ?_)
          · skip
            replace q204 := yb_0.mp q204
            refine y_push rfl ?_
            refine y_zret rfl rfl (by decide) ⟨_, rfl, ?_⟩
            exact Or.inr ⟨rfl, ⟨by omega, by omega, Classical.byContradiction q204⟩, rfl⟩
          · skip
            replace q204 := yb_1.mp q204
            refine y_push rfl ?_
            refine y_goto rfl ?_
            refine y_zret rfl rfl (by decide) ⟨_, rfl, ?_⟩
            have hg : mgoal (E 2 i) (D 1 i) sg (D 5 0) (E 0 0) = D 1 i := by unfold mgoal; (repeat' split) <;> omega
            have hq : ¬ (sg = 6 ∧ E 2 i ≠ 3 ∧ malone E D i) := fun z => by first | exact q204 z.2.2 | (have := z.2.1; omega)
            exact Or.inl ⟨rfl, hq, by unfold mwork; rw [if_neg (by omega), if_neg (by omega), if_neg (by omega), hg, yset_id]; exact hr, rfq_0 _⟩
    · skip
      refine y_push rfl ?_
      refine y_goto rfl ?_
      refine y_istore (L' := [some (2, 547), some (0, i), some (0, sg), some (0, (σ 548 (11 + i))), some (0, 1)]) rfl rfl rfl rfl ?_
      refine y_iload rfl rfl ?_
      refine y_tsw7 rfl rfl (by decide) rfl rfl rfl rfl rfl rfl rfl rfl (fun q35 => ?_) (fun q35 => ?_) (fun q35 => ?_) (fun q35 => ?_) (fun q35 => ?_) (fun q35 => ?_) (fun q35 => ?_) (fun q35 => ?_)
      · skip
        refine y_push rfl ?_
        refine y_zret rfl rfl (by decide) ⟨_, rfl, ?_⟩
        have hq : ¬ (sg = 6 ∧ E 2 i ≠ 3 ∧ malone E D i) := fun z => by omega
        have hg : mgoal (E 2 i) (D 1 i) sg (D 5 0) (E 0 0) = D 1 i := by unfold mgoal; (repeat' split) <;> omega
        exact Or.inl ⟨rfl, hq, by unfold mwork; rw [if_neg (by omega), if_neg (by omega), if_neg (by omega), hg, yset_id]; exact hr, rfq_0 _⟩
      · skip
        refine y_aload rfl rfl rfl ?_
        refine y_iload rfl rfl ?_
        refine y_push rfl ?_
        refine y_vu (as := [(2, 547), (0, i), (0, (-1))]) (S := []) rfl rfl rfl rfl rfl rfl (by decide) rfl (n_moves0 hr he hd hn hi) ?_
        rintro σ' ⟨z1, z2⟩
        refine y_push rfl ?_
        refine y_zret rfl rfl (by decide) ⟨_, rfl, ?_⟩
        have hq : ¬ (sg = 6 ∧ E 2 i ≠ 3 ∧ malone E D i) := fun z => by omega
        exact Or.inl ⟨rfl, hq, by unfold mwork; rw [if_neg (by omega), if_neg (by omega), if_neg (by omega), show sg = 0 by omega]; exact z1, z2⟩
      · skip
        refine y_aload rfl rfl rfl ?_
        refine y_iload rfl rfl ?_
        refine y_push rfl ?_
        refine y_vu (as := [(2, 547), (0, i), (0, 1)]) (S := []) rfl rfl rfl rfl rfl rfl (by decide) rfl (n_moves1 hr he hd hn hi) ?_
        rintro σ' ⟨z1, z2⟩
        refine y_push rfl ?_
        refine y_zret rfl rfl (by decide) ⟨_, rfl, ?_⟩
        have hq : ¬ (sg = 6 ∧ E 2 i ≠ 3 ∧ malone E D i) := fun z => by omega
        exact Or.inl ⟨rfl, hq, by unfold mwork; rw [if_neg (by omega), if_neg (by omega), if_neg (by omega), show sg = 1 by omega]; exact z1, z2⟩
      · skip
        refine y_aload rfl rfl rfl ?_
        refine y_iload rfl rfl ?_
        refine y_iload rfl rfl ?_
        refine y_ifeq rfl (fun q96 => ?_) (fun q96 => ?_)
        · exfalso; omega
        · skip
          refine y_push rfl ?_
          refine y_goto rfl ?_
          refine y_vu (as := [(2, 547), (0, i), (0, 0)]) (S := []) rfl rfl rfl rfl rfl rfl (by decide) rfl (n_fetch (t := 0) hr he hd hn hi (by omega)) ?_
          rintro σ' ⟨z1, z2⟩
          refine y_push rfl ?_
          refine y_zret rfl rfl (by decide) ⟨_, rfl, ?_⟩
          have hq : ¬ (sg = 6 ∧ E 2 i ≠ 3 ∧ malone E D i) := fun z => by omega
          have hg : mgoal (E 2 i) (D 1 i) sg (D 5 0) (E 0 0) = D 1 i := by unfold mgoal; (repeat' split) <;> omega
          have hm : mfetch D i (0 : Int).toNat = D := rfl
          rw [hm] at z1
          exact Or.inl ⟨rfl, hq, by unfold mwork; rw [if_neg (by omega), if_neg (by omega), if_neg (by omega), hg, yset_id]; exact z1, z2⟩
      · skip
        refine y_iload rfl rfl ?_
        refine y_ifne rfl (fun q130 => ?_) (fun q130 => ?_)
        · skip
          refine y_push rfl ?_
          refine y_zret rfl rfl (by decide) ⟨_, rfl, ?_⟩
          have hq : ¬ (sg = 6 ∧ E 2 i ≠ 3 ∧ malone E D i) := fun z => by omega
          have hg : mgoal (E 2 i) (D 1 i) sg (D 5 0) (E 0 0) = D 1 i := by unfold mgoal; (repeat' split) <;> omega
          by_cases hrest : E 2 i = 5 ∧ D 5 0 % 7 = 6
          · exact Or.inl ⟨rfl, hq, by unfold mwork; rw [if_neg (by omega), if_neg (by omega), if_neg (by omega), hg, yset_id]; exact hr, rfq_0 _⟩
          · have hm : mput D i = D := if_neg (by omega)
            exact Or.inl ⟨rfl, hq, by unfold mwork; rw [if_neg (by omega), if_pos (by omega), hm]; exact hr, rfq_0 _⟩
        · exfalso; omega
      · skip
        refine y_push rfl ?_
        refine y_zret rfl rfl (by decide) ⟨_, rfl, ?_⟩
        have hq : ¬ (sg = 6 ∧ E 2 i ≠ 3 ∧ malone E D i) := fun z => by omega
        have hg : mgoal (E 2 i) (D 1 i) sg (D 5 0) (E 0 0) = D 1 i := by unfold mgoal; (repeat' split) <;> omega
        exact Or.inl ⟨rfl, hq, by unfold mwork; rw [if_neg (by omega), if_neg (by omega), if_neg (by omega), hg, yset_id]; exact hr, rfq_0 _⟩
      · skip
        refine y_aload rfl rfl rfl ?_
        refine y_gfr (t := 558) rfl rfl (by decide) rfl (by decide) ?_
        refine y_iload rfl rfl ?_
        refine y_push rfl ?_
        refine y_iast (n := 3) rfl rfl (by decide) rfl (by omega) ?_
        refine y_push rfl ?_
        refine y_zret rfl rfl (by decide) ⟨_, rfl, ?_⟩
        have hq : ¬ (sg = 6 ∧ E 2 i ≠ 3 ∧ malone E D i) := fun z => by omega
        exact Or.inl ⟨rfl, hq, by unfold mwork; rw [if_neg (by omega), if_neg (by omega), if_pos (by omega)]; exact rm_m hr hi (by omega), rfq_s (rfq_0 _) (by omega)⟩
      · skip
        refine y_iload rfl rfl ?_
        refine y_push rfl ?_
        refine y_iceq rfl (fun q196 => ?_) (fun q196 => ?_)
        · skip
          refine y_push rfl ?_
          refine y_goto rfl ?_
          refine y_zret rfl rfl (by decide) ⟨_, rfl, ?_⟩
          have hg : mgoal (E 2 i) (D 1 i) sg (D 5 0) (E 0 0) = D 1 i := by unfold mgoal; (repeat' split) <;> omega
          have hq : ¬ (sg = 6 ∧ E 2 i ≠ 3 ∧ malone E D i) := fun z => by first | exact q204 z.2.2 | (have := z.2.1; omega)
          exact Or.inl ⟨rfl, hq, by unfold mwork; rw [if_neg (by omega), if_neg (by omega), if_neg (by omega), hg, yset_id]; exact hr, rfq_0 _⟩
        · skip
          refine y_aload rfl rfl rfl ?_
          refine y_iload rfl rfl ?_
          refine y_vi (as := [(2, 547), (0, i)]) (S := []) rfl rfl rfl rfl rfl rfl (by decide) rfl (m_together hr he hd hn hi) ?_
          rintro _ _ ⟨rfl, rfl⟩
          refine y_ifeq rfl (fun q204 => ?_) (fun q204 => ?_)
          · skip
            replace q204 := yb_0.mp q204
            refine y_push rfl ?_
            refine y_zret rfl rfl (by decide) ⟨_, rfl, ?_⟩
            exact Or.inr ⟨rfl, ⟨by omega, by omega, Classical.byContradiction q204⟩, rfl⟩
          · skip
            replace q204 := yb_1.mp q204
            refine y_push rfl ?_
            refine y_goto rfl ?_
            refine y_zret rfl rfl (by decide) ⟨_, rfl, ?_⟩
            have hg : mgoal (E 2 i) (D 1 i) sg (D 5 0) (E 0 0) = D 1 i := by unfold mgoal; (repeat' split) <;> omega
            have hq : ¬ (sg = 6 ∧ E 2 i ≠ 3 ∧ malone E D i) := fun z => by first | exact q204 z.2.2 | (have := z.2.1; omega)
            exact Or.inl ⟨rfl, hq, by unfold mwork; rw [if_neg (by omega), if_neg (by omega), if_neg (by omega), hg, yset_id]; exact hr, rfq_0 _⟩
theorem nl_goStep {g : Launch × XG × va_G} {σ : YS} {E D : YS}  (he : eG E) : ∀ (nn : Nat) (τ : YS) (C : YS) (i : Int) (wt : Int), E 1 0 - i < (nn : Int) → (0 ≤ i ∧ i ≤ E 1 0) → (rm τ E C) → (dG E C) → (C = macts E (yset D 6 0 0) i.toNat) → (rfq E σ τ) → (0 ≤ C 5 0 ∧ C 5 0 < 1000000) → (wt = C 6 0) → YW g 58 4 [some (2, 547), some (0, wt), some (0, i), none, none] [] τ (fun rv σ' => ∃ b, rv = some (0, b) ∧ (rm σ' E (mstep E D) ∧ mstep E D 6 0 = b ∧ rfq E σ σ')) := by
  intro nn
  induction nn with
  | zero =>
    intro τ C i wt hn h0 h1 h2 h3 h4 h5 h6
    exfalso
    omega
  | succ nn ih =>
    intro τ C i wt hn h0 h1 h2 h3 h4 h5 h6
    have ⟨⟨f1, f2, f3⟩, f4, f5, f6⟩ := h1
    have ⟨e1, e2, e3⟩ := he
    refine y_iload rfl rfl ?_
    refine y_aload rfl rfl rfl ?_
    refine y_gfr (t := 548) rfl rfl (by decide) rfl (by decide) ?_
    refine y_push rfl ?_
    refine y_iald (v := (τ 548 10)) (n := 2108) rfl rfl (by decide) rfl (by decide) rfl ?_
    refine y_icge rfl (fun q12 => ?_) (fun q12 => ?_)
    · skip
      refine y_aload rfl rfl rfl ?_
      refine y_dup rfl rfl ?_
      refine y_gfi (v := (τ 547 18)) rfl rfl (by decide) rfl (by decide) rfl rfl ?_
      refine y_push rfl ?_
      refine y_iadd (v := ((τ 547 18) + 1)) rfl rfl (by omega) ?_
      refine y_pfi (j := 18) rfl rfl (by decide) rfl rfl rfl rfl rfl ?_
      refine y_iload rfl rfl ?_
      refine y_iret rfl rfl ⟨_, rfl, ?_⟩
      have hC : C = macts E (yset D 6 0 0) (E 1 0).toNat := by rw [h3, show i = E 1 0 by omega]
      have hR : rm (yset τ 547 18 (τ 547 18 + 1)) E (mstep E D) := by unfold mstep; rw [← hC, f3]; exact rm_num h1
      exact ⟨hR, by rw [h6]; unfold mstep; rw [yne (by omega) rfl, ← hC], rfq_s h4 (by omega)⟩
    · skip
      refine y_aload rfl rfl rfl ?_
      refine y_gfr (t := 558) rfl rfl (by decide) rfl (by decide) ?_
      refine y_iload rfl rfl ?_
      refine y_iald (v := (τ 558 i)) (n := 3) rfl rfl (by decide) rfl (by omega) rfl ?_
      refine y_ifne rfl (fun q21 => ?_) (fun q21 => ?_)
      · skip
        refine y_iinc (L' := [some (2, 547), some (0, wt), some (0, (i + 1)), none, none]) rfl rfl rfl rfl rfl (by omega) ?_
        refine y_goto rfl ?_
        refine ih τ C (i + 1) wt (by omega) (by omega) h1 h2 ?_ h4 h5 h6
        rw [macts_s (by omega), ← h3, if_neg]
        first
          | (have a4 := (f5 i (by omega) (by omega)).1.2.2.2; exact fun z => q21 (by omega))
          | exact fun z => q32 ((f6 i (by omega) (by omega)).mpr z.2)
      · skip
        refine y_aload rfl rfl rfl ?_
        refine y_gfi (v := (τ 547 19)) rfl rfl (by decide) rfl (by decide) rfl rfl ?_
        refine y_iload rfl rfl ?_
        refine y_si (as := [(0, (τ 547 19)), (0, i)]) (S := []) rfl rfl rfl rfl rfl rfl m_has ?_
        rintro _ _ ⟨rfl, rfl⟩
        refine y_ifeq rfl (fun q32 => ?_) (fun q32 => ?_)
        · skip
          replace q32 := yb_0.mp q32
          refine y_iinc (L' := [some (2, 547), some (0, wt), some (0, (i + 1)), none, none]) rfl rfl rfl rfl rfl (by omega) ?_
          refine y_goto rfl ?_
          refine ih τ C (i + 1) wt (by omega) (by omega) h1 h2 ?_ h4 h5 h6
          rw [macts_s (by omega), ← h3, if_neg]
          first
            | (have a4 := (f5 i (by omega) (by omega)).1.2.2.2; exact fun z => q21 (by omega))
            | exact fun z => q32 ((f6 i (by omega) (by omega)).mpr z.2)
        · skip
          replace q32 := yb_1.mp q32
          have ⟨⟨b1, b2, b3, b4⟩, ⟨b5, b6⟩, b7, b8⟩ := f5 i (by omega) (by omega)
          have ⟨⟨d1, d2⟩, ⟨d3, d4⟩, ⟨d5, d6⟩, d7⟩ := h2.2 i (by omega) (by omega)
          have ⟨⟨t1, t2⟩, ⟨t3, t4⟩, t5⟩ := e3 i (by omega) (by omega)
          have hz : C 4 i = 0 := by omega
          have hf := (by omega : 0 < E 3 i ∧ mfl E i = -1)
          have hth : mth E i := (f6 i (by omega) (by omega)).mp q32
          have hs : macts E (yset D 6 0 0) (i + 1).toNat = mact E C i := by rw [macts_s (by omega), ← h3, if_pos ⟨hz, hth⟩]
          refine y_aload rfl rfl rfl ?_
          refine y_gfr (t := 557) rfl rfl (by decide) rfl (by decide) ?_
          refine y_iload rfl rfl ?_
          refine y_iald (v := (τ 557 i)) (n := 3) rfl rfl (by decide) rfl (by omega) rfl ?_
          refine y_istore (L' := [some (2, 547), some (0, wt), some (0, i), some (0, (τ 557 i)), none]) rfl rfl rfl rfl ?_
          refine y_iload rfl rfl ?_
          refine y_aload rfl rfl rfl ?_
          refine y_gfr (t := 559) rfl rfl (by decide) rfl (by decide) ?_
          refine y_iload rfl rfl ?_
          refine y_iald (v := (τ 559 i)) (n := 3) rfl rfl (by decide) rfl (by omega) rfl ?_
          refine y_icge rfl (fun q49 => ?_) (fun q49 => ?_)
          · skip
            refine y_push rfl ?_
            refine y_istore (L' := [some (2, 547), some (0, wt), some (0, i), some (0, (τ 557 i)), some (0, (-1))]) rfl rfl rfl rfl ?_
            refine y_iload rfl rfl ?_
            refine y_push rfl ?_
            refine y_icne rfl (fun q72 => ?_) (fun q72 => ?_)
            · exfalso; omega
            · skip
              refine y_aload rfl rfl rfl ?_
              refine y_gfr (t := 558) rfl rfl (by decide) rfl (by decide) ?_
              refine y_iload rfl rfl ?_
              refine y_push rfl ?_
              refine y_iast (n := 3) rfl rfl (by decide) rfl (by omega) ?_
              refine y_goto rfl ?_
              refine y_iinc (L' := [some (2, 547), some (0, wt), some (0, (i + 1)), some (0, (τ 557 i)), some (0, (-1))]) rfl rfl rfl rfl rfl (by omega) ?_
              refine y_goto rfl ?_
              refine y_forget (M := [some (2, 547), some (0, wt), some (0, (i + 1)), none, none]) ⟨Or.inr rfl, ⟨Or.inr rfl, ⟨Or.inr rfl, ⟨Or.inl rfl, ⟨Or.inl rfl, trivial⟩⟩⟩⟩⟩ ?_
              refine ih (yset τ 558 i 1) (mact E C i) (i + 1) wt (by omega) (by omega) ?_ (dG_act h2 he ⟨by omega, by omega⟩ hz) hs.symm (rfq_s h4 (by omega)) (by rw [mact_k (by omega)]; exact h5) ?_
              · unfold mact
                rw [if_pos (by omega)]; exact rm_m h1 ⟨by omega, by omega⟩ (by omega)
              · unfold mact
                rw [if_pos (by omega)]; rw [yne (by omega) rfl]; exact h6
          · skip
            have hb := mfine hf.2 (j := C 3 i) (by omega) (by omega)
            have w3 : τ 560 (25 * i + τ 557 i) = msg E i (C 3 i) := by rw [b3]; exact b7 _ (by omega) (by omega)
            have w4 : msg E i (C 3 i) = 7 ∨ msg E i (C 3 i) = 8 → τ 561 (25 * i + τ 557 i) = mpa E i (C 3 i) := by intro z; rw [b3]; exact b8 hz _ (by omega) (by omega) z
            have w5 := t5 (C 3 i) (by omega) (by omega)
            refine y_aload rfl rfl rfl ?_
            refine y_gfr (t := 560) rfl rfl (by decide) rfl (by decide) ?_
            refine y_push rfl ?_
            refine y_iload rfl rfl ?_
            refine y_imul (v := (25 * i)) rfl rfl (by omega) ?_
            refine y_iload rfl rfl ?_
            refine y_iadd (v := ((25 * i) + (τ 557 i))) rfl rfl (by omega) ?_
            refine y_iald (v := (τ 560 ((25 * i) + (τ 557 i)))) (n := 75) rfl rfl (by decide) rfl (by omega) rfl ?_
            refine y_goto rfl ?_
            refine y_istore (L' := [some (2, 547), some (0, wt), some (0, i), some (0, (τ 557 i)), some (0, (τ 560 ((25 * i) + (τ 557 i))))]) rfl rfl rfl rfl ?_
            refine y_iload rfl rfl ?_
            refine y_push rfl ?_
            refine y_icne rfl (fun q72 => ?_) (fun q72 => ?_)
            · skip
              refine y_iload rfl rfl ?_
              refine y_push rfl ?_
              refine y_icne rfl (fun q89 => ?_) (fun q89 => ?_)
              · skip
                have hb2 := hb.2
                refine y_iload rfl rfl ?_
                refine y_push rfl ?_
                refine y_icne rfl (fun q145 => ?_) (fun q145 => ?_)
                · skip
                  refine y_aload rfl rfl rfl ?_
                  refine y_iload rfl rfl ?_
                  refine y_iload rfl rfl ?_
                  refine y_vi (as := [(2, 547), (0, i), (0, (τ 560 ((25 * i) + (τ 557 i))))]) (S := []) rfl rfl rfl rfl rfl rfl (by decide) rfl (n_does h1 he h2 h5 ⟨by omega, by omega⟩ (by omega)) ?_
                  rintro b_ σ' (⟨rfl, hq, z1, z2⟩ | ⟨rfl, hq, rfl⟩)
                  · skip
                    have wa : σ' 557 i = C 3 i := by rw [(z1.2.2.1 i (by omega) (by omega)).1.2.2.1, mwork_k (by omega)]
                    refine y_ifeq rfl (fun q175 => ?_) (fun q175 => ?_)
                    · exfalso; omega
                    · skip
                      refine y_aload rfl rfl rfl ?_
                      refine y_gfr (t := 557) rfl rfl (by decide) rfl (by decide) ?_
                      refine y_iload rfl rfl ?_
                      refine y_dup2 rfl rfl rfl ?_
                      refine y_iald (v := (σ' 557 i)) (n := 3) rfl rfl (by decide) rfl (by omega) rfl ?_
                      refine y_push rfl ?_
                      refine y_iadd (v := ((σ' 557 i) + 1)) rfl rfl (by omega) ?_
                      refine y_iast (n := 3) rfl rfl (by decide) rfl (by omega) ?_
                      refine y_goto rfl ?_
                      refine y_iinc (L' := [some (2, 547), some (0, wt), some (0, (i + 1)), some (0, (τ 557 i)), some (0, (τ 560 ((25 * i) + (τ 557 i))))]) rfl rfl rfl rfl rfl (by omega) ?_
                      refine y_goto rfl ?_
                      refine y_forget (M := [some (2, 547), some (0, wt), some (0, (i + 1)), none, none]) ⟨Or.inr rfl, ⟨Or.inr rfl, ⟨Or.inr rfl, ⟨Or.inl rfl, ⟨Or.inl rfl, trivial⟩⟩⟩⟩⟩ ?_
                      rw [w3] at z1
                      refine ih (yset σ' 557 i ((σ' 557 i) + 1)) (mact E C i) (i + 1) wt (by omega) (by omega) ?_ (dG_act h2 he ⟨by omega, by omega⟩ hz) hs.symm (rfq_s (rfq_t h4 z2) (by omega)) (by rw [mact_k (by omega)]; exact h5) ?_
                      · unfold mact
                        rw [if_neg (by omega), if_neg (by omega), if_neg (by omega), if_neg (by rw [← w3]; exact hq)]; rw [wa]; exact rm_m z1 ⟨by omega, by omega⟩ (by omega)
                      · unfold mact
                        rw [if_neg (by omega), if_neg (by omega), if_neg (by omega), if_neg (by rw [← w3]; exact hq)]; rw [yne (by omega) rfl, mwork_k (by omega)]; exact h6
                  · skip
                    refine y_ifeq rfl (fun q175 => ?_) (fun q175 => ?_)
                    · skip
                      refine y_iload rfl rfl ?_
                      refine y_push rfl ?_
                      refine y_iload rfl rfl ?_
                      refine y_ishl (v := (yshl 1 i)) rfl rfl ?_
                      refine y_ior (v := (yor wt (yshl 1 i))) rfl rfl ?_
                      refine y_istore (L' := [some (2, 547), some (0, (yor wt (yshl 1 i))), some (0, i), some (0, (τ 557 i)), some (0, (τ 560 ((25 * i) + (τ 557 i))))]) rfl rfl rfl rfl ?_
                      refine y_iinc (L' := [some (2, 547), some (0, (yor wt (yshl 1 i))), some (0, (i + 1)), some (0, (τ 557 i)), some (0, (τ 560 ((25 * i) + (τ 557 i))))]) rfl rfl rfl rfl rfl (by omega) ?_
                      refine y_goto rfl ?_
                      refine y_forget (M := [some (2, 547), some (0, (yor wt (yshl 1 i))), some (0, (i + 1)), none, none]) ⟨Or.inr rfl, ⟨Or.inr rfl, ⟨Or.inr rfl, ⟨Or.inl rfl, ⟨Or.inl rfl, trivial⟩⟩⟩⟩⟩ ?_
                      have hal : malone E C i := hq.2.2
                      have hk3 : E 2 i ≠ 3 := hq.2.1
                      refine ih τ (mact E C i) (i + 1) (yor wt (yshl 1 i)) (by omega) (by omega) ?_ (dG_act h2 he ⟨by omega, by omega⟩ hz) hs.symm h4 (by rw [mact_k (by omega)]; exact h5) ?_
                      · unfold mact
                        rw [if_neg (by omega), if_neg (by omega), if_neg (by omega), if_pos ⟨by omega, by omega, hal⟩]; exact rm_wait h1
                      · unfold mact
                        rw [if_neg (by omega), if_neg (by omega), if_neg (by omega), if_pos ⟨by omega, by omega, hal⟩]; rw [yeq, h6]
                    · exfalso; omega
                · skip
                  have hb3 := hb.2 (by omega)
                  have w7 := w4 (by omega)
                  refine y_aload rfl rfl rfl ?_
                  refine y_gfr (t := 557) rfl rfl (by decide) rfl (by decide) ?_
                  refine y_iload rfl rfl ?_
                  refine y_aload rfl rfl rfl ?_
                  refine y_gfr (t := 561) rfl rfl (by decide) rfl (by decide) ?_
                  refine y_push rfl ?_
                  refine y_iload rfl rfl ?_
                  refine y_imul (v := (25 * i)) rfl rfl (by omega) ?_
                  refine y_iload rfl rfl ?_
                  refine y_iadd (v := ((25 * i) + (τ 557 i))) rfl rfl (by omega) ?_
                  refine y_iald (v := (τ 561 ((25 * i) + (τ 557 i)))) (n := 75) rfl rfl (by decide) rfl (by omega) rfl ?_
                  refine y_iast (n := 3) rfl rfl (by decide) rfl (by omega) ?_
                  refine y_goto rfl ?_
                  refine y_iinc (L' := [some (2, 547), some (0, wt), some (0, (i + 1)), some (0, (τ 557 i)), some (0, (τ 560 ((25 * i) + (τ 557 i))))]) rfl rfl rfl rfl rfl (by omega) ?_
                  refine y_goto rfl ?_
                  refine y_forget (M := [some (2, 547), some (0, wt), some (0, (i + 1)), none, none]) ⟨Or.inr rfl, ⟨Or.inr rfl, ⟨Or.inr rfl, ⟨Or.inl rfl, ⟨Or.inl rfl, trivial⟩⟩⟩⟩⟩ ?_
                  refine ih (yset τ 557 i (τ 561 ((25 * i) + (τ 557 i)))) (mact E C i) (i + 1) wt (by omega) (by omega) ?_ (dG_act h2 he ⟨by omega, by omega⟩ hz) hs.symm (rfq_s h4 (by omega)) (by rw [mact_k (by omega)]; exact h5) ?_
                  · unfold mact
                    rw [if_neg (by omega)]; rw [if_neg (by omega), if_pos (by omega), w4 (by omega)]; exact rm_m h1 ⟨by omega, by omega⟩ (by omega)
                  · unfold mact
                    rw [if_neg (by omega)]; rw [if_neg (by omega), if_pos (by omega)]; rw [yne (by omega) rfl]; exact h6
              · skip
                have hb1 := hb.1 (by omega)
                have w6 : τ 560 (25 * i + τ 557 i + 1) = msg E i (C 3 i + 1) := by rw [b3, show 25 * i + C 3 i + 1 = 25 * i + (C 3 i + 1) by omega]; exact b7 _ (by omega) (by omega)
                refine y_aload rfl rfl rfl ?_
                refine y_gfr (t := 557) rfl rfl (by decide) rfl (by decide) ?_
                refine y_iload rfl rfl ?_
                refine y_aload rfl rfl rfl ?_
                refine y_iload rfl rfl ?_
                refine y_aload rfl rfl rfl ?_
                refine y_gfr (t := 560) rfl rfl (by decide) rfl (by decide) ?_
                refine y_push rfl ?_
                refine y_iload rfl rfl ?_
                refine y_imul (v := (25 * i)) rfl rfl (by omega) ?_
                refine y_iload rfl rfl ?_
                refine y_iadd (v := ((25 * i) + (τ 557 i))) rfl rfl (by omega) ?_
                refine y_push rfl ?_
                refine y_iadd (v := (((25 * i) + (τ 557 i)) + 1)) rfl rfl (by omega) ?_
                refine y_iald (v := (τ 560 (((25 * i) + (τ 557 i)) + 1))) (n := 75) rfl rfl (by decide) rfl (by omega) rfl ?_
                refine y_vi (as := [(2, 547), (0, i), (0, (τ 560 (((25 * i) + (τ 557 i)) + 1)))]) (S := [(0, i), (2, 557)]) rfl rfl rfl rfl rfl rfl (by decide) rfl (m_isSo h1 he h2 h5 ⟨by omega, by omega⟩) ?_
                rintro _ _ ⟨rfl, rfl⟩
                refine y_ifeq rfl (fun q115 => ?_) (fun q115 => ?_)
                · skip
                  replace q115 := yb_0.mp q115
                  rw [w6] at q115
                  have w7 := w4 (by omega)
                  refine y_aload rfl rfl rfl ?_
                  refine y_gfr (t := 561) rfl rfl (by decide) rfl (by decide) ?_
                  refine y_push rfl ?_
                  refine y_iload rfl rfl ?_
                  refine y_imul (v := (25 * i)) rfl rfl (by omega) ?_
                  refine y_iload rfl rfl ?_
                  refine y_iadd (v := ((25 * i) + (τ 557 i))) rfl rfl (by omega) ?_
                  refine y_iald (v := (τ 561 ((25 * i) + (τ 557 i)))) (n := 75) rfl rfl (by decide) rfl (by omega) rfl ?_
                  refine y_push rfl ?_
                  refine y_iadd (v := ((τ 561 ((25 * i) + (τ 557 i))) + 1)) rfl rfl (by omega) ?_
                  refine y_iast (n := 3) rfl rfl (by decide) rfl (by omega) ?_
                  refine y_goto rfl ?_
                  refine y_iinc (L' := [some (2, 547), some (0, wt), some (0, (i + 1)), some (0, (τ 557 i)), some (0, (τ 560 ((25 * i) + (τ 557 i))))]) rfl rfl rfl rfl rfl (by omega) ?_
                  refine y_goto rfl ?_
                  refine y_forget (M := [some (2, 547), some (0, wt), some (0, (i + 1)), none, none]) ⟨Or.inr rfl, ⟨Or.inr rfl, ⟨Or.inr rfl, ⟨Or.inl rfl, ⟨Or.inl rfl, trivial⟩⟩⟩⟩⟩ ?_
                  refine ih (yset τ 557 i ((τ 561 ((25 * i) + (τ 557 i))) + 1)) (mact E C i) (i + 1) wt (by omega) (by omega) ?_ (dG_act h2 he ⟨by omega, by omega⟩ hz) hs.symm (rfq_s h4 (by omega)) (by rw [mact_k (by omega)]; exact h5) ?_
                  · unfold mact
                    rw [if_neg (by omega)]; rw [if_pos (by omega), if_neg q115, w4 (by omega)]; exact rm_m h1 ⟨by omega, by omega⟩ (by omega)
                  · unfold mact
                    rw [if_neg (by omega)]; rw [if_pos (by omega), if_neg q115]; rw [yne (by omega) rfl]; exact h6
                · skip
                  replace q115 := yb_1.mp q115
                  rw [w6] at q115
                  refine y_iload rfl rfl ?_
                  refine y_push rfl ?_
                  refine y_iadd (v := ((τ 557 i) + 2)) rfl rfl (by omega) ?_
                  refine y_goto rfl ?_
                  refine y_iast (n := 3) rfl rfl (by decide) rfl (by omega) ?_
                  refine y_goto rfl ?_
                  refine y_iinc (L' := [some (2, 547), some (0, wt), some (0, (i + 1)), some (0, (τ 557 i)), some (0, (τ 560 ((25 * i) + (τ 557 i))))]) rfl rfl rfl rfl rfl (by omega) ?_
                  refine y_goto rfl ?_
                  refine y_forget (M := [some (2, 547), some (0, wt), some (0, (i + 1)), none, none]) ⟨Or.inr rfl, ⟨Or.inr rfl, ⟨Or.inr rfl, ⟨Or.inl rfl, ⟨Or.inl rfl, trivial⟩⟩⟩⟩⟩ ?_
                  refine ih (yset τ 557 i ((τ 557 i) + 2)) (mact E C i) (i + 1) wt (by omega) (by omega) ?_ (dG_act h2 he ⟨by omega, by omega⟩ hz) hs.symm (rfq_s h4 (by omega)) (by rw [mact_k (by omega)]; exact h5) ?_
                  · unfold mact
                    rw [if_neg (by omega)]; rw [if_pos (by omega), if_pos q115, b3]; exact rm_m h1 ⟨by omega, by omega⟩ (by omega)
                  · unfold mact
                    rw [if_neg (by omega)]; rw [if_pos (by omega), if_pos q115]; rw [yne (by omega) rfl]; exact h6
            · skip
              refine y_aload rfl rfl rfl ?_
              refine y_gfr (t := 558) rfl rfl (by decide) rfl (by decide) ?_
              refine y_iload rfl rfl ?_
              refine y_push rfl ?_
              refine y_iast (n := 3) rfl rfl (by decide) rfl (by omega) ?_
              refine y_goto rfl ?_
              refine y_iinc (L' := [some (2, 547), some (0, wt), some (0, (i + 1)), some (0, (τ 557 i)), some (0, (τ 560 ((25 * i) + (τ 557 i))))]) rfl rfl rfl rfl rfl (by omega) ?_
              refine y_goto rfl ?_
              refine y_forget (M := [some (2, 547), some (0, wt), some (0, (i + 1)), none, none]) ⟨Or.inr rfl, ⟨Or.inr rfl, ⟨Or.inr rfl, ⟨Or.inl rfl, ⟨Or.inl rfl, trivial⟩⟩⟩⟩⟩ ?_
              refine ih (yset τ 558 i 1) (mact E C i) (i + 1) wt (by omega) (by omega) ?_ (dG_act h2 he ⟨by omega, by omega⟩ hz) hs.symm (rfq_s h4 (by omega)) (by rw [mact_k (by omega)]; exact h5) ?_
              · unfold mact
                rw [if_pos (by omega)]; exact rm_m h1 ⟨by omega, by omega⟩ (by omega)
              · unfold mact
                rw [if_pos (by omega)]; rw [yne (by omega) rfl]; exact h6
theorem n_goStep {g : Launch × XG × va_G} {σ : YS} {E D : YS}  (hr : rm σ E D) (he : eG E) (hd : dG E D) (hn : 0 ≤ D 5 0 ∧ D 5 0 < 1000000) : YI g 58 [(2, 547)] σ (fun b σ' => rm σ' E (mstep E D) ∧ mstep E D 6 0 = b ∧ rfq E σ σ') := by
  refine y_start rfl rfl rfl ?_
  refine y_push rfl ?_
  refine y_istore (L' := [some (2, 547), some (0, 0), none, none, none]) rfl rfl rfl rfl ?_
  refine y_push rfl ?_
  refine y_istore (L' := [some (2, 547), some (0, 0), some (0, 0), none, none]) rfl rfl rfl rfl ?_
  exact nl_goStep he 4 σ (yset D 6 0 0) 0 0 (by have := he.2.1; omega) (by have := he.2.1; omega) (rm_wait hr) (dG_x hd (by omega)) rfl (rfq_0 _) (by rw [yne (by omega) rfl]; exact hn) (by rw [yeq])
theorem nl_keep2 {g : Launch × XG × va_G} {σ : YS} {t : Int} (ht : 0 ≤ t ∧ t ≤ 400) : ∀ (nn : Nat) (τ : YS) (k : Int), 3 - k < (nn : Int) → (0 ≤ k ∧ k ≤ 3) → (∀ c, 0 ≤ c → c < 9 → τ 563 (21 * t + c) = σ 554 c) → (∀ i, 0 ≤ i → i < k → ∀ r, 1 ≤ r → r ≤ 4 → τ 563 (21 * t + 6 + 3 * r + i) = σ (554 + r) i) → (∀ x y, ¬ (x = 563 ∧ 21 * t ≤ y ∧ y < 21 * t + 21) → τ x y = σ x y) → YW g 76 33 [some (2, 547), some (0, t), some (0, k)] [] τ (fun rv σ' => rv = none ∧ ((∀ c, 0 ≤ c → c < 9 → σ' 563 (21 * t + c) = σ 554 c) ∧ (∀ i, 0 ≤ i → i < 3 → ∀ r, 1 ≤ r → r ≤ 4 → σ' 563 (21 * t + 6 + 3 * r + i) = σ (554 + r) i) ∧ (∀ x y, ¬ (x = 563 ∧ 21 * t ≤ y ∧ y < 21 * t + 21) → σ' x y = σ x y))) := by
  intro nn
  induction nn with
  | zero =>
    intro τ k hn h0 h1 h2 h3
    exfalso
    omega
  | succ nn ih =>
    intro τ k hn h0 h1 h2 h3
    refine y_iload rfl rfl ?_
    refine y_push rfl ?_
    refine y_icge rfl (fun q35 => ?_) (fun q35 => ?_)
    · skip
      refine y_ret rfl rfl ⟨rfl, ?_⟩
      exact ⟨h1, fun i a b => h2 i a (by omega), h3⟩
    · skip
      refine y_aload rfl rfl rfl ?_
      refine y_gfr (t := 563) rfl rfl (by decide) rfl (by decide) ?_
      refine y_push rfl ?_
      refine y_iload rfl rfl ?_
      refine y_imul (v := (21 * t)) rfl rfl (by omega) ?_
      refine y_push rfl ?_
      refine y_iadd (v := ((21 * t) + 9)) rfl rfl (by omega) ?_
      refine y_iload rfl rfl ?_
      refine y_iadd (v := (((21 * t) + 9) + k)) rfl rfl (by omega) ?_
      refine y_aload rfl rfl rfl ?_
      refine y_gfr (t := 555) rfl rfl (by decide) rfl (by decide) ?_
      refine y_iload rfl rfl ?_
      refine y_iald (v := (τ 555 k)) (n := 3) rfl rfl (by decide) rfl (by omega) rfl ?_
      refine y_iast (n := 8421) rfl rfl (by decide) rfl (by omega) ?_
      refine y_aload rfl rfl rfl ?_
      refine y_gfr (t := 563) rfl rfl (by decide) rfl (by decide) ?_
      refine y_push rfl ?_
      refine y_iload rfl rfl ?_
      refine y_imul (v := (21 * t)) rfl rfl (by omega) ?_
      refine y_push rfl ?_
      refine y_iadd (v := ((21 * t) + 12)) rfl rfl (by omega) ?_
      refine y_iload rfl rfl ?_
      refine y_iadd (v := (((21 * t) + 12) + k)) rfl rfl (by omega) ?_
      refine y_aload rfl rfl rfl ?_
      refine y_gfr (t := 556) rfl rfl (by decide) rfl (by decide) ?_
      refine y_iload rfl rfl ?_
      refine y_iald (v := (τ 556 k)) (n := 3) rfl rfl (by decide) rfl (by omega) (yne (by omega) rfl) ?_
      refine y_iast (n := 8421) rfl rfl (by decide) rfl (by omega) ?_
      refine y_aload rfl rfl rfl ?_
      refine y_gfr (t := 563) rfl rfl (by decide) rfl (by decide) ?_
      refine y_push rfl ?_
      refine y_iload rfl rfl ?_
      refine y_imul (v := (21 * t)) rfl rfl (by omega) ?_
      refine y_push rfl ?_
      refine y_iadd (v := ((21 * t) + 15)) rfl rfl (by omega) ?_
      refine y_iload rfl rfl ?_
      refine y_iadd (v := (((21 * t) + 15) + k)) rfl rfl (by omega) ?_
      refine y_aload rfl rfl rfl ?_
      refine y_gfr (t := 557) rfl rfl (by decide) rfl (by decide) ?_
      refine y_iload rfl rfl ?_
      refine y_iald (v := (τ 557 k)) (n := 3) rfl rfl (by decide) rfl (by omega) (yne (by omega) (yne (by omega) rfl)) ?_
      refine y_iast (n := 8421) rfl rfl (by decide) rfl (by omega) ?_
      refine y_aload rfl rfl rfl ?_
      refine y_gfr (t := 563) rfl rfl (by decide) rfl (by decide) ?_
      refine y_push rfl ?_
      refine y_iload rfl rfl ?_
      refine y_imul (v := (21 * t)) rfl rfl (by omega) ?_
      refine y_push rfl ?_
      refine y_iadd (v := ((21 * t) + 18)) rfl rfl (by omega) ?_
      refine y_iload rfl rfl ?_
      refine y_iadd (v := (((21 * t) + 18) + k)) rfl rfl (by omega) ?_
      refine y_aload rfl rfl rfl ?_
      refine y_gfr (t := 558) rfl rfl (by decide) rfl (by decide) ?_
      refine y_iload rfl rfl ?_
      refine y_iald (v := (τ 558 k)) (n := 3) rfl rfl (by decide) rfl (by omega) (yne (by omega) (yne (by omega) (yne (by omega) rfl))) ?_
      refine y_iast (n := 8421) rfl rfl (by decide) rfl (by omega) ?_
      refine y_iinc (L' := [some (2, 547), some (0, t), some (0, (k + 1))]) rfl rfl rfl rfl rfl (by omega) ?_
      refine y_goto rfl ?_
      have v1 : τ 555 k = σ 555 k := h3 _ _ (by omega)
      have v2 : τ 556 k = σ 556 k := h3 _ _ (by omega)
      have v3 : τ 557 k = σ 557 k := h3 _ _ (by omega)
      have v4 : τ 558 k = σ 558 k := h3 _ _ (by omega)
      refine ih (yset (yset (yset (yset τ 563 (((21 * t) + 9) + k) (τ 555 k)) 563 (((21 * t) + 12) + k) (τ 556 k)) 563 (((21 * t) + 15) + k) (τ 557 k)) 563 (((21 * t) + 18) + k) (τ 558 k)) (k + 1) (by omega) (by omega) (fun c a b => by rw [yne (by omega) rfl, yne (by omega) rfl, yne (by omega) rfl, yne (by omega) rfl]; exact h1 c a b) (fun i a b r a' b' => ?_) (fun x y a => by rw [yne (by omega) rfl, yne (by omega) rfl, yne (by omega) rfl, yne (by omega) rfl]; exact h3 x y a)
      by_cases e : i = k
      · subst e
        rcases (by omega : r = 1 ∨ r = 2 ∨ r = 3 ∨ r = 4) with rfl | rfl | rfl | rfl
        · rw [yne (by omega) rfl, yne (by omega) rfl, yne (by omega) rfl, show 21 * t + 6 + 3 * 1 + i = 21 * t + 9 + i by omega, yeq]; exact v1
        · rw [yne (by omega) rfl, yne (by omega) rfl, show 21 * t + 6 + 3 * 2 + i = 21 * t + 12 + i by omega, yeq]; exact v2
        · rw [yne (by omega) rfl, show 21 * t + 6 + 3 * 3 + i = 21 * t + 15 + i by omega, yeq]; exact v3
        · rw [show 21 * t + 6 + 3 * 4 + i = 21 * t + 18 + i by omega, yeq]; exact v4
      · rw [yne (by omega) rfl, yne (by omega) rfl, yne (by omega) rfl, yne (by omega) rfl]; exact h2 i a (by omega) r a' b'
theorem nl_keep1 {g : Launch × XG × va_G} {σ : YS} {t : Int} (ht : 0 ≤ t ∧ t ≤ 400) : ∀ (nn : Nat) (τ : YS) (k : Int), 9 - k < (nn : Int) → (0 ≤ k ∧ k ≤ 9) → (∀ c, 0 ≤ c → c < k → τ 563 (21 * t + c) = σ 554 c) → (∀ x y, ¬ (x = 563 ∧ 21 * t ≤ y ∧ y < 21 * t + 21) → τ x y = σ x y) → YW g 76 2 [some (2, 547), some (0, t), some (0, k)] [] τ (fun rv σ' => rv = none ∧ ((∀ c, 0 ≤ c → c < 9 → σ' 563 (21 * t + c) = σ 554 c) ∧ (∀ i, 0 ≤ i → i < 3 → ∀ r, 1 ≤ r → r ≤ 4 → σ' 563 (21 * t + 6 + 3 * r + i) = σ (554 + r) i) ∧ (∀ x y, ¬ (x = 563 ∧ 21 * t ≤ y ∧ y < 21 * t + 21) → σ' x y = σ x y))) := by
  intro nn
  induction nn with
  | zero =>
    intro τ k hn h0 h1 h2
    exfalso
    omega
  | succ nn ih =>
    intro τ k hn h0 h1 h2
    refine y_iload rfl rfl ?_
    refine y_push rfl ?_
    refine y_icge rfl (fun q5 => ?_) (fun q5 => ?_)
    · skip
      refine y_push rfl ?_
      refine y_istore (L' := [some (2, 547), some (0, t), some (0, 0)]) rfl rfl rfl rfl ?_
      exact nl_keep2 ht 4 τ 0 (by omega) (by omega) (fun c a b => h1 c a (by omega)) (fun i a b => by omega) h2
    · skip
      refine y_aload rfl rfl rfl ?_
      refine y_gfr (t := 563) rfl rfl (by decide) rfl (by decide) ?_
      refine y_push rfl ?_
      refine y_iload rfl rfl ?_
      refine y_imul (v := (21 * t)) rfl rfl (by omega) ?_
      refine y_iload rfl rfl ?_
      refine y_iadd (v := ((21 * t) + k)) rfl rfl (by omega) ?_
      refine y_aload rfl rfl rfl ?_
      refine y_gfr (t := 554) rfl rfl (by decide) rfl (by decide) ?_
      refine y_iload rfl rfl ?_
      refine y_iald (v := (τ 554 k)) (n := 9) rfl rfl (by decide) rfl (by omega) rfl ?_
      refine y_iast (n := 8421) rfl rfl (by decide) rfl (by omega) ?_
      refine y_iinc (L' := [some (2, 547), some (0, t), some (0, (k + 1))]) rfl rfl rfl rfl rfl (by omega) ?_
      refine y_goto rfl ?_
      have v1 : τ 554 k = σ 554 k := h2 _ _ (by omega)
      refine ih (yset τ 563 ((21 * t) + k) (τ 554 k)) (k + 1) (by omega) (by omega) (fun c a b => ?_) (fun x y a => by rw [yne (by omega) rfl]; exact h2 x y a)
      by_cases e : c = k
      · subst e; rw [yeq]; exact v1
      · rw [yne (by omega) rfl]; exact h1 c a (by omega)
theorem n_keepState {g : Launch × XG × va_G} {σ : YS} {t : Int} (ht : 0 ≤ t ∧ t ≤ 400) : YU g 76 [(2, 547), (0, t)] σ (fun σ' => (∀ c, 0 ≤ c → c < 9 → σ' 563 (21 * t + c) = σ 554 c) ∧ (∀ i, 0 ≤ i → i < 3 → ∀ r, 1 ≤ r → r ≤ 4 → σ' 563 (21 * t + 6 + 3 * r + i) = σ (554 + r) i) ∧ (∀ x y, ¬ (x = 563 ∧ 21 * t ≤ y ∧ y < 21 * t + 21) → σ' x y = σ x y)) := by
  refine y_start rfl rfl rfl ?_
  refine y_push rfl ?_
  refine y_istore (L' := [some (2, 547), some (0, t), some (0, 0)]) rfl rfl rfl rfl ?_
  exact nl_keep1 ht 10 σ 0 (by omega) (by omega) (fun c a b => by omega) (fun _ _ _ => rfl)
theorem nl_alike {g : Launch × XG × va_G} {σ : YS} {s t : Int} (hs : 0 ≤ s ∧ s < t) (ht : t ≤ 400) : ∀ (nn : Nat) (k : Int) (d : Int), 21 - k < (nn : Int) → (0 ≤ k ∧ k ≤ 21) → ((d = 1 ∧ (t - s) % 14 = 0 ∧ (∀ c, 0 ≤ c → c < k → σ 563 (21 * s + c) = σ 563 (21 * t + c))) ∨ (d = 0 ∧ ¬ ((t - s) % 14 = 0 ∧ (∀ c, 0 ≤ c → c < 21 → σ 563 (21 * s + c) = σ 563 (21 * t + c))))) → YW g 77 18 [some (2, 547), some (0, s), some (0, t), some (0, d), some (0, k)] [] σ (fun rv σ' => ∃ b, rv = some (0, b) ∧ (((b = 1 ∧ (t - s) % 14 = 0 ∧ (∀ c, 0 ≤ c → c < 21 → σ 563 (21 * s + c) = σ 563 (21 * t + c))) ∨ (b = 0 ∧ ¬ ((t - s) % 14 = 0 ∧ (∀ c, 0 ≤ c → c < 21 → σ 563 (21 * s + c) = σ 563 (21 * t + c))))) ∧ σ = σ')) := by
  intro nn
  induction nn with
  | zero =>
    intro k d hn h0 h1
    exfalso
    omega
  | succ nn ih =>
    intro k d hn h0 h1
    refine y_iload rfl rfl ?_
    refine y_push rfl ?_
    refine y_icge rfl (fun q22 => ?_) (fun q22 => ?_)
    · skip
      refine y_iload rfl rfl ?_
      refine y_zret rfl rfl (by rcases h1 with z | z <;> omega) ⟨_, rfl, ?_⟩
      refine ⟨?_, rfl⟩
      rcases h1 with ⟨z1, z2, z3⟩ | ⟨z1, z2⟩
      · first
          | exact Or.inl ⟨z1, z2, fun c a b => z3 c a (by omega)⟩
          | (exfalso; omega)
      · exact Or.inr ⟨z1, z2⟩
    · skip
      refine y_iload rfl rfl ?_
      refine y_ifeq rfl (fun q26 => ?_) (fun q26 => ?_)
      · skip
        refine y_iload rfl rfl ?_
        refine y_zret rfl rfl (by rcases h1 with z | z <;> omega) ⟨_, rfl, ?_⟩
        refine ⟨?_, rfl⟩
        rcases h1 with ⟨z1, z2, z3⟩ | ⟨z1, z2⟩
        · first
            | exact Or.inl ⟨z1, z2, fun c a b => z3 c a (by omega)⟩
            | (exfalso; omega)
        · exact Or.inr ⟨z1, z2⟩
      · skip
        refine y_aload rfl rfl rfl ?_
        refine y_gfr (t := 563) rfl rfl (by decide) rfl (by decide) ?_
        refine y_push rfl ?_
        refine y_iload rfl rfl ?_
        refine y_imul (v := (21 * s)) rfl rfl (by omega) ?_
        refine y_iload rfl rfl ?_
        refine y_iadd (v := ((21 * s) + k)) rfl rfl (by omega) ?_
        refine y_iald (v := (σ 563 ((21 * s) + k))) (n := 8421) rfl rfl (by decide) rfl (by omega) rfl ?_
        refine y_aload rfl rfl rfl ?_
        refine y_gfr (t := 563) rfl rfl (by decide) rfl (by decide) ?_
        refine y_push rfl ?_
        refine y_iload rfl rfl ?_
        refine y_imul (v := (21 * t)) rfl rfl (by omega) ?_
        refine y_iload rfl rfl ?_
        refine y_iadd (v := ((21 * t) + k)) rfl rfl (by omega) ?_
        refine y_iald (v := (σ 563 ((21 * t) + k))) (n := 8421) rfl rfl (by decide) rfl (by omega) rfl ?_
        refine y_icne rfl (fun q53 => ?_) (fun q53 => ?_)
        · skip
          refine y_push rfl ?_
          refine y_istore (L' := [some (2, 547), some (0, s), some (0, t), some (0, 0), some (0, k)]) rfl rfl rfl rfl ?_
          refine y_iinc (L' := [some (2, 547), some (0, s), some (0, t), some (0, 0), some (0, (k + 1))]) rfl rfl rfl rfl rfl (by omega) ?_
          refine y_goto rfl ?_
          exact ih (k + 1) 0 (by omega) (by omega) (Or.inr ⟨rfl, fun z => q53 (z.2 k (by omega) (by omega))⟩)
        · skip
          refine y_push rfl ?_
          refine y_goto rfl ?_
          refine y_istore (L' := [some (2, 547), some (0, s), some (0, t), some (0, 1), some (0, k)]) rfl rfl rfl rfl ?_
          refine y_iinc (L' := [some (2, 547), some (0, s), some (0, t), some (0, 1), some (0, (k + 1))]) rfl rfl rfl rfl rfl (by omega) ?_
          refine y_goto rfl ?_
          refine ih (k + 1) 1 (by omega) (by omega) (Or.inl ⟨rfl, ?_, fun c a b => ?_⟩)
          · rcases h1 with ⟨z1, z2, z3⟩ | ⟨z1, z2⟩
            · exact z2
            · exfalso; omega
          · by_cases e : c = k
            · subst e; exact q53
            · rcases h1 with ⟨z1, z2, z3⟩ | ⟨z1, z2⟩
              · exact z3 c a (by omega)
              · exfalso; omega
theorem n_isAlike {g : Launch × XG × va_G} {σ : YS} {s t : Int} (hs : 0 ≤ s ∧ s < t) (ht : t ≤ 400) : YI g 77 [(2, 547), (0, s), (0, t)] σ (fun b σ' => ((b = 1 ∧ (t - s) % 14 = 0 ∧ (∀ c, 0 ≤ c → c < 21 → σ 563 (21 * s + c) = σ 563 (21 * t + c))) ∨ (b = 0 ∧ ¬ ((t - s) % 14 = 0 ∧ (∀ c, 0 ≤ c → c < 21 → σ 563 (21 * s + c) = σ 563 (21 * t + c))))) ∧ σ = σ') := by
  refine y_start rfl rfl rfl ?_
  refine y_iload rfl rfl ?_
  refine y_iload rfl rfl ?_
  refine y_isub (v := (t - s)) rfl rfl (by omega) ?_
  refine y_push rfl ?_
  refine y_irem (v := ((t - s) % 14)) rfl rfl (by omega) ?_
  refine y_ifne rfl (fun q6 => ?_) (fun q6 => ?_)
  · skip
    refine y_push rfl ?_
    refine y_istore (L' := [some (2, 547), some (0, s), some (0, t), some (0, 0), none]) rfl rfl rfl rfl ?_
    refine y_push rfl ?_
    refine y_istore (L' := [some (2, 547), some (0, s), some (0, t), some (0, 0), some (0, 0)]) rfl rfl rfl rfl ?_
    exact nl_alike hs ht 22 0 0 (by omega) (by omega) (Or.inr ⟨rfl, fun z => by omega⟩)
  · skip
    refine y_push rfl ?_
    refine y_goto rfl ?_
    refine y_istore (L' := [some (2, 547), some (0, s), some (0, t), some (0, 1), none]) rfl rfl rfl rfl ?_
    refine y_push rfl ?_
    refine y_istore (L' := [some (2, 547), some (0, s), some (0, t), some (0, 1), some (0, 0)]) rfl rfl rfl rfl ?_
    exact nl_alike hs ht 22 0 1 (by omega) (by omega) (Or.inl ⟨rfl, by omega, fun c a b => by omega⟩)
theorem nl_again3 {g : Launch × XG × va_G} {σ : YS} {Z : YZ} {I : Int → YZ} {M : YS} {N : Int} {τ : YS} {q t s : Int} (hx : mW σ Z I M) (hg : wG Z I M N) (hN : N < 100000) (hq : 0 ≤ q ∧ q ≤ 2) (hs : 0 ≤ s ∧ s < t) (ht : 1 ≤ t ∧ t ≤ 400) (hf : mfs σ τ) (hw : ∀ u, 0 ≤ u → u < t → τ 564 u = (msteps (Z 0) (Z 1) (u + 1).toNat) 6 0) (ha : alk (Z 0) (Z 1) s t) (hno : ∀ t', 1 ≤ t' → t' < t → ∀ s', 0 ≤ s' → s' < t' → ¬ alk (Z 0) (Z 1) s' t') (hfs : ∀ s', 0 ≤ s' → s' < s → ¬ alk (Z 0) (Z 1) s' t) : ∀ (nn : Nat) (k : Int) (d : Int), t - k < (nn : Int) → (s ≤ k ∧ k ≤ t) → (d = wand (τ 564) s (k - s).toNat) → YW g 75 75 [some (2, 547), some (0, q), some (0, t), some (0, s), some (0, d), some (0, k)] [] τ (fun rv σ' => ∃ b, rv = some (0, b) ∧ ((if 0 ≤ q ∧ q ≤ 2 then kag (Z 0) (Z 1) q b ∧ mW σ' Z I M else b = -10 ∧ mW σ' Z I (bump M 0)) ∧ cfr σ σ')) := by
  intro nn
  induction nn with
  | zero =>
    intro k d hn h0 h1
    exfalso
    omega
  | succ nn ih =>
    intro k d hn h0 h1
    refine y_iload rfl rfl ?_
    refine y_iload rfl rfl ?_
    refine y_icge rfl (fun q78 => ?_) (fun q78 => ?_)
    · skip
      refine y_iload rfl rfl ?_
      refine y_ifne rfl (fun q100 => ?_) (fun q100 => ?_)
      · skip
        refine y_iload rfl rfl ?_
        refine y_push rfl ?_
        refine y_icne rfl (fun q109 => ?_) (fun q109 => ?_)
        · skip
          refine y_iload rfl rfl ?_
          refine y_iret rfl rfl ⟨_, rfl, ?_⟩
          refine ⟨?_, fun x y a => hf x y (by omega)⟩
          rw [if_pos hq]
          exact ⟨Or.inl ⟨t, s, by omega, hs, ha, hno, hfs, by rw [if_neg (by omega), if_neg (by omega), h1, show k = t by omega]; exact wand_cong _ (fun j hj => hw (s + j) (by omega) (by omega))⟩, mW_mfs hg hx hf⟩
        · skip
          refine y_iload rfl rfl ?_
          refine y_goto rfl ?_
          refine y_iret rfl rfl ⟨_, rfl, ?_⟩
          refine ⟨?_, fun x y a => hf x y (by omega)⟩
          rw [if_pos hq]
          exact ⟨Or.inl ⟨t, s, by omega, hs, ha, hno, hfs, by rw [if_neg (by omega), if_pos (by omega)]⟩, mW_mfs hg hx hf⟩
      · skip
        refine y_iload rfl rfl ?_
        refine y_goto rfl ?_
        refine y_iret rfl rfl ⟨_, rfl, ?_⟩
        refine ⟨?_, fun x y a => hf x y (by omega)⟩
        rw [if_pos hq]
        exact ⟨Or.inl ⟨t, s, by omega, hs, ha, hno, hfs, by rw [if_pos (by omega)]⟩, mW_mfs hg hx hf⟩
    · skip
      refine y_iload rfl rfl ?_
      refine y_aload rfl rfl rfl ?_
      refine y_gfr (t := 564) rfl rfl (by decide) rfl (by decide) ?_
      refine y_iload rfl rfl ?_
      refine y_iald (v := (τ 564 k)) (n := 401) rfl rfl (by decide) rfl (by omega) rfl ?_
      refine y_iand (v := (yand d (τ 564 k))) rfl rfl ?_
      refine y_istore (L' := [some (2, 547), some (0, q), some (0, t), some (0, s), some (0, (yand d (τ 564 k))), some (0, k)]) rfl rfl rfl rfl ?_
      refine y_iinc (L' := [some (2, 547), some (0, q), some (0, t), some (0, s), some (0, (yand d (τ 564 k))), some (0, (k + 1))]) rfl rfl rfl rfl rfl (by omega) ?_
      refine y_goto rfl ?_
      refine ih (k + 1) _ (by omega) (by omega) ?_
      rw [show (k + 1 - s).toNat = (k - s).toNat + 1 by omega]
      show _ = yand (wand (τ 564) s (k - s).toNat) (τ 564 (s + ((k - s).toNat : Int)))
      rw [← h1, show s + ((k - s).toNat : Int) = k by omega]
theorem nl_again2 {g : Launch × XG × va_G} {σ : YS} {Z : YZ} {I : Int → YZ} {M : YS} {N : Int}  {q t : Int} {hh : Int → Int → Int} {nn0 : Nat} (ihO : ∀ (τ : YS) (t : Int), 402 - t < (nn0 : Int) → (1 ≤ t ∧ t ≤ 401) → rm τ (Z 0) (msteps (Z 0) (Z 1) (t - 1).toNat) → mfs σ τ → (∀ i, Z 0 1 0 ≤ i → i < 3 → ∀ r, 1 ≤ r → r ≤ 4 → τ (554 + r) i = hh r i) → (∀ u, 0 ≤ u → u < t → mrw τ u (Z 0) (msteps (Z 0) (Z 1) u.toNat) hh) → (∀ u, 0 ≤ u → u < t - 1 → τ 564 u = (msteps (Z 0) (Z 1) (u + 1).toNat) 6 0) → (∀ t', 1 ≤ t' → t' < t → ∀ s', 0 ≤ s' → s' < t' → ¬ alk (Z 0) (Z 1) s' t') → YW g 75 28 [some (2, 547), some (0, q), some (0, t), none, none, none] [] τ (fun rv σ' => ∃ b, rv = some (0, b) ∧ ((if 0 ≤ q ∧ q ≤ 2 then kag (Z 0) (Z 1) q b ∧ mW σ' Z I M else b = -10 ∧ mW σ' Z I (bump M 0)) ∧ cfr σ σ'))) (hx : mW σ Z I M) (hg : wG Z I M N) (hN : N < 100000) (hq : 0 ≤ q ∧ q ≤ 2) (ht : 1 ≤ t ∧ t ≤ 400) (hnn : 402 - t < (nn0 : Int) + 1) {τ : YS} (h1 : rm τ (Z 0) (msteps (Z 0) (Z 1) t.toNat)) (h2 : mfs σ τ) (h3 : ∀ i, Z 0 1 0 ≤ i → i < 3 → ∀ r, 1 ≤ r → r ≤ 4 → τ (554 + r) i = hh r i) (h4 : ∀ u, 0 ≤ u → u < t + 1 → mrw τ u (Z 0) (msteps (Z 0) (Z 1) u.toNat) hh) (h5 : ∀ u, 0 ≤ u → u < t → τ 564 u = (msteps (Z 0) (Z 1) (u + 1).toNat) 6 0) (h6 : ∀ t', 1 ≤ t' → t' < t → ∀ s', 0 ≤ s' → s' < t' → ¬ alk (Z 0) (Z 1) s' t') : ∀ (nn : Nat) (s : Int), t - s < (nn : Int) → (0 ≤ s ∧ s ≤ t) → (∀ s', 0 ≤ s' → s' < s → ¬ alk (Z 0) (Z 1) s' t) → YW g 75 54 [some (2, 547), some (0, q), some (0, t), some (0, s), none, none] [] τ (fun rv σ' => ∃ b, rv = some (0, b) ∧ ((if 0 ≤ q ∧ q ≤ 2 then kag (Z 0) (Z 1) q b ∧ mW σ' Z I M else b = -10 ∧ mW σ' Z I (bump M 0)) ∧ cfr σ σ')) := by
  intro nn
  induction nn with
  | zero =>
    intro s hn h0 h1
    exfalso
    omega
  | succ nn ih =>
    intro s hn h0 g1
    refine y_iload rfl rfl ?_
    refine y_iload rfl rfl ?_
    refine y_icge rfl (fun q56 => ?_) (fun q56 => ?_)
    · skip
      refine y_iinc (L' := [some (2, 547), some (0, q), some (0, (t + 1)), some (0, s), none, none]) rfl rfl rfl rfl rfl (by omega) ?_
      refine y_goto rfl ?_
      refine y_forget (M := [some (2, 547), some (0, q), some (0, (t + 1)), none, none, none]) ⟨Or.inr rfl, ⟨Or.inr rfl, ⟨Or.inr rfl, ⟨Or.inl rfl, ⟨Or.inl rfl, ⟨Or.inl rfl, trivial⟩⟩⟩⟩⟩⟩ ?_
      refine y_forget (M := [some (2, 547), some (0, q), some (0, (t + 1)), none, none, none]) ⟨Or.inr rfl, Or.inr rfl, Or.inr rfl, Or.inl rfl, Or.inl rfl, Or.inl rfl, trivial⟩ ?_
      refine ihO τ (t + 1) (by omega) (by omega) (by rw [show t + 1 - 1 = t by omega]; exact h1) h2 h3 h4 (by rw [show t + 1 - 1 = t by omega]; exact h5) (fun t' a b s' c d z => ?_)
      by_cases e : t' = t
      · subst e; exact g1 s' c (by omega) z
      · exact h6 t' a (by omega) s' c d z
    · skip
      refine y_aload rfl rfl rfl ?_
      refine y_iload rfl rfl ?_
      refine y_iload rfl rfl ?_
      refine y_vi (as := [(2, 547), (0, s), (0, t)]) (S := []) rfl rfl rfl rfl rfl rfl (by decide) rfl (n_isAlike (by omega) (by omega)) ?_
      rintro b_ _ ⟨hb, rfl⟩
      refine y_ifeq rfl (fun q65 => ?_) (fun q65 => ?_)
      · skip
        refine y_iinc (L' := [some (2, 547), some (0, q), some (0, t), some (0, (s + 1)), none, none]) rfl rfl rfl rfl rfl (by omega) ?_
        refine y_goto rfl ?_
        have iff_ : ((t - s) % 14 = 0 ∧ (∀ c, 0 ≤ c → c < 21 → τ 563 (21 * s + c) = τ 563 (21 * t + c))) ↔ alk (Z 0) (Z 1) s t := by
          have e := mrw_eq hg.1.1.2.1 (h4 s (by omega) (by omega)) (h4 t (by omega) (by omega))
          unfold alk
          rw [e]
          constructor
          · rintro ⟨a, b⟩; exact ⟨by omega, b⟩
          · rintro ⟨a, b⟩; exact ⟨by omega, b⟩
        rcases hb with ⟨z, _⟩ | ⟨_, nz⟩
        · exfalso; omega
        refine ih (s + 1) (by omega) (by omega) (fun s' a b z => ?_)
        by_cases e : s' = s
        · subst e; exact nz (iff_.mpr z)
        · exact g1 s' a (by omega) z
      · skip
        refine y_push rfl ?_
        refine y_istore (L' := [some (2, 547), some (0, q), some (0, t), some (0, s), some (0, 7), none]) rfl rfl rfl rfl ?_
        refine y_iload rfl rfl ?_
        refine y_istore (L' := [some (2, 547), some (0, q), some (0, t), some (0, s), some (0, 7), some (0, s)]) rfl rfl rfl rfl ?_
        have iff_ : ((t - s) % 14 = 0 ∧ (∀ c, 0 ≤ c → c < 21 → τ 563 (21 * s + c) = τ 563 (21 * t + c))) ↔ alk (Z 0) (Z 1) s t := by
          have e := mrw_eq hg.1.1.2.1 (h4 s (by omega) (by omega)) (h4 t (by omega) (by omega))
          unfold alk
          rw [e]
          constructor
          · rintro ⟨a, b⟩; exact ⟨by omega, b⟩
          · rintro ⟨a, b⟩; exact ⟨by omega, b⟩
        rcases hb with ⟨_, nz⟩ | ⟨z, _⟩
        · exact nl_again3 hx hg hN hq (by omega) (by omega) h2 h5 (iff_.mp nz) h6 g1 402 s 7 (by omega) (by omega) (by rw [Int.sub_self]; rfl)
        · exfalso; omega
theorem nl_again1 {g : Launch × XG × va_G} {σ : YS} {Z : YZ} {I : Int → YZ} {M : YS} {N : Int} {q : Int} {hh : Int → Int → Int}  (hx : mW σ Z I M) (hg : wG Z I M N) (hN : N < 100000) (hq : 0 ≤ q ∧ q ≤ 2) : ∀ (nn : Nat) (τ : YS) (t : Int), 402 - t < (nn : Int) → (1 ≤ t ∧ t ≤ 401) → (rm τ (Z 0) (msteps (Z 0) (Z 1) (t - 1).toNat)) → (mfs σ τ) → (∀ i, Z 0 1 0 ≤ i → i < 3 → ∀ r, 1 ≤ r → r ≤ 4 → τ (554 + r) i = hh r i) → (∀ u, 0 ≤ u → u < t → mrw τ u (Z 0) (msteps (Z 0) (Z 1) u.toNat) hh) → (∀ u, 0 ≤ u → u < t - 1 → τ 564 u = (msteps (Z 0) (Z 1) (u + 1).toNat) 6 0) → (∀ t', 1 ≤ t' → t' < t → ∀ s', 0 ≤ s' → s' < t' → ¬ alk (Z 0) (Z 1) s' t') → YW g 75 28 [some (2, 547), some (0, q), some (0, t), none, none, none] [] τ (fun rv σ' => ∃ b, rv = some (0, b) ∧ ((if 0 ≤ q ∧ q ≤ 2 then kag (Z 0) (Z 1) q b ∧ mW σ' Z I M else b = -10 ∧ mW σ' Z I (bump M 0)) ∧ cfr σ σ')) := by
  intro nn
  induction nn with
  | zero =>
    intro τ t hn h0 h1 h2 h3 h4 h5 h6
    exfalso
    omega
  | succ nn ih =>
    intro τ t hn h0 h1 h2 h3 h4 h5 h6
    refine y_iload rfl rfl ?_
    refine y_push rfl ?_
    refine y_icgt rfl (fun q32 => ?_) (fun q32 => ?_)
    · skip
      refine y_push rfl ?_
      refine y_iret rfl rfl ⟨_, rfl, ?_⟩
      refine ⟨?_, fun x y a => h2 x y (by omega)⟩
      rw [if_pos hq]
      exact ⟨Or.inr ⟨fun t' a b => h6 t' a (by omega), rfl⟩, mW_mfs hg hx h2⟩
    · skip
      refine y_aload rfl rfl rfl ?_
      refine y_gfr (t := 564) rfl rfl (by decide) rfl (by decide) ?_
      refine y_iload rfl rfl ?_
      refine y_push rfl ?_
      refine y_isub (v := (t - 1)) rfl rfl (by omega) ?_
      refine y_aload rfl rfl rfl ?_
      refine y_vi (as := [(2, 547)]) (S := [(0, (t - 1)), (2, 564)]) rfl rfl rfl rfl rfl rfl (by decide) rfl (n_goStep h1 hg.1.1 (dG_steps hg.1.2.1 hg.1.1 _) (by rw [msteps_5]; have := hg.1.2.2.1; omega)) ?_
      rintro _ σ1 ⟨y1, rfl, y2⟩
      refine y_iast (n := 401) rfl rfl (by decide) rfl (by omega) ?_
      refine y_aload rfl rfl rfl ?_
      refine y_iload rfl rfl ?_
      refine y_vu (as := [(2, 547), (0, t)]) (S := []) rfl rfl rfl rfl rfl rfl (by decide) rfl (n_keepState (by omega)) ?_
      rintro σ2 ⟨k1, k2, k3⟩
      refine y_push rfl ?_
      refine y_istore (L' := [some (2, 547), some (0, q), some (0, t), some (0, 0), none, none]) rfl rfl rfl rfl ?_
      have mt : (msteps (Z 0) (Z 1) t.toNat) = mstep (Z 0) (msteps (Z 0) (Z 1) (t - 1).toNat) := by rw [show t.toNat = (t - 1).toNat + 1 by omega]; rfl
      have em := hg.1.1.2.1
      have kx : ∀ x y, x ≠ 563 → σ2 x y = yset σ1 564 (t - 1) (mstep (Z 0) (msteps (Z 0) (Z 1) (t - 1).toNat) 6 0) x y := fun x y a => k3 x y (by omega)
      have r1 : rm (yset σ1 564 (t - 1) (mstep (Z 0) (msteps (Z 0) (Z 1) (t - 1).toNat) 6 0)) (Z 0) (mstep (Z 0) (msteps (Z 0) (Z 1) (t - 1).toNat)) := rm_other (x0 := 564) y1 (by omega) (fun x y a => yne (by omega) rfl)
      have r2 : rm σ2 (Z 0) (msteps (Z 0) (Z 1) t.toNat) := by rw [mt]; exact rm_other (x0 := 563) r1 (by omega) kx
      have c2 : ∀ i, Z 0 1 0 ≤ i → i < 3 → ∀ r, 1 ≤ r → r ≤ 4 → σ2 (554 + r) i = hh r i := fun i a b r a' b' => by
        rw [kx _ _ (by omega), yne (by omega) rfl, y2 _ _ (by omega) (by omega) (by omega)]; exact h3 i a b r a' b'
      have y9 : ∀ y, σ1 563 y = τ 563 y := fun y => y2 _ _ (by omega) (by omega) (by omega)
      have w2 : ∀ u, 0 ≤ u → u < t + 1 → mrw σ2 u (Z 0) (msteps (Z 0) (Z 1) u.toNat) hh := fun u a b => by
        by_cases e : u = t
        · subst e
          rw [mt]
          refine ⟨fun c a b => (k1 c a b).trans (r1.2.1 c a b), fun i a b r a' b' => ?_⟩
          rw [k2 i a b r a' b', yne (by omega) rfl]
          by_cases z : i < Z 0 1 0
          · rw [if_pos z]
            have q := (y1.2.2.1 i a z).1
            rcases (by omega : r = 1 ∨ r = 2 ∨ r = 3 ∨ r = 4) with rfl | rfl | rfl | rfl
            · exact q.1
            · exact q.2.1
            · exact q.2.2.1
            · exact q.2.2.2
          · rw [if_neg z, y2 _ _ (by omega) (by omega) (by omega)]; exact h3 i (by omega) b r a' b'
        · refine mrw_cong (h4 u a (by omega)) (fun k a' b' => ?_)
          rw [k3 _ _ (by omega), yne (by omega) rfl, y9]
      have v2 : ∀ u, 0 ≤ u → u < t → σ2 564 u = (msteps (Z 0) (Z 1) (u + 1).toNat) 6 0 := fun u a b => by
        rw [kx _ _ (by omega)]
        by_cases e : u = t - 1
        · subst e; rw [yeq, show t - 1 + 1 = t by omega, mt]
        · rw [yne (by omega) rfl, y2 _ _ (by omega) (by omega) (by omega)]; exact h5 u a (by omega)
      exact nl_again2 (hh := hh) (fun τ t => ih τ t) hx hg hN hq (by omega) (by omega) r2 (mfs_x (x0 := 563) (mfs_x (x0 := 564) (mfs_t h2 (rfr_m (rfq_r y2))) (by omega) (fun x y a => yne (by omega) rfl)) (by omega) kx) c2 w2 v2 h6 402 0 (by omega) (by omega) (fun s' a b => by omega)
theorem n_again {g : Launch × XG × va_G} {σ : YS} {Z : YZ} {I : Int → YZ} {M : YS} {N : Int} {q : Int} (hx : mW σ Z I M) (hg : wG Z I M N) (hN : N < 100000) : YI g 75 [(2, 547), (0, q)] σ (fun b σ' => (if 0 ≤ q ∧ q ≤ 2 then kag (Z 0) (Z 1) q b ∧ mW σ' Z I M else b = -10 ∧ mW σ' Z I (bump M 0)) ∧ cfr σ σ') := by
  refine y_start rfl rfl rfl ?_
  have ⟨⟨hz, hu, hur⟩, x2, x3, ⟨x4, x5⟩, x6, x7⟩ := hx
  have ⟨⟨he, hd, hn, hu2, h67, hk⟩, g2, g3, g4⟩ := hg
  have ⟨⟨f1, f2, f3⟩, f5, f6, f7, f8⟩ := hz
  have ⟨e1, e2, e3⟩ := he
  have x60 : σ 551 0 = M 3 0 := x6 0 (by omega) (by omega)
  have x61 : σ 551 1 = M 3 1 := x6 1 (by omega) (by omega)
  have x62 : σ 551 2 = M 3 2 := x6 2 (by omega) (by omega)
  have g40 := g4 0 (by omega) (by omega)
  have g41 := g4 1 (by omega) (by omega)
  have g42 := g4 2 (by omega) (by omega)
  have hu : σ 548 106 = Z 2 0 0 := hu
  have f1 : σ 548 (0 + 0) = Z 0 0 0 := f1
  have f10 : σ 548 0 = Z 0 0 0 := f1
  have f2 : σ 548 (0 + 10) = Z 0 1 0 := f2
  have f20 : σ 548 10 = Z 0 1 0 := f2
  have f30 : σ 548 105 = Z 1 5 0 := f3
  refine y_iload rfl rfl ?_
  refine y_i2l rfl ?_
  refine y_lconst (v := 0) rfl rfl ?_
  refine y_ldc2 (v := 2) rfl rfl ?_
  refine y_si (as := [(1, q), (1, 0), (1, 2)]) (S := []) rfl rfl rfl rfl rfl rfl m_lies ?_
  rintro _ _ ⟨rfl, rfl⟩
  refine y_ifne rfl (fun q9 => ?_) (fun q9 => ?_)
  · skip
    replace q9 := yb_1.mp q9
    refine y_aload rfl rfl rfl ?_
    refine y_vu (as := [(2, 547)]) (S := []) rfl rfl rfl rfl rfl rfl (by decide) rfl (m_layNow hz hg.1.1 hd h67.1) ?_
    rintro σ1 ⟨l1, l2⟩
    refine y_aload rfl rfl rfl ?_
    refine y_push rfl ?_
    refine y_vu (as := [(2, 547), (0, 0)]) (S := []) rfl rfl rfl rfl rfl rfl (by decide) rfl (n_keepState (by omega)) ?_
    rintro σ2 ⟨k1, k2, k3⟩
    refine y_push rfl ?_
    refine y_istore (L' := [some (2, 547), some (0, q), some (0, 1), none, none, none]) rfl rfl rfl rfl ?_
    have em := hg.1.1.2.1
    have kx : ∀ x y, x ≠ 563 → σ2 x y = σ1 x y := fun x y a => k3 x y (by omega)
    refine nl_again1 (hh := fun r i => σ1 (554 + r) i) hx hg hN (by omega) 402 σ2 1 (by omega) (by omega) (rm_other (x0 := 563) l1 (by omega) kx) (mfs_x (x0 := 563) l2 (by omega) kx) (fun i a b r a' b' => kx _ _ (by omega)) (fun u a b => ?_) (fun u a b => by omega) (fun t' a b => by omega)
    have u0 : u = 0 := by omega
    subst u0
    refine ⟨fun c a b => (k1 c a b).trans (l1.2.1 c a b), fun i a b r a' b' => ?_⟩
    rw [k2 i a b r a' b']
    by_cases z : i < Z 0 1 0
    · rw [if_pos z]
      have q := (l1.2.2.1 i a z).1
      rcases (by omega : r = 1 ∨ r = 2 ∨ r = 3 ∨ r = 4) with rfl | rfl | rfl | rfl
      · exact q.1
      · exact q.2.1
      · exact q.2.2.1
      · exact q.2.2.2
    · exact (if_neg z).symm
  · skip
    replace q9 := yb_0.mp q9
    refine y_aload rfl rfl rfl ?_
    refine y_vi (as := [(2, 547)]) (S := []) rfl rfl rfl rfl rfl rfl (by decide) rfl (m_badElse (by omega)) ?_
    rintro _ _ ⟨rfl, rfl⟩
    refine y_iret rfl rfl ⟨_, rfl, ?_⟩
    exact ⟨by rw [if_neg (by omega)]; exact ⟨rfl, mW_bump hg hx (by omega) rfl⟩, cfr_s (cfr_0 _) (by omega)⟩
