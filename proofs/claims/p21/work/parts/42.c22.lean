theorem m_stoppedOf {g : Launch × XG × va_G} {σ : YS} {m : Int} {E D : YS} (hz : mzs σ 0 E D) (he : eG E) (hd : dG E D) (hm : 0 ≤ m ∧ m < 3) : YI g 56 [(2, 547), (0, m)] σ (fun b σ' => σ = σ' ∧ (if m < E 1 0 then D 4 m else 1) = b) := by
  refine y_start rfl rfl rfl ?_
  have ⟨⟨f1, f2, f3⟩, f5, f6, f7, f8⟩ := hz
  have ⟨e1, e2, e3⟩ := he
  refine y_aload rfl rfl rfl ?_
  refine y_gfr (t := 548) rfl rfl (by decide) rfl (by decide) ?_
  refine y_push rfl ?_
  refine y_iload rfl rfl ?_
  refine y_iadd (v := (23 + m)) rfl rfl (by omega) ?_
  refine y_iald (v := (σ 548 (23 + m))) (n := 2108) rfl rfl (by decide) rfl (by omega) rfl ?_
  refine y_push rfl ?_
  refine y_iceq rfl (fun q10 => ?_) (fun q10 => ?_)
  · skip
    refine y_push rfl ?_
    refine y_goto rfl ?_
    refine y_istore (L' := [some (2, 547), some (0, m), some (0, 1)]) rfl rfl rfl rfl ?_
    refine y_iload rfl rfl ?_
    refine y_ifeq rfl (fun q56 => ?_) (fun q56 => ?_)
    · exfalso; omega
    · skip
      refine y_push rfl ?_
      refine y_goto rfl ?_
      refine y_iret rfl rfl ⟨_, rfl, ?_⟩
      refine ⟨rfl, ?_⟩
      by_cases hc : m < E 1 0
      · rw [if_pos hc]
        have ⟨⟨b1, b2, b3, b4⟩, b5, b6, b7, b8⟩ := f6 m (by omega) (by omega)
        have b5 : σ 548 (26 + m) = E 3 m := b5
        have b80 : D 4 m = 0 ↔ ¬ (σ 548 (23 + m) = 1 ∨ E 3 m = 0 ∨ mfl E m ≠ -1) := b8
        have d4 := (hd.2 m (by omega) (by omega)).2.2.2
        omega
      · have b5 : σ 548 (26 + m) = 0 := f7 m (by omega) hm.2
        rw [if_neg hc]; first | done | omega
  · skip
    refine y_aload rfl rfl rfl ?_
    refine y_gfr (t := 548) rfl rfl (by decide) rfl (by decide) ?_
    refine y_push rfl ?_
    refine y_iload rfl rfl ?_
    refine y_iadd (v := (26 + m)) rfl rfl (by omega) ?_
    refine y_iald (v := (σ 548 (26 + m))) (n := 2108) rfl rfl (by decide) rfl (by omega) rfl ?_
    refine y_ifeq rfl (fun q22 => ?_) (fun q22 => ?_)
    · skip
      refine y_push rfl ?_
      refine y_goto rfl ?_
      refine y_istore (L' := [some (2, 547), some (0, m), some (0, 1)]) rfl rfl rfl rfl ?_
      refine y_iload rfl rfl ?_
      refine y_ifeq rfl (fun q56 => ?_) (fun q56 => ?_)
      · exfalso; omega
      · skip
        refine y_push rfl ?_
        refine y_goto rfl ?_
        refine y_iret rfl rfl ⟨_, rfl, ?_⟩
        refine ⟨rfl, ?_⟩
        by_cases hc : m < E 1 0
        · rw [if_pos hc]
          have ⟨⟨b1, b2, b3, b4⟩, b5, b6, b7, b8⟩ := f6 m (by omega) (by omega)
          have b5 : σ 548 (26 + m) = E 3 m := b5
          have b80 : D 4 m = 0 ↔ ¬ (σ 548 (23 + m) = 1 ∨ E 3 m = 0 ∨ mfl E m ≠ -1) := b8
          have d4 := (hd.2 m (by omega) (by omega)).2.2.2
          omega
        · have b5 : σ 548 (26 + m) = 0 := f7 m (by omega) hm.2
          rw [if_neg hc]; first | done | omega
    · skip
      refine y_aload rfl rfl rfl ?_
      refine y_push rfl ?_
      refine y_push rfl ?_
      refine y_iload rfl rfl ?_
      refine y_imul (v := (24 * m)) rfl rfl (by omega) ?_
      refine y_iadd (v := (29 + (24 * m))) rfl rfl (by omega) ?_
      refine y_aload rfl rfl rfl ?_
      refine y_gfr (t := 548) rfl rfl (by decide) rfl (by decide) ?_
      refine y_push rfl ?_
      refine y_iload rfl rfl ?_
      refine y_iadd (v := (26 + m)) rfl rfl (by omega) ?_
      refine y_iald (v := (σ 548 (26 + m))) (n := 2108) rfl rfl (by decide) rfl (by omega) rfl ?_
      have hmc : m < E 1 0 := by
        rcases (by omega : m < E 1 0 ∨ E 1 0 ≤ m) with z | z
        · exact z
        · exact absurd (show σ 548 (26 + m) = 0 from f7 m z hm.2) q22
      have ⟨⟨b1, b2, b3, b4⟩, b5, b6, b7, b8⟩ := f6 m (by omega) (by omega)
      have ⟨t1, ⟨t2, t3⟩, t4⟩ := e3 m (by omega) (by omega)
      have d3 := hd.2 m (by omega) (by omega)
      have b5 : σ 548 (26 + m) = E 3 m := b5
      have b70 : σ 548 (23 + m) = 0 ∨ σ 548 (23 + m) = 1 := b7
      have b80 : D 4 m = 0 ↔ ¬ (σ 548 (23 + m) = 1 ∨ E 3 m = 0 ∨ mfl E m ≠ -1) := b8
      have b60 : ∀ k, 0 ≤ k → k < E 3 m → σ 548 (29 + 24 * m + k) = msg E m k := b6
      refine y_vi (as := [(2, 547), (0, (29 + (24 * m))), (0, (σ 548 (26 + m)))]) (S := []) rfl rfl rfl rfl rfl rfl (by decide) rfl (m_faultOf (f := msg E m) (n := σ 548 (26 + m)) (fun k k1 k2 => b60 k k1 (by omega)) (by omega) (by omega)) ?_
      rintro _ _ ⟨rfl, rfl⟩
      have hb : bflaw (msg E m) (σ 548 (26 + m)).toNat = mfl E m := by rw [b5]
      have d4 := d3.2.2.2
      refine y_push rfl ?_
      refine y_iceq rfl (fun q46 => ?_) (fun q46 => ?_)
      · skip
        refine y_push rfl ?_
        refine y_istore (L' := [some (2, 547), some (0, m), some (0, 0)]) rfl rfl rfl rfl ?_
        refine y_iload rfl rfl ?_
        refine y_ifeq rfl (fun q56 => ?_) (fun q56 => ?_)
        · skip
          refine y_push rfl ?_
          refine y_iret rfl rfl ⟨_, rfl, ?_⟩
          refine ⟨rfl, ?_⟩
          by_cases hc : m < E 1 0
          · rw [if_pos hc]
            have ⟨⟨b1, b2, b3, b4⟩, b5, b6, b7, b8⟩ := f6 m (by omega) (by omega)
            have b5 : σ 548 (26 + m) = E 3 m := b5
            have b80 : D 4 m = 0 ↔ ¬ (σ 548 (23 + m) = 1 ∨ E 3 m = 0 ∨ mfl E m ≠ -1) := b8
            have d4 := (hd.2 m (by omega) (by omega)).2.2.2
            omega
          · have b5 : σ 548 (26 + m) = 0 := f7 m (by omega) hm.2
            rw [if_neg hc]; first | done | omega
        · exfalso; omega
      · skip
        refine y_push rfl ?_
        refine y_goto rfl ?_
        refine y_istore (L' := [some (2, 547), some (0, m), some (0, 1)]) rfl rfl rfl rfl ?_
        refine y_iload rfl rfl ?_
        refine y_ifeq rfl (fun q56 => ?_) (fun q56 => ?_)
        · exfalso; omega
        · skip
          refine y_push rfl ?_
          refine y_goto rfl ?_
          refine y_iret rfl rfl ⟨_, rfl, ?_⟩
          refine ⟨rfl, ?_⟩
          by_cases hc : m < E 1 0
          · rw [if_pos hc]
            have ⟨⟨b1, b2, b3, b4⟩, b5, b6, b7, b8⟩ := f6 m (by omega) (by omega)
            have b5 : σ 548 (26 + m) = E 3 m := b5
            have b80 : D 4 m = 0 ↔ ¬ (σ 548 (23 + m) = 1 ∨ E 3 m = 0 ∨ mfl E m ≠ -1) := b8
            have d4 := (hd.2 m (by omega) (by omega)).2.2.2
            omega
          · have b5 : σ 548 (26 + m) = 0 := f7 m (by omega) hm.2
            rw [if_neg hc]; first | done | omega
theorem m_of {g : Launch × XG × va_G} {σ : YS} {Z : YZ} {I : Int → YZ} {M : YS} {N : Int} {m q : Int} (hx : mW σ Z I M) (hg : wG Z I M N) (hN : N < 100000) : YI g 63 [(2, 547), (0, m), (0, q)] σ (fun b σ' => b = (kof Z M m q).1 ∧ mW σ' (kof Z M m q).2.1 I (kof Z M m q).2.2 ∧ cfr σ σ') := by
  refine y_start rfl rfl rfl ?_
  have ⟨⟨hz, hu, hur⟩, x2, x3, ⟨x4, x5⟩, x6, x7⟩ := hx
  have ⟨⟨he, hd, hn, hu2, h67, hk⟩, g2, g3, g4⟩ := hg
  have ⟨⟨f1, f2, f3⟩, f5, f6, f7, f8⟩ := hz
  have ⟨e1, e2, e3⟩ := he
  have x60 : σ 551 0 = M 3 0 := x6 0 (by omega) (by omega)
  have x61 : σ 551 1 = M 3 1 := x6 1 (by omega) (by omega)
  have x62 : σ 551 2 = M 3 2 := x6 2 (by omega) (by omega)
  have g40 := g4 0 (by omega) (by omega)
  have g41 := g4 1 (by omega) (by omega)
  have g42 := g4 2 (by omega) (by omega)
  have hu : σ 548 106 = Z 2 0 0 := hu
  have f1 : σ 548 (0 + 0) = Z 0 0 0 := f1
  have f10 : σ 548 0 = Z 0 0 0 := f1
  have f2 : σ 548 (0 + 10) = Z 0 1 0 := f2
  have f20 : σ 548 10 = Z 0 1 0 := f2
  have f30 : σ 548 105 = Z 1 5 0 := f3
  refine y_aload rfl rfl rfl ?_
  refine y_push rfl ?_
  refine y_iload rfl rfl ?_
  refine y_vi (as := [(2, 547), (0, 0), (0, m)]) (S := []) rfl rfl rfl rfl rfl rfl (by decide) rfl (m_isMan (r := 0) (Or.inl rfl) f2 e2) ?_
  rintro _ _ ⟨rfl, rfl⟩
  refine y_ifeq rfl (fun q6 => ?_) (fun q6 => ?_)
  · skip
    replace q6 := yb_0.mp q6
    refine y_aload rfl rfl rfl ?_
    refine y_vi (as := [(2, 547)]) (S := []) rfl rfl rfl rfl rfl rfl (by decide) rfl (m_bad (by omega)) ?_
    rintro _ _ ⟨rfl, rfl⟩
    refine y_iret rfl rfl ⟨_, rfl, ?_⟩
    have hK : kof Z M m q = (_, Z, bump M 0) := if_neg (by omega)
    rw [hK]
    exact ⟨rfl, mW_bump hg hx (by omega) rfl, cfr_s (cfr_0 _) (by omega)⟩
  · skip
    replace q6 := yb_1.mp q6
    refine y_iload rfl rfl ?_
    refine y_i2l rfl ?_
    refine y_lconst (v := 0) rfl rfl ?_
    refine y_ldc2 (v := 3) rfl rfl ?_
    refine y_si (as := [(1, q), (1, 0), (1, 3)]) (S := []) rfl rfl rfl rfl rfl rfl m_lies ?_
    rintro _ _ ⟨rfl, rfl⟩
    refine y_ifne rfl (fun q18 => ?_) (fun q18 => ?_)
    · skip
      replace q18 := yb_1.mp q18
      have ⟨⟨b1, b2, b3, b4⟩, b5, b6, b7, b8⟩ := f6 m (by omega) (by omega)
      have ⟨t1, ⟨t2, t3⟩, t4⟩ := e3 m (by omega) (by omega)
      have d3 := hd.2 m (by omega) (by omega)
      have b5 : σ 548 (26 + m) = Z 0 3 m := b5
      have b70 : σ 548 (23 + m) = 0 ∨ σ 548 (23 + m) = 1 := b7
      have b80 : Z 1 4 m = 0 ↔ ¬ (σ 548 (23 + m) = 1 ∨ Z 0 3 m = 0 ∨ mfl (Z 0) m ≠ -1) := b8
      have b60 : ∀ k, 0 ≤ k → k < Z 0 3 m → σ 548 (29 + 24 * m + k) = msg (Z 0) m k := b6
      refine y_iload rfl rfl ?_
      refine y_push rfl ?_
      refine y_icne rfl (fun q28 => ?_) (fun q28 => ?_)
      · skip
        refine y_aload rfl rfl rfl ?_
        refine y_gfr (t := 548) rfl rfl (by decide) rfl (by decide) ?_
        refine y_push rfl ?_
        refine y_push rfl ?_
        refine y_iload rfl rfl ?_
        refine y_imul (v := (3 * q)) rfl rfl (by omega) ?_
        refine y_iadd (v := (14 + (3 * q))) rfl rfl (by omega) ?_
        refine y_iload rfl rfl ?_
        refine y_iadd (v := ((14 + (3 * q)) + m)) rfl rfl (by omega) ?_
        refine y_iald (v := (σ 548 ((14 + (3 * q)) + m))) (n := 2108) rfl rfl (by decide) rfl (by omega) rfl ?_
        refine y_iret rfl rfl ⟨_, rfl, ?_⟩
        rcases (by omega : q = 0 ∨ q = 1 ∨ q = 2) with rfl | rfl | rfl
        · have hK : kof Z M m 0 = (Z 1 1 m, Z, M) := if_pos (by omega)
          rw [hK]
          exact ⟨by have z := b2; rw [← z]; rfl, hx, cfr_0 _⟩
        · have hK : kof Z M m 1 = (Z 1 2 m, Z, M) := if_pos (by omega)
          rw [hK]
          exact ⟨by have z := b3; rw [← z]; rfl, hx, cfr_0 _⟩
        · have hK : kof Z M m 2 = (Z 1 3 m, Z, M) := if_pos (by omega)
          rw [hK]
          exact ⟨by have z := b4; rw [← z]; rfl, hx, cfr_0 _⟩
      · skip
        refine y_aload rfl rfl rfl ?_
        refine y_iload rfl rfl ?_
        refine y_vi (as := [(2, 547), (0, m)]) (S := []) rfl rfl rfl rfl rfl rfl (by decide) rfl (m_stoppedOf hx.1.1 hg.1.1 hg.1.2.1 (m := m) (by omega)) ?_
        rintro _ _ ⟨rfl, rfl⟩
        refine y_goto rfl ?_
        refine y_iret rfl rfl ⟨_, rfl, ?_⟩
        have hw : q = 3 := by omega
        subst hw
        have hK : kof Z M m 3 = (Z 1 4 m, Z, M) := if_pos (by omega)
        rw [hK]
        exact ⟨by rw [if_pos (by omega)], hx, cfr_0 _⟩
    · skip
      replace q18 := yb_0.mp q18
      refine y_aload rfl rfl rfl ?_
      refine y_vi (as := [(2, 547)]) (S := []) rfl rfl rfl rfl rfl rfl (by decide) rfl (m_bad (by omega)) ?_
      rintro _ _ ⟨rfl, rfl⟩
      refine y_iret rfl rfl ⟨_, rfl, ?_⟩
      have hK : kof Z M m q = (_, Z, bump M 0) := if_neg (by omega)
      rw [hK]
      exact ⟨rfl, mW_bump hg hx (by omega) rfl, cfr_s (cfr_0 _) (by omega)⟩
theorem m_in {g : Launch × XG × va_G} {σ : YS} {Z : YZ} {I : Int → YZ} {M : YS} {N : Int} {c : Int} (hx : mW σ Z I M) (hg : wG Z I M N) (hN : N < 100000) : YI g 65 [(2, 547), (0, c)] σ (fun b σ' => b = (kin Z M c).1 ∧ mW σ' (kin Z M c).2.1 I (kin Z M c).2.2 ∧ cfr σ σ') := by
  refine y_start rfl rfl rfl ?_
  have ⟨⟨hz, hu, hur⟩, x2, x3, ⟨x4, x5⟩, x6, x7⟩ := hx
  have ⟨⟨he, hd, hn, hu2, h67, hk⟩, g2, g3, g4⟩ := hg
  have ⟨⟨f1, f2, f3⟩, f5, f6, f7, f8⟩ := hz
  have ⟨e1, e2, e3⟩ := he
  have x60 : σ 551 0 = M 3 0 := x6 0 (by omega) (by omega)
  have x61 : σ 551 1 = M 3 1 := x6 1 (by omega) (by omega)
  have x62 : σ 551 2 = M 3 2 := x6 2 (by omega) (by omega)
  have g40 := g4 0 (by omega) (by omega)
  have g41 := g4 1 (by omega) (by omega)
  have g42 := g4 2 (by omega) (by omega)
  have hu : σ 548 106 = Z 2 0 0 := hu
  have f1 : σ 548 (0 + 0) = Z 0 0 0 := f1
  have f10 : σ 548 0 = Z 0 0 0 := f1
  have f2 : σ 548 (0 + 10) = Z 0 1 0 := f2
  have f20 : σ 548 10 = Z 0 1 0 := f2
  have f30 : σ 548 105 = Z 1 5 0 := f3
  have f50 : ∀ c, 0 ≤ c → c < 9 → σ 548 (1 + c) = Z 1 0 c := f5
  have f80 : ∀ j, 0 ≤ j → j < 4 → σ 548 (101 + j) = Z 0 7 j := f8
  refine y_aload rfl rfl rfl ?_
  refine y_push rfl ?_
  refine y_iload rfl rfl ?_
  refine y_vi (as := [(2, 547), (0, 0), (0, c)]) (S := []) rfl rfl rfl rfl rfl rfl (by decide) rfl (m_isCell (r := 0) (Or.inl rfl) f1 (by omega)) ?_
  rintro _ _ ⟨rfl, rfl⟩
  refine y_ifeq rfl (fun q6 => ?_) (fun q6 => ?_)
  · skip
    replace q6 := yb_0.mp q6
    refine y_aload rfl rfl rfl ?_
    refine y_vi (as := [(2, 547)]) (S := []) rfl rfl rfl rfl rfl rfl (by decide) rfl (m_bad (by omega)) ?_
    rintro _ _ ⟨rfl, rfl⟩
    refine y_iret rfl rfl ⟨_, rfl, ?_⟩
    have hK : kin Z M c = (_, Z, bump M 0) := if_neg (by omega)
    rw [hK]
    exact ⟨rfl, mW_bump hg hx (by omega) rfl, cfr_s (cfr_0 _) (by omega)⟩
  · skip
    replace q6 := yb_1.mp q6
    refine y_aload rfl rfl rfl ?_
    refine y_gfr (t := 548) rfl rfl (by decide) rfl (by decide) ?_
    refine y_push rfl ?_
    refine y_iload rfl rfl ?_
    refine y_iadd (v := (1 + c)) rfl rfl (by omega) ?_
    refine y_iald (v := (σ 548 (1 + c))) (n := 2108) rfl rfl (by decide) rfl (by omega) rfl ?_
    refine y_goto rfl ?_
    refine y_iret rfl rfl ⟨_, rfl, ?_⟩
    have hK : kin Z M c = (Z 1 0 c, Z, M) := if_pos (by omega)
    rw [hK]
    exact ⟨f50 c (by omega) (by omega), hx, cfr_0 _⟩
theorem mz_seen {σ : YS} {Z : YZ} {i c : Int} (he : eG (Z 0)) (hi : 1 ≤ i ∧ i ≤ 4) (hu : 0 ≤ Z 2 0 0 ∧ Z 2 0 0 ≤ 20) (h : mz σ 0 Z) : mz (yset σ 548 (101 + i - 1) c) 0 (zseen Z i c) := by
  obtain ⟨⟨⟨h1, h2, h3⟩, h4, h5, h6, h7⟩, h8, h9⟩ := h
  have hm := he.2.1
  have z1 : ∀ r q, r ≠ 7 → zseen Z i c 0 r q = Z 0 r q := fun r q hr => seenE_g hr
  refine ⟨⟨⟨?_, ?_, ?_⟩, fun d a b => ?_, fun x a b => ?_, fun x a b => ?_, fun j a b => ?_⟩, ?_, fun k a b => ?_⟩
  · rw [yne (by omega) rfl, z1 _ _ (by omega)]; exact h1
  · rw [yne (by omega) rfl, z1 _ _ (by omega)]; exact h2
  · rw [yne (by omega) rfl]; exact h3
  · rw [yne (by omega) rfl]; exact h4 d a b
  · rw [z1 _ _ (by omega)] at b
    exact mzi_E (by omega) (h5 x a b) (he.2.2 x a b).2.1.2 (fun y hy => yne (by omega) rfl) (z1 _ _ (by omega)) (z1 _ _ (by omega)) (fun k _ _ => z1 _ _ (by omega)) (fun _ _ _ => rfl)
  · rw [z1 _ _ (by omega)] at a
    rw [yne (by omega) rfl]; exact h6 x a b
  · show yset σ 548 (101 + i - 1) c 548 (0 + 101 + j) = yset (Z 0) 7 (i - 1) c 7 j
    by_cases e : j = i - 1
    · subst e; rw [show (0 : Int) + 101 + (i - 1) = 101 + i - 1 by omega, yeq, yeq]
    · rw [yne (by omega) rfl, yne (by omega) rfl]; exact h7 j a b
  · rw [yne (by omega) rfl]; exact h8
  · have b : k < Z 2 0 0 := b
    have z3 : zseen Z i c (3 + k) = Z (3 + k) := by unfold zseen; rw [if_neg (by omega)]
    obtain ⟨c1, c2⟩ := h9 k a b
    show mzr _ (0 + 107 + 21 * (Z 2 0 0 - 1 - k)) (yset (Z 0) 7 (i - 1) c) (zseen Z i c (3 + k))
    rw [z3]
    refine mzr_cong (σ := σ) (by rw [seenE_g (by omega)]; exact hm) ⟨c1, fun x p q => ?_⟩ (fun y p q => yne (by omega) rfl)
    rw [seenE_g (by omega)] at q
    have := c2 x p q
    rw [mfl_E (seenE_g (by omega)) (fun k _ _ => seenE_g (by omega)), seenE_g (by omega)]
    exact this
theorem m_seen {g : Launch × XG × va_G} {σ : YS} {Z : YZ} {I : Int → YZ} {M : YS} {N : Int} {i c : Int} (hx : mW σ Z I M) (hg : wG Z I M N) (hN : N < 100000) : YI g 88 [(2, 547), (0, i), (0, c)] σ (fun b σ' => b = (kseen Z M i c).1 ∧ mW σ' (kseen Z M i c).2.1 I (kseen Z M i c).2.2 ∧ cfr σ σ') := by
  refine y_start rfl rfl rfl ?_
  have ⟨⟨hz, hu, hur⟩, x2, x3, ⟨x4, x5⟩, x6, x7⟩ := hx
  have ⟨⟨he, hd, hn, hu2, h67, hk⟩, g2, g3, g4⟩ := hg
  have ⟨⟨f1, f2, f3⟩, f5, f6, f7, f8⟩ := hz
  have ⟨e1, e2, e3⟩ := he
  have x60 : σ 551 0 = M 3 0 := x6 0 (by omega) (by omega)
  have x61 : σ 551 1 = M 3 1 := x6 1 (by omega) (by omega)
  have x62 : σ 551 2 = M 3 2 := x6 2 (by omega) (by omega)
  have g40 := g4 0 (by omega) (by omega)
  have g41 := g4 1 (by omega) (by omega)
  have g42 := g4 2 (by omega) (by omega)
  have hu : σ 548 106 = Z 2 0 0 := hu
  have f1 : σ 548 (0 + 0) = Z 0 0 0 := f1
  have f10 : σ 548 0 = Z 0 0 0 := f1
  have f2 : σ 548 (0 + 10) = Z 0 1 0 := f2
  have f20 : σ 548 10 = Z 0 1 0 := f2
  have f30 : σ 548 105 = Z 1 5 0 := f3
  have f50 : ∀ c, 0 ≤ c → c < 9 → σ 548 (1 + c) = Z 1 0 c := f5
  have f80 : ∀ j, 0 ≤ j → j < 4 → σ 548 (101 + j) = Z 0 7 j := f8
  refine y_iload rfl rfl ?_
  refine y_i2l rfl ?_
  refine y_lconst (v := 1) rfl rfl ?_
  refine y_ldc2 (v := 4) rfl rfl ?_
  refine y_si (as := [(1, i), (1, 1), (1, 4)]) (S := []) rfl rfl rfl rfl rfl rfl m_lies ?_
  rintro _ _ ⟨rfl, rfl⟩
  refine y_ifeq rfl (fun q9 => ?_) (fun q9 => ?_)
  · skip
    replace q9 := yb_0.mp q9
    refine y_aload rfl rfl rfl ?_
    refine y_vi (as := [(2, 547)]) (S := []) rfl rfl rfl rfl rfl rfl (by decide) rfl (m_bad (by omega)) ?_
    rintro _ _ ⟨rfl, rfl⟩
    refine y_iret rfl rfl ⟨_, rfl, ?_⟩
    have hK : kseen Z M i c = (_, Z, bump M 0) := if_neg (by omega)
    rw [hK]
    exact ⟨rfl, mW_bump hg hx (by omega) rfl, cfr_s (cfr_0 _) (by omega)⟩
  · skip
    replace q9 := yb_1.mp q9
    refine y_aload rfl rfl rfl ?_
    refine y_push rfl ?_
    refine y_iload rfl rfl ?_
    refine y_vi (as := [(2, 547), (0, 0), (0, c)]) (S := []) rfl rfl rfl rfl rfl rfl (by decide) rfl (m_isCell (r := 0) (Or.inl rfl) f1 (by omega)) ?_
    rintro _ _ ⟨rfl, rfl⟩
    refine y_ifne rfl (fun q18 => ?_) (fun q18 => ?_)
    · skip
      replace q18 := yb_1.mp q18
      refine y_aload rfl rfl rfl ?_
      refine y_gfr (t := 548) rfl rfl (by decide) rfl (by decide) ?_
      refine y_push rfl ?_
      refine y_iload rfl rfl ?_
      refine y_iadd (v := (101 + i)) rfl rfl (by omega) ?_
      refine y_push rfl ?_
      refine y_isub (v := ((101 + i) - 1)) rfl rfl (by omega) ?_
      refine y_iald (v := (σ 548 ((101 + i) - 1))) (n := 2108) rfl rfl (by decide) rfl (by omega) rfl ?_
      refine y_istore (L' := [some (2, 547), some (0, i), some (0, c), some (0, (σ 548 ((101 + i) - 1)))]) rfl rfl rfl rfl ?_
      refine y_aload rfl rfl rfl ?_
      refine y_gfr (t := 548) rfl rfl (by decide) rfl (by decide) ?_
      refine y_push rfl ?_
      refine y_iload rfl rfl ?_
      refine y_iadd (v := (101 + i)) rfl rfl (by omega) ?_
      refine y_push rfl ?_
      refine y_isub (v := ((101 + i) - 1)) rfl rfl (by omega) ?_
      refine y_iload rfl rfl ?_
      refine y_iast (n := 2108) rfl rfl (by decide) rfl (by omega) ?_
      refine y_iload rfl rfl ?_
      refine y_iret rfl rfl ⟨_, rfl, ?_⟩
      have hK : kseen Z M i c = (Z 0 7 (i - 1), zseen Z i c, M) := if_pos ⟨by omega, by omega⟩
      rw [hK]
      have w3 : wfr σ (yset σ 548 ((101 + i) - 1) c) 0 := wfr_s (wfr_0 _ _) (by omega)
      exact ⟨by have := f80 (i - 1) (by omega) (by omega); rw [show (101 : Int) + (i - 1) = 101 + i - 1 by omega] at this; exact this, mW_now hg hx (mz_seen hg.1.1 (by omega) (by omega) hx.1) w3, cfr_w w3⟩
    · skip
      replace q18 := yb_0.mp q18
      refine y_aload rfl rfl rfl ?_
      refine y_vi (as := [(2, 547)]) (S := []) rfl rfl rfl rfl rfl rfl (by decide) rfl (m_bad (by omega)) ?_
      rintro _ _ ⟨rfl, rfl⟩
      refine y_iret rfl rfl ⟨_, rfl, ?_⟩
      have hK : kseen Z M i c = (_, Z, bump M 0) := if_neg (by omega)
      rw [hK]
      exact ⟨rfl, mW_bump hg hx (by omega) rfl, cfr_s (cfr_0 _) (by omega)⟩
theorem m_status {g : Launch × XG × va_G} {σ : YS} {Z : YZ} {I : Int → YZ} {M : YS} {N : Int} {q : Int} (hx : mW σ Z I M) (hg : wG Z I M N) (hN : N < 100000) : YI g 101 [(2, 547), (0, q)] σ (fun b σ' => b = (kstatus Z M q).1 ∧ mW σ' (kstatus Z M q).2.1 I (kstatus Z M q).2.2 ∧ cfr σ σ') := by
  refine y_start rfl rfl rfl ?_
  have ⟨⟨hz, hu, hur⟩, x2, x3, ⟨x4, x5⟩, x6, x7⟩ := hx
  have ⟨⟨he, hd, hn, hu2, h67, hk⟩, g2, g3, g4⟩ := hg
  have ⟨⟨f1, f2, f3⟩, f5, f6, f7, f8⟩ := hz
  have ⟨e1, e2, e3⟩ := he
  have x60 : σ 551 0 = M 3 0 := x6 0 (by omega) (by omega)
  have x61 : σ 551 1 = M 3 1 := x6 1 (by omega) (by omega)
  have x62 : σ 551 2 = M 3 2 := x6 2 (by omega) (by omega)
  have g40 := g4 0 (by omega) (by omega)
  have g41 := g4 1 (by omega) (by omega)
  have g42 := g4 2 (by omega) (by omega)
  have hu : σ 548 106 = Z 2 0 0 := hu
  have f1 : σ 548 (0 + 0) = Z 0 0 0 := f1
  have f10 : σ 548 0 = Z 0 0 0 := f1
  have f2 : σ 548 (0 + 10) = Z 0 1 0 := f2
  have f20 : σ 548 10 = Z 0 1 0 := f2
  have f30 : σ 548 105 = Z 1 5 0 := f3
  refine y_iload rfl rfl ?_
  refine y_i2l rfl ?_
  refine y_lconst (v := 0) rfl rfl ?_
  refine y_ldc2 (v := 2) rfl rfl ?_
  refine y_si (as := [(1, q), (1, 0), (1, 2)]) (S := []) rfl rfl rfl rfl rfl rfl m_lies ?_
  rintro _ _ ⟨rfl, rfl⟩
  refine y_ifne rfl (fun q9 => ?_) (fun q9 => ?_)
  · skip
    replace q9 := yb_1.mp q9
    refine y_aload rfl rfl rfl ?_
    refine y_gfr (t := 551) rfl rfl (by decide) rfl (by decide) ?_
    refine y_iload rfl rfl ?_
    refine y_iald (v := (σ 551 q)) (n := 3) rfl rfl (by decide) rfl (by omega) rfl ?_
    refine y_iret rfl rfl ⟨_, rfl, ?_⟩
    have hK : kstatus Z M q = (M 3 q, Z, M) := if_pos (by omega)
    rw [hK]
    exact ⟨x6 q (by omega) (by omega), hx, cfr_0 _⟩
  · skip
    replace q9 := yb_0.mp q9
    refine y_aload rfl rfl rfl ?_
    refine y_gfr (t := 551) rfl rfl (by decide) rfl (by decide) ?_
    refine y_push rfl ?_
    refine y_dup2 rfl rfl rfl ?_
    refine y_iald (v := (σ 551 0)) (n := 3) rfl rfl (by decide) rfl (by decide) rfl ?_
    refine y_push rfl ?_
    refine y_iadd (v := ((σ 551 0) + 1)) rfl rfl (by omega) ?_
    refine y_iast (n := 3) rfl rfl (by decide) rfl (by decide) ?_
    refine y_push rfl ?_
    refine y_iret rfl rfl ⟨_, rfl, ?_⟩
    have hK : kstatus Z M q = (_, Z, bump M 0) := if_neg (by omega)
    rw [hK]
    exact ⟨rfl, mW_bump hg hx (by omega) rfl, cfr_s (cfr_0 _) (by omega)⟩
theorem m_countOf {g : Launch × XG × va_G} {σ : YS} {Z : YZ} {I : Int → YZ} {M : YS} {N : Int} {q : Int} (hx : mW σ Z I M) (hg : wG Z I M N) (hN : N < 100000) (hq : 0 ≤ q ∧ q ≤ 4) : YI g 105 [(2, 547), (0, q)] σ (fun b σ' => σ = σ' ∧ khow Z M q = b) := by
  refine y_start rfl rfl rfl ?_
  have ⟨⟨hz, hu, hur⟩, x2, x3, ⟨x4, x5⟩, x6, x7⟩ := hx
  have ⟨⟨he, hd, hn, hu2, h67, hk⟩, g2, g3, g4⟩ := hg
  have ⟨⟨f1, f2, f3⟩, f5, f6, f7, f8⟩ := hz
  have ⟨e1, e2, e3⟩ := he
  have x60 : σ 551 0 = M 3 0 := x6 0 (by omega) (by omega)
  have x61 : σ 551 1 = M 3 1 := x6 1 (by omega) (by omega)
  have x62 : σ 551 2 = M 3 2 := x6 2 (by omega) (by omega)
  have g40 := g4 0 (by omega) (by omega)
  have g41 := g4 1 (by omega) (by omega)
  have g42 := g4 2 (by omega) (by omega)
  have hu : σ 548 106 = Z 2 0 0 := hu
  have f1 : σ 548 (0 + 0) = Z 0 0 0 := f1
  have f10 : σ 548 0 = Z 0 0 0 := f1
  have f2 : σ 548 (0 + 10) = Z 0 1 0 := f2
  have f20 : σ 548 10 = Z 0 1 0 := f2
  have f30 : σ 548 105 = Z 1 5 0 := f3
  refine y_iload rfl rfl ?_
  refine y_ifne rfl (fun q1 => ?_) (fun q1 => ?_)
  · skip
    refine y_iload rfl rfl ?_
    refine y_push rfl ?_
    refine y_icne rfl (fun q15 => ?_) (fun q15 => ?_)
    · skip
      refine y_iload rfl rfl ?_
      refine y_push rfl ?_
      refine y_icne rfl (fun q30 => ?_) (fun q30 => ?_)
      · skip
        refine y_iload rfl rfl ?_
        refine y_push rfl ?_
        refine y_icne rfl (fun q45 => ?_) (fun q45 => ?_)
        · skip
          refine y_aload rfl rfl rfl ?_
          refine y_gfi (v := (σ 547 3)) rfl rfl (by decide) rfl (by decide) rfl rfl ?_
          refine y_iret rfl rfl ⟨_, rfl, ?_⟩
          have hK : khow Z M q = M 2 0 := (if_neg (by omega)).trans ((if_neg (by omega)).trans ((if_neg (by omega)).trans ((if_neg (by omega)).trans (rfl))))
          exact ⟨rfl, by rw [hK]; exact (x4).symm⟩
        · skip
          refine y_aload rfl rfl rfl ?_
          refine y_gfr (t := 548) rfl rfl (by decide) rfl (by decide) ?_
          refine y_push rfl ?_
          refine y_iald (v := (σ 548 106)) (n := 2108) rfl rfl (by decide) rfl (by decide) rfl ?_
          refine y_goto rfl ?_
          refine y_iret rfl rfl ⟨_, rfl, ?_⟩
          have hK : khow Z M q = Z 2 0 0 := (if_neg (by omega)).trans ((if_neg (by omega)).trans ((if_neg (by omega)).trans (if_pos (by omega))))
          exact ⟨rfl, by rw [hK]; exact (hu).symm⟩
      · skip
        refine y_aload rfl rfl rfl ?_
        refine y_gfr (t := 548) rfl rfl (by decide) rfl (by decide) ?_
        refine y_push rfl ?_
        refine y_iald (v := (σ 548 105)) (n := 2108) rfl rfl (by decide) rfl (by decide) rfl ?_
        refine y_goto rfl ?_
        refine y_iret rfl rfl ⟨_, rfl, ?_⟩
        have hK : khow Z M q = Z 1 5 0 := (if_neg (by omega)).trans ((if_neg (by omega)).trans (if_pos (by omega)))
        exact ⟨rfl, by rw [hK]; exact (f30).symm⟩
    · skip
      refine y_aload rfl rfl rfl ?_
      refine y_gfr (t := 548) rfl rfl (by decide) rfl (by decide) ?_
      refine y_push rfl ?_
      refine y_iald (v := (σ 548 10)) (n := 2108) rfl rfl (by decide) rfl (by decide) rfl ?_
      refine y_goto rfl ?_
      refine y_iret rfl rfl ⟨_, rfl, ?_⟩
      have hK : khow Z M q = Z 0 1 0 := (if_neg (by omega)).trans (if_pos (by omega))
      exact ⟨rfl, by rw [hK]; exact (f20).symm⟩
  · skip
    refine y_aload rfl rfl rfl ?_
    refine y_gfr (t := 548) rfl rfl (by decide) rfl (by decide) ?_
    refine y_push rfl ?_
    refine y_iald (v := (σ 548 0)) (n := 2108) rfl rfl (by decide) rfl (by decide) rfl ?_
    refine y_goto rfl ?_
    refine y_iret rfl rfl ⟨_, rfl, ?_⟩
    have hK : khow Z M q = Z 0 0 0 := if_pos (by omega)
    exact ⟨rfl, by rw [hK]; exact (f10).symm⟩
theorem m_count {g : Launch × XG × va_G} {σ : YS} {Z : YZ} {I : Int → YZ} {M : YS} {N : Int} {q : Int} (hx : mW σ Z I M) (hg : wG Z I M N) (hN : N < 100000) : YI g 104 [(2, 547), (0, q)] σ (fun b σ' => b = (kcount Z M q).1 ∧ mW σ' (kcount Z M q).2.1 I (kcount Z M q).2.2 ∧ cfr σ σ') := by
  refine y_start rfl rfl rfl ?_
  have ⟨⟨hz, hu, hur⟩, x2, x3, ⟨x4, x5⟩, x6, x7⟩ := hx
  have ⟨⟨he, hd, hn, hu2, h67, hk⟩, g2, g3, g4⟩ := hg
  have ⟨⟨f1, f2, f3⟩, f5, f6, f7, f8⟩ := hz
  have ⟨e1, e2, e3⟩ := he
  have x60 : σ 551 0 = M 3 0 := x6 0 (by omega) (by omega)
  have x61 : σ 551 1 = M 3 1 := x6 1 (by omega) (by omega)
  have x62 : σ 551 2 = M 3 2 := x6 2 (by omega) (by omega)
  have g40 := g4 0 (by omega) (by omega)
  have g41 := g4 1 (by omega) (by omega)
  have g42 := g4 2 (by omega) (by omega)
  have hu : σ 548 106 = Z 2 0 0 := hu
  have f1 : σ 548 (0 + 0) = Z 0 0 0 := f1
  have f10 : σ 548 0 = Z 0 0 0 := f1
  have f2 : σ 548 (0 + 10) = Z 0 1 0 := f2
  have f20 : σ 548 10 = Z 0 1 0 := f2
  have f30 : σ 548 105 = Z 1 5 0 := f3
  refine y_iload rfl rfl ?_
  refine y_i2l rfl ?_
  refine y_lconst (v := 0) rfl rfl ?_
  refine y_ldc2 (v := 4) rfl rfl ?_
  refine y_si (as := [(1, q), (1, 0), (1, 4)]) (S := []) rfl rfl rfl rfl rfl rfl m_lies ?_
  rintro _ _ ⟨rfl, rfl⟩
  refine y_ifeq rfl (fun q9 => ?_) (fun q9 => ?_)
  · skip
    replace q9 := yb_0.mp q9
    refine y_aload rfl rfl rfl ?_
    refine y_vi (as := [(2, 547)]) (S := []) rfl rfl rfl rfl rfl rfl (by decide) rfl (m_bad (by omega)) ?_
    rintro _ _ ⟨rfl, rfl⟩
    refine y_iret rfl rfl ⟨_, rfl, ?_⟩
    have hK : kcount Z M q = (_, Z, bump M 0) := if_neg (by omega)
    rw [hK]
    exact ⟨rfl, mW_bump hg hx (by omega) rfl, cfr_s (cfr_0 _) (by omega)⟩
  · skip
    replace q9 := yb_1.mp q9
    refine y_aload rfl rfl rfl ?_
    refine y_iload rfl rfl ?_
    refine y_vi (as := [(2, 547), (0, q)]) (S := []) rfl rfl rfl rfl rfl rfl (by decide) rfl (m_countOf hx hg hN (by omega)) ?_
    rintro _ _ ⟨rfl, rfl⟩
    refine y_goto rfl ?_
    refine y_iret rfl rfl ⟨_, rfl, ?_⟩
    have hK : kcount Z M q = (khow Z M q, Z, M) := if_pos (by omega)
    rw [hK]
    exact ⟨rfl, hx, cfr_0 _⟩
theorem mW_text {σ τ : YS} {Z : YZ} {I : Int → YZ} {M M' : YS} {N : Int} (hg : wG Z I M N) (h : mW σ Z I M) (e : ∀ x y, ¬ (x = 547 ∧ y = 3) → x ≠ 550 → τ x y = σ x y) (em : ∀ r c, r ≠ 1 → r ≠ 2 → M' r c = M r c) (h2 : τ 547 3 = M' 2 0) (h1 : ∀ k, 0 ≤ k → k < M' 2 0 → τ 550 k = M' 1 k) : mW τ Z I M' := by
  obtain ⟨x1, x2, x3, x4, x6, x7⟩ := h
  refine ⟨mz_cong hg.1 x1 (fun y a b => e _ _ (by omega) (by omega)), fun j a b c => ?_, fun j a b => by rw [em _ _ (by omega) (by omega), e _ _ (by omega) (by omega)]; exact x3 j a b, ⟨h2, h1⟩, fun j a b => by rw [em _ _ (by omega) (by omega), e _ _ (by omega) (by omega)]; exact x6 j a b, by rw [e _ _ (by omega) (by omega)]; exact x7⟩
  rw [em _ _ (by omega) (by omega)] at c
  exact mz_cong ((hg.2.1 j a b).2 c) (x2 j a b c) (fun y a b => e _ _ (by omega) (by omega))
theorem m_clear {g : Launch × XG × va_G} {σ : YS} {Z : YZ} {I : Int → YZ} {M : YS} {N : Int}  (hx : mW σ Z I M) (hg : wG Z I M N) (hN : N < 100000) : YI g 41 [(2, 547)] σ (fun b σ' => b = (kclear Z M).1 ∧ mW σ' (kclear Z M).2.1 I (kclear Z M).2.2 ∧ cfr σ σ') := by
  refine y_start rfl rfl rfl ?_
  have ⟨⟨hz, hu, hur⟩, x2, x3, ⟨x4, x5⟩, x6, x7⟩ := hx
  have ⟨⟨he, hd, hn, hu2, h67, hk⟩, g2, g3, g4⟩ := hg
  have ⟨⟨f1, f2, f3⟩, f5, f6, f7, f8⟩ := hz
  have ⟨e1, e2, e3⟩ := he
  have x60 : σ 551 0 = M 3 0 := x6 0 (by omega) (by omega)
  have x61 : σ 551 1 = M 3 1 := x6 1 (by omega) (by omega)
  have x62 : σ 551 2 = M 3 2 := x6 2 (by omega) (by omega)
  have g40 := g4 0 (by omega) (by omega)
  have g41 := g4 1 (by omega) (by omega)
  have g42 := g4 2 (by omega) (by omega)
  have hu : σ 548 106 = Z 2 0 0 := hu
  have f1 : σ 548 (0 + 0) = Z 0 0 0 := f1
  have f10 : σ 548 0 = Z 0 0 0 := f1
  have f2 : σ 548 (0 + 10) = Z 0 1 0 := f2
  have f20 : σ 548 10 = Z 0 1 0 := f2
  have f30 : σ 548 105 = Z 1 5 0 := f3
  refine y_aload rfl rfl rfl ?_
  refine y_gfi (v := (σ 547 3)) rfl rfl (by decide) rfl (by decide) rfl rfl ?_
  refine y_istore (L' := [some (2, 547), some (0, (σ 547 3))]) rfl rfl rfl rfl ?_
  refine y_aload rfl rfl rfl ?_
  refine y_push rfl ?_
  refine y_pfi (j := 3) rfl rfl (by decide) rfl rfl rfl rfl rfl ?_
  refine y_iload rfl rfl ?_
  refine y_iret rfl rfl ⟨_, rfl, ?_⟩
  unfold kclear
  dsimp only
  exact ⟨x4, mW_text hg hx (fun x y z z2 => yne (by omega) rfl) (fun r c p q => yne (by omega) rfl) (by rw [yeq, yeq]) (fun k a b => by rw [yeq] at b; omega), cfr_s (cfr_0 _) (by omega)⟩
theorem lm_type {g : Launch × XG × va_G} {σ : YS} {Z : YZ} {I : Int → YZ} {M : YS} {N : Int} {v n : Int} (hx : mW σ Z I M) (hg : wG Z I M N) (hN : N < 100000) (hn : 1 ≤ n ∧ n ≤ 8) (hl : M 2 0 + n ≤ 200) : ∀ (nn : Nat) (τ : YS) (k : Int), k + 1 < (nn : Int) → (-1 ≤ k ∧ k ≤ n - 1) → (τ 547 3 = M 2 0 + (n - 1 - k)) → (∀ c, 0 ≤ c → c < M 2 0 + (n - 1 - k) → τ 550 c = mtype M v n 1 c) → (∀ x y, ¬ (x = 547 ∧ y = 3) → x ≠ 550 → τ x y = σ x y) → YW g 39 41 [some (2, 547), some (1, v), none, some (0, n), some (0, k)] [] τ (fun rv σ' => ∃ b, rv = some (0, b) ∧ (b = (ktype Z M v n).1 ∧ mW σ' (ktype Z M v n).2.1 I (ktype Z M v n).2.2 ∧ cfr σ σ')) := by
  intro nn
  induction nn with
  | zero =>
    intro τ k hn h0 h1 h2 h3
    exfalso
    omega
  | succ nn ih =>
    intro τ k hn h0 h1 h2 h3
    have ⟨⟨a1, a2, a3, a4, a5, a6⟩, g2, g3, g4⟩ := hg
    refine y_iload rfl rfl ?_
    refine y_iflt rfl (fun q43 => ?_) (fun q43 => ?_)
    · skip
      refine y_aload rfl rfl rfl ?_
      refine y_gfi (v := (τ 547 3)) rfl rfl (by decide) rfl (by decide) rfl rfl ?_
      refine y_iret rfl rfl ⟨_, rfl, ?_⟩
      have hK : ktype Z M v n = (M 2 0 + n, Z, mtype M v n) := (if_neg (by omega)).trans (if_neg (by omega))
      rw [hK]
      dsimp only
      have h20 : mtype M v n 2 0 = M 2 0 + n := by unfold mtype; rw [if_neg (by omega), if_pos ⟨rfl, rfl⟩]
      exact ⟨by omega, mW_text hg hx h3 (fun r c p q => by unfold mtype; rw [if_neg (by omega), if_neg (by omega)]) (by rw [h20]; omega) (fun c a b => h2 c a (by rw [h20] at b; omega)), fun x y z => h3 x y (by omega) (by omega)⟩
    · skip
      refine y_aload rfl rfl rfl ?_
      refine y_gfr (t := 550) rfl rfl (by decide) rfl (by decide) ?_
      refine y_aload rfl rfl rfl ?_
      refine y_gfi (v := (τ 547 3)) rfl rfl (by decide) rfl (by decide) rfl rfl ?_
      refine y_lload rfl rfl ?_
      refine y_push rfl ?_
      refine y_iload rfl rfl ?_
      refine y_imul (v := (8 * k)) rfl rfl (by omega) ?_
      refine y_lshr (v := (ylshr v (8 * k))) rfl rfl ?_
      refine y_ldc2 (v := 255) rfl rfl ?_
      refine y_land (v := (yland (ylshr v (8 * k)) 255)) rfl rfl ?_
      refine y_l2i (v := (yl2i (yland (ylshr v (8 * k)) 255))) rfl rfl ?_
      refine y_iast (n := 200) rfl rfl (by decide) rfl (by omega) ?_
      refine y_aload rfl rfl rfl ?_
      refine y_dup rfl rfl ?_
      refine y_gfi (v := (τ 547 3)) rfl rfl (by decide) rfl (by decide) rfl (yne (by omega) rfl) ?_
      refine y_push rfl ?_
      refine y_iadd (v := ((τ 547 3) + 1)) rfl rfl (by omega) ?_
      refine y_pfi (j := 3) rfl rfl (by decide) rfl rfl rfl rfl rfl ?_
      refine y_iinc (L' := [some (2, 547), some (1, v), none, some (0, n), some (0, (k + (-1)))]) rfl rfl rfl rfl rfl (by omega) ?_
      refine y_goto rfl ?_
      refine ih (yset (yset τ 550 (τ 547 3) (yl2i (yland (ylshr v (8 * k)) 255))) 547 3 ((τ 547 3) + 1)) (k + -1) (by omega) (by omega) (by rw [yeq]; omega) (fun c a b => ?_) (fun x y p q => by rw [yne (by omega) rfl, yne (by omega) rfl]; exact h3 x y p q)
      rw [yne (by omega) rfl]
      by_cases e : c = τ 547 3
      · subst e; rw [yeq]; show ybyte v k = _; unfold mtype; rw [if_pos ⟨rfl, by omega, by omega⟩, show n - 1 - (τ 547 3 - M 2 0) = k by omega]
      · rw [yne (by omega) rfl]; exact h2 c a (by omega)
theorem m_type {g : Launch × XG × va_G} {σ : YS} {Z : YZ} {I : Int → YZ} {M : YS} {N : Int} {v n : Int} (hx : mW σ Z I M) (hg : wG Z I M N) (hN : N < 100000) : YI g 39 [(2, 547), (1, v), (0, n)] σ (fun b σ' => b = (ktype Z M v n).1 ∧ mW σ' (ktype Z M v n).2.1 I (ktype Z M v n).2.2 ∧ cfr σ σ') := by
  refine y_start rfl rfl rfl ?_
  have ⟨⟨hz, hu, hur⟩, x2, x3, ⟨x4, x5⟩, x6, x7⟩ := hx
  have ⟨⟨he, hd, hn, hu2, h67, hk⟩, g2, g3, g4⟩ := hg
  have ⟨⟨f1, f2, f3⟩, f5, f6, f7, f8⟩ := hz
  have ⟨e1, e2, e3⟩ := he
  have x60 : σ 551 0 = M 3 0 := x6 0 (by omega) (by omega)
  have x61 : σ 551 1 = M 3 1 := x6 1 (by omega) (by omega)
  have x62 : σ 551 2 = M 3 2 := x6 2 (by omega) (by omega)
  have g40 := g4 0 (by omega) (by omega)
  have g41 := g4 1 (by omega) (by omega)
  have g42 := g4 2 (by omega) (by omega)
  have hu : σ 548 106 = Z 2 0 0 := hu
  have f1 : σ 548 (0 + 0) = Z 0 0 0 := f1
  have f10 : σ 548 0 = Z 0 0 0 := f1
  have f2 : σ 548 (0 + 10) = Z 0 1 0 := f2
  have f20 : σ 548 10 = Z 0 1 0 := f2
  have f30 : σ 548 105 = Z 1 5 0 := f3
  refine y_iload rfl rfl ?_
  refine y_i2l rfl ?_
  refine y_lconst (v := 1) rfl rfl ?_
  refine y_ldc2 (v := 8) rfl rfl ?_
  refine y_si (as := [(1, n), (1, 1), (1, 8)]) (S := []) rfl rfl rfl rfl rfl rfl m_lies ?_
  rintro _ _ ⟨rfl, rfl⟩
  refine y_ifne rfl (fun q9 => ?_) (fun q9 => ?_)
  · skip
    replace q9 := yb_1.mp q9
    refine y_aload rfl rfl rfl ?_
    refine y_gfi (v := (σ 547 3)) rfl rfl (by decide) rfl (by decide) rfl rfl ?_
    refine y_iload rfl rfl ?_
    refine y_iadd (v := ((σ 547 3) + n)) rfl rfl (by omega) ?_
    refine y_push rfl ?_
    refine y_icle rfl (fun q26 => ?_) (fun q26 => ?_)
    · skip
      refine y_iload rfl rfl ?_
      refine y_push rfl ?_
      refine y_isub (v := (n - 1)) rfl rfl (by omega) ?_
      refine y_istore (L' := [some (2, 547), some (1, v), none, some (0, n), some (0, (n - 1))]) rfl rfl rfl rfl ?_
      exact lm_type hx hg hN ⟨by omega, by omega⟩ (by omega) 9 σ (n - 1) (by omega) (by omega) (by omega) (fun c a b => by unfold mtype; rw [if_neg (by omega), if_neg (by omega)]; exact x5 c a (by omega)) (fun x y _ _ => rfl)
    · skip
      refine y_aload rfl rfl rfl ?_
      refine y_push rfl ?_
      refine y_vi (as := [(2, 547), (0, (-4))]) (S := []) rfl rfl rfl rfl rfl rfl (by decide) rfl (m_met4 (by omega)) ?_
      rintro _ _ ⟨rfl, rfl⟩
      refine y_iret rfl rfl ⟨_, rfl, ?_⟩
      have hK : ktype Z M v n = (_, Z, bump M 2) := (if_neg (by omega)).trans (if_pos (by omega))
      rw [hK]
      exact ⟨rfl, mW_bump hg hx (by omega) rfl, cfr_s (cfr_0 _) (by omega)⟩
  · skip
    replace q9 := yb_0.mp q9
    refine y_aload rfl rfl rfl ?_
    refine y_vi (as := [(2, 547)]) (S := []) rfl rfl rfl rfl rfl rfl (by decide) rfl (m_bad (by omega)) ?_
    rintro _ _ ⟨rfl, rfl⟩
    refine y_iret rfl rfl ⟨_, rfl, ?_⟩
    have hK : ktype Z M v n = (_, Z, bump M 0) := if_pos (by omega)
    rw [hK]
    exact ⟨rfl, mW_bump hg hx (by omega) rfl, cfr_s (cfr_0 _) (by omega)⟩
theorem mz_copy {σ σ' : YS} {p q : Int} {Z : YZ} {N : Int} (hz : zG Z N) (h : mz σ p Z) (e : ∀ k, 0 ≤ k → k < 527 → σ' 548 (q + k) = σ 548 (p + k)) : mz σ' q Z := by
  have hu := hz.2.2.2.1
  have he := hz.1
  have hm := he.2.1
  have f : ∀ k y, 0 ≤ k → k < 527 → y = q + k → σ' 548 y = σ 548 (p + k) := fun k y a b c => by rw [c]; exact e k a b
  obtain ⟨⟨⟨h1, h2, h3⟩, h4, h5, h6, h7⟩, h8, h9⟩ := h
  refine ⟨⟨⟨?_, ?_, ?_⟩, fun c a b => ?_, fun i a b => ?_, fun i a b => ?_, fun j a b => ?_⟩, ?_, fun k a b => ?_⟩
  · rw [f 0 _ (by omega) (by omega) (by omega)]; exact h1
  · rw [f 10 _ (by omega) (by omega) (by omega)]; exact h2
  · rw [f 105 _ (by omega) (by omega) (by omega)]; exact h3
  · rw [f (1 + c) _ (by omega) (by omega) (by omega), show p + (1 + c) = p + 1 + c by omega]; exact h4 c a b
  · have t := (he.2.2 i a b).2.1
    have := h5 i a b
    unfold mzi at this ⊢
    rw [f (11 + i) (q + 11 + i) (by omega) (by omega) (by omega), f (14 + i) (q + 14 + i) (by omega) (by omega) (by omega), f (17 + i) (q + 17 + i) (by omega) (by omega) (by omega), f (20 + i) (q + 20 + i) (by omega) (by omega) (by omega), f (23 + i) (q + 23 + i) (by omega) (by omega) (by omega), f (26 + i) (q + 26 + i) (by omega) (by omega) (by omega), show p + (11 + i) = p + 11 + i by omega, show p + (14 + i) = p + 14 + i by omega, show p + (17 + i) = p + 17 + i by omega, show p + (20 + i) = p + 20 + i by omega, show p + (23 + i) = p + 23 + i by omega, show p + (26 + i) = p + 26 + i by omega]
    exact ⟨this.1, this.2.1, fun k c d => by rw [f (29 + 24 * i + k) _ (by omega) (by omega) (by omega), show p + (29 + 24 * i + k) = p + 29 + 24 * i + k by omega]; exact this.2.2.1 k c d, this.2.2.2⟩
  · rw [f (26 + i) _ (by omega) (by omega) (by omega), show p + (26 + i) = p + 26 + i by omega]; exact h6 i a b
  · rw [f (101 + j) _ (by omega) (by omega) (by omega), show p + (101 + j) = p + 101 + j by omega]; exact h7 j a b
  · rw [f 106 _ (by omega) (by omega) (by omega)]; exact h8
  · obtain ⟨c1, c2⟩ := h9 k a b
    have g : ∀ y, q + 107 + 21 * (Z 2 0 0 - 1 - k) ≤ y → y ≤ q + 107 + 21 * (Z 2 0 0 - 1 - k) + 20 → σ' 548 y = σ 548 (p + (y - q)) := fun y c d => f (y - q) y (by omega) (by omega) (by omega)
    refine ⟨fun c x y => ?_, fun i x y => ?_⟩
    · rw [g _ (by omega) (by omega), show p + (q + 107 + 21 * (Z 2 0 0 - 1 - k) + c - q) = p + 107 + 21 * (Z 2 0 0 - 1 - k) + c by omega]; exact c1 c x y
    · rw [g (q + 107 + 21 * (Z 2 0 0 - 1 - k) + 9 + i) (by omega) (by omega), g (q + 107 + 21 * (Z 2 0 0 - 1 - k) + 9 + (3 + i)) (by omega) (by omega), g (q + 107 + 21 * (Z 2 0 0 - 1 - k) + 9 + (6 + i)) (by omega) (by omega), g (q + 107 + 21 * (Z 2 0 0 - 1 - k) + 9 + (9 + i)) (by omega) (by omega)]
      rw [show p + (q + 107 + 21 * (Z 2 0 0 - 1 - k) + 9 + i - q) = p + 107 + 21 * (Z 2 0 0 - 1 - k) + 9 + i by omega, show p + (q + 107 + 21 * (Z 2 0 0 - 1 - k) + 9 + (3 + i) - q) = p + 107 + 21 * (Z 2 0 0 - 1 - k) + 9 + (3 + i) by omega, show p + (q + 107 + 21 * (Z 2 0 0 - 1 - k) + 9 + (6 + i) - q) = p + 107 + 21 * (Z 2 0 0 - 1 - k) + 9 + (6 + i) by omega, show p + (q + 107 + 21 * (Z 2 0 0 - 1 - k) + 9 + (9 + i) - q) = p + 107 + 21 * (Z 2 0 0 - 1 - k) + 9 + (9 + i) by omega]
      exact c2 i x y
theorem mz_w {σ : YS} {r v : Int} {Z : YZ} {N : Int} (hz : zG Z N) (h : mz σ r Z) : mz σ r (zw Z v) := by
  have z1 : ∀ q c, q ≠ 6 → zw Z v 1 q c = Z 1 q c := fun q c hq => yne (by omega) rfl
  obtain ⟨⟨⟨h1, h2, h3⟩, h4, h5, h6, h7⟩, h8, h9⟩ := h
  refine ⟨⟨⟨h1, h2, by rw [z1 _ _ (by omega)]; exact h3⟩, fun c a b => by rw [z1 _ _ (by omega)]; exact h4 c a b, fun i a b => mzi_E (by have := hz.1.2.1; exact ⟨a, by have b : i < Z 0 1 0 := b; omega⟩) (h5 i a b) (hz.1.2.2 i a b).2.1.2 (fun _ _ => rfl) rfl rfl (fun _ _ _ => rfl) (fun r _ _ => z1 _ _ (by omega)), h6, h7⟩, h8, fun k a b => ?_⟩
  have z3 : zw Z v (3 + k) = Z (3 + k) := by unfold zw; rw [if_neg (by omega)]
  rw [z3]
  exact h9 k a b
theorem mW_image {σ σ1 : YS} {Z : YZ} {I : Int → YZ} {M : YS} {N i q : Int} (hg : wG Z I M N) (h : mW σ Z I M) (hi : 0 ≤ i ∧ i < 2) (hq : q = 527 * (1 + i)) (z1 : ∀ k, 0 ≤ k → k < 527 → σ1 548 (q + k) = σ 548 (0 + k)) (z2 : wfr σ σ1 q) : mW (yset σ1 549 i 1) Z (iset I i Z) (yset M 0 i 1) := by
  subst hq
  obtain ⟨x1, x2, x3, ⟨x4, x5⟩, x6, x7⟩ := h
  have em : ∀ r c, r ≠ 0 → yset M 0 i 1 r c = M r c := fun r c h => yne (by omega) rfl
  have e : ∀ x y, x ≠ 549 → (x ≠ 548 ∨ y < 527 * (1 + i) ∨ 527 * (1 + i) + 526 < y) → yset σ1 549 i 1 x y = σ x y := fun x y a b => by rw [yne (by omega) rfl, z2 x y b]
  refine ⟨mz_cong hg.1 x1 (fun y a b => e _ _ (by omega) (by omega)), fun j a b c => ?_, fun j a b => ?_, ⟨by rw [em 2 0 (by omega), e _ _ (by omega) (by omega)]; exact x4, fun k a b => by rw [em 2 0 (by omega)] at b; rw [em 1 k (by omega), e _ _ (by omega) (by omega)]; exact x5 k a b⟩, fun j a b => by rw [em 3 j (by omega), e _ _ (by omega) (by omega)]; exact x6 j a b, by rw [e _ _ (by omega) (by omega)]; exact x7⟩
  · unfold iset
    by_cases w : j = i
    · subst w
      rw [if_pos rfl]
      exact mz_copy hg.1 x1 (fun k a b => by rw [yne (by omega) rfl]; exact z1 k a b)
    · rw [if_neg w]
      have c' : M 0 j = 1 := by rw [← c, yne (by omega) rfl]
      exact mz_cong ((hg.2.1 j a b).2 c') (x2 j a b c') (fun y a b => e _ _ (by omega) (by omega))
  · by_cases w : j = i
    · subst w; rw [yeq, yeq]
    · rw [yne (by omega) rfl, yne (by omega) rfl, z2 _ _ (by omega)]; exact x3 j a b
theorem m_image {g : Launch × XG × va_G} {σ : YS} {Z : YZ} {I : Int → YZ} {M : YS} {N : Int} {i : Int} (hx : mW σ Z I M) (hg : wG Z I M N) (hN : N < 100000) : YI g 96 [(2, 547), (0, i)] σ (fun b σ' => b = (kimage Z I M i).1 ∧ mW σ' (kimage Z I M i).2.1 (kimage Z I M i).2.2.1 (kimage Z I M i).2.2.2 ∧ cfr σ σ') := by
  refine y_start rfl rfl rfl ?_
  have ⟨⟨hz, hu, hur⟩, x2, x3, ⟨x4, x5⟩, x6, x7⟩ := hx
  have ⟨⟨he, hd, hn, hu2, h67, hk⟩, g2, g3, g4⟩ := hg
  have ⟨⟨f1, f2, f3⟩, f5, f6, f7, f8⟩ := hz
  have ⟨e1, e2, e3⟩ := he
  have x60 : σ 551 0 = M 3 0 := x6 0 (by omega) (by omega)
  have x61 : σ 551 1 = M 3 1 := x6 1 (by omega) (by omega)
  have x62 : σ 551 2 = M 3 2 := x6 2 (by omega) (by omega)
  have g40 := g4 0 (by omega) (by omega)
  have g41 := g4 1 (by omega) (by omega)
  have g42 := g4 2 (by omega) (by omega)
  have hu : σ 548 106 = Z 2 0 0 := hu
  have f1 : σ 548 (0 + 0) = Z 0 0 0 := f1
  have f10 : σ 548 0 = Z 0 0 0 := f1
  have f2 : σ 548 (0 + 10) = Z 0 1 0 := f2
  have f20 : σ 548 10 = Z 0 1 0 := f2
  have f30 : σ 548 105 = Z 1 5 0 := f3
  refine y_iload rfl rfl ?_
  refine y_i2l rfl ?_
  refine y_lconst (v := 0) rfl rfl ?_
  refine y_lconst (v := 1) rfl rfl ?_
  refine y_si (as := [(1, i), (1, 0), (1, 1)]) (S := []) rfl rfl rfl rfl rfl rfl m_lies ?_
  rintro _ _ ⟨rfl, rfl⟩
  refine y_ifne rfl (fun q7 => ?_) (fun q7 => ?_)
  · skip
    replace q7 := yb_1.mp q7
    refine y_aload rfl rfl rfl ?_
    refine y_push rfl ?_
    refine y_push rfl ?_
    refine y_push rfl ?_
    refine y_iload rfl rfl ?_
    refine y_iadd (v := (1 + i)) rfl rfl (by omega) ?_
    refine y_imul (v := (527 * (1 + i))) rfl rfl (by omega) ?_
    refine y_vu (as := [(2, 547), (0, 0), (0, (527 * (1 + i)))]) (S := []) rfl rfl rfl rfl rfl rfl (by decide) rfl (m_copy (p := 0) (q := (527 * (1 + i))) (by omega) (by omega) (by omega)) ?_
    rintro σ1 ⟨z1, z2⟩
    refine y_aload rfl rfl rfl ?_
    refine y_gfr (t := 549) rfl rfl (by decide) rfl (by decide) ?_
    refine y_iload rfl rfl ?_
    refine y_push rfl ?_
    refine y_bast (n := 2) rfl rfl (by decide) rfl (by omega) (by decide) ?_
    refine y_push rfl ?_
    refine y_iret rfl rfl ⟨_, rfl, ?_⟩
    have hK : kimage Z I M i = (1, Z, iset I i Z, yset M 0 i 1) := if_pos (by omega)
    rw [hK]
    exact ⟨rfl, mW_image hg hx (by omega) rfl z1 z2, cfr_s (cfr_w z2) (by omega)⟩
  · skip
    replace q7 := yb_0.mp q7
    refine y_aload rfl rfl rfl ?_
    refine y_vi (as := [(2, 547)]) (S := []) rfl rfl rfl rfl rfl rfl (by decide) rfl (m_bad (by omega)) ?_
    rintro _ _ ⟨rfl, rfl⟩
    refine y_iret rfl rfl ⟨_, rfl, ?_⟩
    have hK : kimage Z I M i = (-2, Z, I, bump M 0) := if_neg (by omega)
    rw [hK]
    exact ⟨rfl, mW_bump hg hx (by omega) rfl, cfr_s (cfr_0 _) (by omega)⟩
theorem m_from {g : Launch × XG × va_G} {σ : YS} {Z : YZ} {I : Int → YZ} {M : YS} {N : Int} {i : Int} (hx : mW σ Z I M) (hg : wG Z I M N) (hN : N < 100000) : YI g 99 [(2, 547), (0, i)] σ (fun b σ' => b = (kfrom Z I M i).1 ∧ mW σ' (kfrom Z I M i).2.1 I (kfrom Z I M i).2.2 ∧ cfr σ σ') := by
  refine y_start rfl rfl rfl ?_
  have ⟨⟨hz, hu, hur⟩, x2, x3, ⟨x4, x5⟩, x6, x7⟩ := hx
  have ⟨⟨he, hd, hn, hu2, h67, hk⟩, g2, g3, g4⟩ := hg
  have ⟨⟨f1, f2, f3⟩, f5, f6, f7, f8⟩ := hz
  have ⟨e1, e2, e3⟩ := he
  have x60 : σ 551 0 = M 3 0 := x6 0 (by omega) (by omega)
  have x61 : σ 551 1 = M 3 1 := x6 1 (by omega) (by omega)
  have x62 : σ 551 2 = M 3 2 := x6 2 (by omega) (by omega)
  have g40 := g4 0 (by omega) (by omega)
  have g41 := g4 1 (by omega) (by omega)
  have g42 := g4 2 (by omega) (by omega)
  have hu : σ 548 106 = Z 2 0 0 := hu
  have f1 : σ 548 (0 + 0) = Z 0 0 0 := f1
  have f10 : σ 548 0 = Z 0 0 0 := f1
  have f2 : σ 548 (0 + 10) = Z 0 1 0 := f2
  have f20 : σ 548 10 = Z 0 1 0 := f2
  have f30 : σ 548 105 = Z 1 5 0 := f3
  refine y_iload rfl rfl ?_
  refine y_i2l rfl ?_
  refine y_lconst (v := 0) rfl rfl ?_
  refine y_lconst (v := 1) rfl rfl ?_
  refine y_si (as := [(1, i), (1, 0), (1, 1)]) (S := []) rfl rfl rfl rfl rfl rfl m_lies ?_
  rintro _ _ ⟨rfl, rfl⟩
  refine y_ifne rfl (fun q7 => ?_) (fun q7 => ?_)
  · skip
    replace q7 := yb_1.mp q7
    have x3i := x3 i (by omega) (by omega)
    have g2i := g2 i (by omega) (by omega)
    refine y_aload rfl rfl rfl ?_
    refine y_gfr (t := 549) rfl rfl (by decide) rfl (by decide) ?_
    refine y_iload rfl rfl ?_
    refine y_bald (v := (σ 549 i)) (n := 2) rfl rfl (by decide) rfl (by omega) rfl ?_
    refine y_ifne rfl (fun q21 => ?_) (fun q21 => ?_)
    · skip
      have hM : M 0 i = 1 := by omega
      refine y_aload rfl rfl rfl ?_
      refine y_push rfl ?_
      refine y_push rfl ?_
      refine y_iload rfl rfl ?_
      refine y_iadd (v := (1 + i)) rfl rfl (by omega) ?_
      refine y_imul (v := (527 * (1 + i))) rfl rfl (by omega) ?_
      refine y_push rfl ?_
      refine y_vu (as := [(2, 547), (0, (527 * (1 + i))), (0, 0)]) (S := []) rfl rfl rfl rfl rfl rfl (by decide) rfl (m_copy (p := (527 * (1 + i))) (q := 0) (by omega) (by omega) (by omega)) ?_
      rintro σ1 ⟨z1, z2⟩
      refine y_push rfl ?_
      refine y_iret rfl rfl ⟨_, rfl, ?_⟩
      have hK : kfrom Z I M i = (1, zw (I i) (Z 1 6 0), M) := (if_neg (by omega)).trans (if_neg (by omega))
      rw [hK]
      exact ⟨rfl, mW_now hg hx (mz_w (g2i.2 hM) (mz_copy (g2i.2 hM) (x2 i (by omega) (by omega) hM) z1)) z2, cfr_w z2⟩
    · skip
      refine y_aload rfl rfl rfl ?_
      refine y_push rfl ?_
      refine y_vi (as := [(2, 547), (0, (-3))]) (S := []) rfl rfl rfl rfl rfl rfl (by decide) rfl (m_met3 (by omega)) ?_
      rintro _ _ ⟨rfl, rfl⟩
      refine y_iret rfl rfl ⟨_, rfl, ?_⟩
      have hK : kfrom Z I M i = (_, Z, bump M 1) := (if_neg (by omega)).trans (if_pos (by omega))
      rw [hK]
      exact ⟨rfl, mW_bump hg hx (by omega) rfl, cfr_s (cfr_0 _) (by omega)⟩
  · skip
    replace q7 := yb_0.mp q7
    refine y_aload rfl rfl rfl ?_
    refine y_vi (as := [(2, 547)]) (S := []) rfl rfl rfl rfl rfl rfl (by decide) rfl (m_bad (by omega)) ?_
    rintro _ _ ⟨rfl, rfl⟩
    refine y_iret rfl rfl ⟨_, rfl, ?_⟩
    have hK : kfrom Z I M i = (_, Z, bump M 0) := if_pos (by omega)
    rw [hK]
    exact ⟨rfl, mW_bump hg hx (by omega) rfl, cfr_s (cfr_0 _) (by omega)⟩
