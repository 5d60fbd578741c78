theorem lm_read1 {g : Launch × XG × va_G} {σ : YS} {Z : YZ} {I : Int → YZ} {M : YS} {N : Int}  (hx : mW σ Z I M) (hg : wG Z I M N) (hN : N < 100000) : ∀ (nn : Nat) (τ : YS) (n : Nat), 42 - n < (nn : Int) → (τ 547 7 = n) → ((n : Int) ≤ 41) → ((τ 547 9 = -1 ∧ (0 ≤ τ 547 8 ∧ τ 547 8 ≤ M 2 0) ∧ nmS (M 1) (M 2 0) (τ 547 8) = (ips (M 1) (M 2 0) n) ∧ 5 * (n : Int) ≤ τ 547 8 ∧ (∀ j : Nat, j < n → (ips (M 1) (M 2 0) j) ≠ M 2 0 ∧ itF (M 1) (M 2 0) j (ips (M 1) (M 2 0) j) = -1) ∧ (∀ j : Nat, j < n → τ 552 j = lwd (M 1) (M 2 0) (ips (M 1) (M 2 0) j) ∧ τ 553 (3 * (j : Int)) = itA (M 1) (M 2 0) (ips (M 1) (M 2 0) j) ∧ (lwd (M 1) (M 2 0) (ips (M 1) (M 2 0) j) = 1 ∨ lwd (M 1) (M 2 0) (ips (M 1) (M 2 0) j) = 2 → τ 553 (3 * (j : Int) + 1) = itB (M 1) (M 2 0) (ips (M 1) (M 2 0) j)) ∧ (lwd (M 1) (M 2 0) (ips (M 1) (M 2 0) j) = 3 → τ 553 (3 * (j : Int) + 1) = itG (M 1) (M 2 0) (ips (M 1) (M 2 0) j) ∧ τ 553 (3 * (j : Int) + 2) = itM (M 1) (M 2 0) (ips (M 1) (M 2 0) j)))) ∨ (∃ m : Nat, n = m + 1 ∧ (∀ j : Nat, j < m → (ips (M 1) (M 2 0) j) ≠ M 2 0 ∧ itF (M 1) (M 2 0) j (ips (M 1) (M 2 0) j) = -1) ∧ (ips (M 1) (M 2 0) m) ≠ M 2 0 ∧ itF (M 1) (M 2 0) m (ips (M 1) (M 2 0) m) ≠ -1 ∧ τ 547 9 = itF (M 1) (M 2 0) m (ips (M 1) (M 2 0) m) ∧ -1 ≤ τ 547 9 ∧ τ 547 9 ≤ 200)) → (∀ x y, ¬ (x = 547 ∧ 7 ≤ y ∧ y ≤ 9) → x ≠ 552 → x ≠ 553 → τ x y = σ x y) → YW g 46 15 [some (2, 547), none] [] τ (fun rv σ' => ∃ b, rv = some (0, b) ∧ (∃ Z', kread Z M b Z' ∧ mW σ' Z' I M ∧ cfr σ σ')) := by
  intro nn
  induction nn with
  | zero =>
    intro τ n hn h0 h1 h2 h3
    exfalso
    omega
  | succ nn ih =>
    intro τ n hn h0 h1 h2 h3
    have ⟨a0, g2, g3, g4⟩ := hg
    refine y_aload rfl rfl rfl ?_
    refine y_gfi (v := (τ 547 9)) rfl rfl (by decide) rfl (by decide) rfl rfl ?_
    refine y_push rfl ?_
    refine y_icne rfl (fun q20 => ?_) (fun q20 => ?_)
    · skip
      refine y_aload rfl rfl rfl ?_
      refine y_aload rfl rfl rfl ?_
      refine y_gfi (v := (τ 547 9)) rfl rfl (by decide) rfl (by decide) rfl rfl ?_
      refine y_push rfl ?_
      have hL3 : τ 547 3 = M 2 0 := ((h3 _ _ (by omega) (by omega) (by omega)).trans hx.2.2.2.1.1)
      refine y_icne rfl (fun q43 => ?_) (fun q43 => ?_)
      · skip
        refine y_aload rfl rfl rfl ?_
        refine y_gfi (v := (τ 547 9)) rfl rfl (by decide) rfl (by decide) rfl rfl ?_
        refine y_pfi (j := 9) rfl rfl (by decide) rfl rfl rfl rfl rfl ?_
        refine y_aload rfl rfl rfl ?_
        refine y_gfi (v := (τ 547 9)) rfl rfl (by decide) rfl (by decide) rfl (yeq _ _ _ _) ?_
        refine y_push rfl ?_
        refine y_iceq rfl (fun q72 => ?_) (fun q72 => ?_)
        · skip
          refine y_push rfl ?_
          refine y_istore (L' := [some (2, 547), some (0, 0)]) rfl rfl rfl rfl ?_
          exfalso
          rcases h2 with ⟨z, _⟩ | ⟨m, m1, m2, m3, m4, m5, m6, m7⟩ <;> omega
        · skip
          refine y_push rfl ?_
          refine y_aload rfl rfl rfl ?_
          refine y_gfi (v := (τ 547 9)) rfl rfl (by decide) rfl (by decide) rfl (yeq _ _ _ _) ?_
          refine y_isub (v := ((-10) - (τ 547 9))) rfl rfl (by rcases h2 with ⟨z, _⟩ | ⟨m, m1, m2, m3, m4, m5, m6, m7⟩ <;> omega) ?_
          refine y_iret rfl rfl ⟨_, rfl, ?_⟩
          rcases h2 with ⟨z, _⟩ | ⟨m, m1, m2, m3, m4, m5, m6, m7⟩
          · exfalso; omega
          have t9 : τ 547 9 = itF (M 1) (M 2 0) m (ips (M 1) (M 2 0) m) := m5
          exact ⟨Z, ⟨m, ⟨m2, Or.inr m4⟩, Or.inr (Or.inl ⟨m3, by first | (exfalso; omega) | rw [← m5], rfl⟩)⟩, mW_mfs hg hx (fun x y a => by rw [yne (by omega) rfl]; exact h3 x y (by omega) (by omega) (by omega)), fun x y a => by rw [yne (by omega) rfl]; exact h3 x y (by omega) (by omega) (by omega)⟩
      · skip
        refine y_aload rfl rfl rfl ?_
        refine y_gfi (v := (τ 547 7)) rfl rfl (by decide) rfl (by decide) rfl rfl ?_
        refine y_ifne rfl (fun q50 => ?_) (fun q50 => ?_)
        · skip
          refine y_aload rfl rfl rfl ?_
          refine y_gfi (v := (τ 547 9)) rfl rfl (by decide) rfl (by decide) rfl rfl ?_
          refine y_pfi (j := 9) rfl rfl (by decide) rfl rfl rfl rfl rfl ?_
          refine y_aload rfl rfl rfl ?_
          refine y_gfi (v := (τ 547 9)) rfl rfl (by decide) rfl (by decide) rfl (yeq _ _ _ _) ?_
          refine y_push rfl ?_
          refine y_iceq rfl (fun q72 => ?_) (fun q72 => ?_)
          · skip
            refine y_push rfl ?_
            refine y_istore (L' := [some (2, 547), some (0, 0)]) rfl rfl rfl rfl ?_
            exfalso
            rcases h2 with ⟨z, _⟩ | ⟨m, m1, m2, m3, m4, m5, m6, m7⟩ <;> omega
          · skip
            refine y_push rfl ?_
            refine y_aload rfl rfl rfl ?_
            refine y_gfi (v := (τ 547 9)) rfl rfl (by decide) rfl (by decide) rfl (yeq _ _ _ _) ?_
            refine y_isub (v := ((-10) - (τ 547 9))) rfl rfl (by rcases h2 with ⟨z, _⟩ | ⟨m, m1, m2, m3, m4, m5, m6, m7⟩ <;> omega) ?_
            refine y_iret rfl rfl ⟨_, rfl, ?_⟩
            rcases h2 with ⟨z, _⟩ | ⟨m, m1, m2, m3, m4, m5, m6, m7⟩
            · exfalso; omega
            have t9 : τ 547 9 = itF (M 1) (M 2 0) m (ips (M 1) (M 2 0) m) := m5
            exact ⟨Z, ⟨m, ⟨m2, Or.inr m4⟩, Or.inr (Or.inl ⟨m3, by first | (exfalso; omega) | rw [← m5], rfl⟩)⟩, mW_mfs hg hx (fun x y a => by rw [yne (by omega) rfl]; exact h3 x y (by omega) (by omega) (by omega)), fun x y a => by rw [yne (by omega) rfl]; exact h3 x y (by omega) (by omega) (by omega)⟩
        · skip
          refine y_aload rfl rfl rfl ?_
          refine y_gfi (v := (τ 547 3)) rfl rfl (by decide) rfl (by decide) rfl rfl ?_
          refine y_goto rfl ?_
          refine y_pfi (j := 9) rfl rfl (by decide) rfl rfl rfl rfl rfl ?_
          refine y_aload rfl rfl rfl ?_
          refine y_gfi (v := (τ 547 3)) rfl rfl (by decide) rfl (by decide) rfl (yeq _ _ _ _) ?_
          refine y_push rfl ?_
          refine y_iceq rfl (fun q72 => ?_) (fun q72 => ?_)
          · skip
            refine y_push rfl ?_
            refine y_istore (L' := [some (2, 547), some (0, 0)]) rfl rfl rfl rfl ?_
            exfalso
            rcases h2 with ⟨z, _⟩ | ⟨m, m1, m2, m3, m4, m5, m6, m7⟩ <;> omega
          · skip
            refine y_push rfl ?_
            refine y_aload rfl rfl rfl ?_
            refine y_gfi (v := (τ 547 3)) rfl rfl (by decide) rfl (by decide) rfl (yeq _ _ _ _) ?_
            refine y_isub (v := ((-10) - (τ 547 3))) rfl rfl (by rcases h2 with ⟨z, _⟩ | ⟨m, m1, m2, m3, m4, m5, m6, m7⟩ <;> omega) ?_
            refine y_iret rfl rfl ⟨_, rfl, ?_⟩
            rcases h2 with ⟨z, _⟩ | ⟨m, m1, m2, m3, m4, m5, m6, m7⟩
            · exfalso; omega
            have t9 : τ 547 9 = itF (M 1) (M 2 0) m (ips (M 1) (M 2 0) m) := m5
            exact ⟨Z, ⟨m, ⟨m2, Or.inr m4⟩, Or.inr (Or.inl ⟨m3, by first | (exfalso; omega) | rw [← m5], rfl⟩)⟩, mW_mfs hg hx (fun x y a => by rw [yne (by omega) rfl]; exact h3 x y (by omega) (by omega) (by omega)), fun x y a => by rw [yne (by omega) rfl]; exact h3 x y (by omega) (by omega) (by omega)⟩
    · skip
      refine y_aload rfl rfl rfl ?_
      have hgd : (τ 547 9 = -1 ∧ (0 ≤ τ 547 8 ∧ τ 547 8 ≤ M 2 0) ∧ nmS (M 1) (M 2 0) (τ 547 8) = (ips (M 1) (M 2 0) n) ∧ 5 * (n : Int) ≤ τ 547 8 ∧ (∀ j : Nat, j < n → (ips (M 1) (M 2 0) j) ≠ M 2 0 ∧ itF (M 1) (M 2 0) j (ips (M 1) (M 2 0) j) = -1) ∧ (∀ j : Nat, j < n → τ 552 j = lwd (M 1) (M 2 0) (ips (M 1) (M 2 0) j) ∧ τ 553 (3 * (j : Int)) = itA (M 1) (M 2 0) (ips (M 1) (M 2 0) j) ∧ (lwd (M 1) (M 2 0) (ips (M 1) (M 2 0) j) = 1 ∨ lwd (M 1) (M 2 0) (ips (M 1) (M 2 0) j) = 2 → τ 553 (3 * (j : Int) + 1) = itB (M 1) (M 2 0) (ips (M 1) (M 2 0) j)) ∧ (lwd (M 1) (M 2 0) (ips (M 1) (M 2 0) j) = 3 → τ 553 (3 * (j : Int) + 1) = itG (M 1) (M 2 0) (ips (M 1) (M 2 0) j) ∧ τ 553 (3 * (j : Int) + 2) = itM (M 1) (M 2 0) (ips (M 1) (M 2 0) j)))) := by
        rcases h2 with z | ⟨m, m1, m2, m3, m4, m5, m6, m7⟩
        · exact z
        · exfalso; omega
      have ⟨d1, d2, d3, d4, d5, d6⟩ := hgd
      refine y_vi (as := [(2, 547)]) (S := []) rfl rfl rfl rfl rfl rfl (by decide) rfl (m_isEnd (p := τ 547 8) (T := M 1) (L := M 2 0) ((h3 _ _ (by omega) (by omega) (by omega)).trans hx.2.2.2.1.1) (fun k x y => by rw [h3 _ _ (by omega) (by omega) (by omega)]; exact hx.2.2.2.1.2 k x y) g3.2.2 ⟨g3.1, g3.2.1⟩ rfl d2) ?_
      rintro _ _ ⟨rfl, rfl⟩
      refine y_ifne rfl (fun q27 => ?_) (fun q27 => ?_)
      · skip
        replace q27 := yb_1.mp q27
        refine y_aload rfl rfl rfl ?_
        refine y_aload rfl rfl rfl ?_
        refine y_gfi (v := (τ 547 9)) rfl rfl (by decide) rfl (by decide) rfl (yne (by omega) rfl) ?_
        refine y_push rfl ?_
        have hL3 : τ 547 3 = M 2 0 := ((h3 _ _ (by omega) (by omega) (by omega)).trans hx.2.2.2.1.1)
        refine y_icne rfl (fun q43 => ?_) (fun q43 => ?_)
        · skip
          refine y_aload rfl rfl rfl ?_
          refine y_gfi (v := (τ 547 9)) rfl rfl (by decide) rfl (by decide) rfl (yne (by omega) rfl) ?_
          refine y_pfi (j := 9) rfl rfl (by decide) rfl rfl rfl rfl rfl ?_
          refine y_aload rfl rfl rfl ?_
          refine y_gfi (v := (τ 547 9)) rfl rfl (by decide) rfl (by decide) rfl (yeq _ _ _ _) ?_
          refine y_push rfl ?_
          refine y_iceq rfl (fun q72 => ?_) (fun q72 => ?_)
          · skip
            refine y_push rfl ?_
            refine y_istore (L' := [some (2, 547), some (0, 0)]) rfl rfl rfl rfl ?_
            have n0 : 0 < n := by omega
            have p5 := nmS_r (T := M 1) (L := M 2 0) (p := τ 547 8) d2.2
            exact lm_read2 hx hg hN (s0 := (yset (yset τ 547 8 (nmS (M 1) (M 2 0) (τ 547 8))) 547 9 (τ 547 9))) (n := n) (by omega) n0 d5 (by rw [← d3]; exact q27) (fun j hj => by rw [yne (by omega) rfl, yne (by omega) rfl, yne (by omega) rfl, yne (by omega) rfl, yne (by omega) rfl, yne (by omega) rfl, yne (by omega) rfl, yne (by omega) rfl]; exact d6 j hj) (by rw [yne (by omega) rfl, yne (by omega) rfl]; exact h0) (fun x y a => by rw [yne (by omega) rfl, yne (by omega) rfl]; exact h3 x y (by omega) (by omega) (by omega)) (n + 1) _ 0 (by omega) (by omega) (fun z => absurd z (by decide : ¬ (1 : Int) = 0)) (Or.inl rfl) (wfr_0 _ _) (by rw [yne (by omega) rfl, yne (by omega) rfl, h3 _ _ (by omega) (by omega) (by omega)]; exact hx.2.2.2.2.2)
          · skip
            refine y_push rfl ?_
            refine y_aload rfl rfl rfl ?_
            refine y_gfi (v := (τ 547 9)) rfl rfl (by decide) rfl (by decide) rfl (yeq _ _ _ _) ?_
            refine y_isub (v := ((-10) - (τ 547 9))) rfl rfl (by rcases h2 with ⟨z, _⟩ | ⟨m, m1, m2, m3, m4, m5, m6, m7⟩ <;> omega) ?_
            refine y_iret rfl rfl ⟨_, rfl, ?_⟩
            have e0 : n = 0 := by omega
            subst e0
            have hL3 : τ 547 3 = M 2 0 := ((h3 _ _ (by omega) (by omega) (by omega)).trans hx.2.2.2.1.1)
            exact ⟨Z, ⟨0, ⟨d5, Or.inl (by rw [← d3]; exact q27)⟩, Or.inl ⟨by rw [← d3]; exact q27, rfl, by omega, rfl⟩⟩, mW_mfs hg hx (fun x y a => by rw [yne (by omega) rfl, yne (by omega) rfl]; exact h3 x y (by omega) (by omega) (by omega)), fun x y a => by rw [yne (by omega) rfl, yne (by omega) rfl]; exact h3 x y (by omega) (by omega) (by omega)⟩
        · skip
          refine y_aload rfl rfl rfl ?_
          refine y_gfi (v := (τ 547 7)) rfl rfl (by decide) rfl (by decide) rfl (yne (by omega) rfl) ?_
          refine y_ifne rfl (fun q50 => ?_) (fun q50 => ?_)
          · skip
            refine y_aload rfl rfl rfl ?_
            refine y_gfi (v := (τ 547 9)) rfl rfl (by decide) rfl (by decide) rfl (yne (by omega) rfl) ?_
            refine y_pfi (j := 9) rfl rfl (by decide) rfl rfl rfl rfl rfl ?_
            refine y_aload rfl rfl rfl ?_
            refine y_gfi (v := (τ 547 9)) rfl rfl (by decide) rfl (by decide) rfl (yeq _ _ _ _) ?_
            refine y_push rfl ?_
            refine y_iceq rfl (fun q72 => ?_) (fun q72 => ?_)
            · skip
              refine y_push rfl ?_
              refine y_istore (L' := [some (2, 547), some (0, 0)]) rfl rfl rfl rfl ?_
              have n0 : 0 < n := by omega
              have p5 := nmS_r (T := M 1) (L := M 2 0) (p := τ 547 8) d2.2
              exact lm_read2 hx hg hN (s0 := (yset (yset τ 547 8 (nmS (M 1) (M 2 0) (τ 547 8))) 547 9 (τ 547 9))) (n := n) (by omega) n0 d5 (by rw [← d3]; exact q27) (fun j hj => by rw [yne (by omega) rfl, yne (by omega) rfl, yne (by omega) rfl, yne (by omega) rfl, yne (by omega) rfl, yne (by omega) rfl, yne (by omega) rfl, yne (by omega) rfl]; exact d6 j hj) (by rw [yne (by omega) rfl, yne (by omega) rfl]; exact h0) (fun x y a => by rw [yne (by omega) rfl, yne (by omega) rfl]; exact h3 x y (by omega) (by omega) (by omega)) (n + 1) _ 0 (by omega) (by omega) (fun z => absurd z (by decide : ¬ (1 : Int) = 0)) (Or.inl rfl) (wfr_0 _ _) (by rw [yne (by omega) rfl, yne (by omega) rfl, h3 _ _ (by omega) (by omega) (by omega)]; exact hx.2.2.2.2.2)
            · skip
              refine y_push rfl ?_
              refine y_aload rfl rfl rfl ?_
              refine y_gfi (v := (τ 547 9)) rfl rfl (by decide) rfl (by decide) rfl (yeq _ _ _ _) ?_
              refine y_isub (v := ((-10) - (τ 547 9))) rfl rfl (by rcases h2 with ⟨z, _⟩ | ⟨m, m1, m2, m3, m4, m5, m6, m7⟩ <;> omega) ?_
              refine y_iret rfl rfl ⟨_, rfl, ?_⟩
              have e0 : n = 0 := by omega
              subst e0
              have hL3 : τ 547 3 = M 2 0 := ((h3 _ _ (by omega) (by omega) (by omega)).trans hx.2.2.2.1.1)
              exact ⟨Z, ⟨0, ⟨d5, Or.inl (by rw [← d3]; exact q27)⟩, Or.inl ⟨by rw [← d3]; exact q27, rfl, by omega, rfl⟩⟩, mW_mfs hg hx (fun x y a => by rw [yne (by omega) rfl, yne (by omega) rfl]; exact h3 x y (by omega) (by omega) (by omega)), fun x y a => by rw [yne (by omega) rfl, yne (by omega) rfl]; exact h3 x y (by omega) (by omega) (by omega)⟩
          · skip
            refine y_aload rfl rfl rfl ?_
            refine y_gfi (v := (τ 547 3)) rfl rfl (by decide) rfl (by decide) rfl (yne (by omega) rfl) ?_
            refine y_goto rfl ?_
            refine y_pfi (j := 9) rfl rfl (by decide) rfl rfl rfl rfl rfl ?_
            refine y_aload rfl rfl rfl ?_
            refine y_gfi (v := (τ 547 3)) rfl rfl (by decide) rfl (by decide) rfl (yeq _ _ _ _) ?_
            refine y_push rfl ?_
            refine y_iceq rfl (fun q72 => ?_) (fun q72 => ?_)
            · skip
              refine y_push rfl ?_
              refine y_istore (L' := [some (2, 547), some (0, 0)]) rfl rfl rfl rfl ?_
              have n0 : 0 < n := by omega
              have p5 := nmS_r (T := M 1) (L := M 2 0) (p := τ 547 8) d2.2
              exact lm_read2 hx hg hN (s0 := (yset (yset τ 547 8 (nmS (M 1) (M 2 0) (τ 547 8))) 547 9 (τ 547 3))) (n := n) (by omega) n0 d5 (by rw [← d3]; exact q27) (fun j hj => by rw [yne (by omega) rfl, yne (by omega) rfl, yne (by omega) rfl, yne (by omega) rfl, yne (by omega) rfl, yne (by omega) rfl, yne (by omega) rfl, yne (by omega) rfl]; exact d6 j hj) (by rw [yne (by omega) rfl, yne (by omega) rfl]; exact h0) (fun x y a => by rw [yne (by omega) rfl, yne (by omega) rfl]; exact h3 x y (by omega) (by omega) (by omega)) (n + 1) _ 0 (by omega) (by omega) (fun z => absurd z (by decide : ¬ (1 : Int) = 0)) (Or.inl rfl) (wfr_0 _ _) (by rw [yne (by omega) rfl, yne (by omega) rfl, h3 _ _ (by omega) (by omega) (by omega)]; exact hx.2.2.2.2.2)
            · skip
              refine y_push rfl ?_
              refine y_aload rfl rfl rfl ?_
              refine y_gfi (v := (τ 547 3)) rfl rfl (by decide) rfl (by decide) rfl (yeq _ _ _ _) ?_
              refine y_isub (v := ((-10) - (τ 547 3))) rfl rfl (by rcases h2 with ⟨z, _⟩ | ⟨m, m1, m2, m3, m4, m5, m6, m7⟩ <;> omega) ?_
              refine y_iret rfl rfl ⟨_, rfl, ?_⟩
              have e0 : n = 0 := by omega
              subst e0
              have hL3 : τ 547 3 = M 2 0 := ((h3 _ _ (by omega) (by omega) (by omega)).trans hx.2.2.2.1.1)
              exact ⟨Z, ⟨0, ⟨d5, Or.inl (by rw [← d3]; exact q27)⟩, Or.inl ⟨by rw [← d3]; exact q27, rfl, by omega, rfl⟩⟩, mW_mfs hg hx (fun x y a => by rw [yne (by omega) rfl, yne (by omega) rfl]; exact h3 x y (by omega) (by omega) (by omega)), fun x y a => by rw [yne (by omega) rfl, yne (by omega) rfl]; exact h3 x y (by omega) (by omega) (by omega)⟩
      · skip
        replace q27 := yb_0.mp q27
        refine y_aload rfl rfl rfl ?_
        have ipr := nmS_r (T := M 1) (L := M 2 0) (p := τ 547 8) d2.2
        have n40 : (n : Int) < 40 := by omega
        refine y_vu (as := [(2, 547)]) (S := []) rfl rfl rfl rfl rfl rfl (by decide) rfl (m_takeItem (T := M 1) (L := M 2 0) (p := nmS (M 1) (M 2 0) (τ 547 8)) (it := n) (by rw [yne (by omega) rfl]; exact ((h3 _ _ (by omega) (by omega) (by omega)).trans hx.2.2.2.1.1)) (fun k x y => by rw [yne (by omega) rfl, h3 _ _ (by omega) (by omega) (by omega)]; exact hx.2.2.2.1.2 k x y) g3.2.2 ⟨g3.1, g3.2.1⟩ (yeq _ _ _ _) (by omega) (by rw [yne (by omega) rfl]; exact d1) (by rw [yne (by omega) rfl]; exact h0) (by omega)) ?_
        rintro s1 ⟨⟨y1, y2⟩, y3, y4, y5⟩
        rw [d3] at y1 y4
        refine y_goto rfl ?_
        refine ih s1 (n + 1) (by omega) y2 (by omega) ?_ (fun x y a b c => by rw [y5 x y a (by omega) (by omega), yne (by omega) rfl]; exact h3 x y a b c)
        have hne : (ips (M 1) (M 2 0) n) ≠ M 2 0 := by rw [← d3]; exact q27
        by_cases hf : itF (M 1) (M 2 0) n (ips (M 1) (M 2 0) n) = -1
        · left
          have ⟨z1, z2, z3, z4, z5⟩ := y4 hf
          have ir : 0 ≤ (ips (M 1) (M 2 0) n) ∧ (ips (M 1) (M 2 0) n) ≤ M 2 0 := by rw [← d3]; omega
          have n5 := itN_5 ir hf
          refine ⟨y1.trans hf, by omega, ?_, by omega, fun j hj => ?_, fun j hj => ?_⟩
          · show _ = nmS (M 1) (M 2 0) (itN (M 1) (M 2 0) (ips (M 1) (M 2 0) n))
            rw [z1]
          · by_cases e : j = n
            · subst e; exact ⟨hne, hf⟩
            · exact d5 j (by omega)
          · by_cases e : j = n
            · subst e; exact ⟨z2, z3, z4, z5⟩
            · have q := d6 j (by omega)
              have f2 : s1 552 j = τ 552 j := by rw [y5 _ _ (by omega) (by omega) (by omega), yne (by omega) rfl]
              have f3 : ∀ k : Int, 0 ≤ k → k ≤ 2 → s1 553 (3 * (j : Int) + k) = τ 553 (3 * (j : Int) + k) := fun k a b => by rw [y5 _ _ (by omega) (by omega) (by omega), yne (by omega) rfl]
              have f30 := f3 0 (by omega) (by omega)
              rw [show 3 * (j : Int) + 0 = 3 * (j : Int) by omega] at f30
              exact ⟨f2.trans q.1, f30.trans q.2.1, fun z => (f3 1 (by omega) (by omega)).trans (q.2.2.1 z), fun z => ⟨(f3 1 (by omega) (by omega)).trans (q.2.2.2 z).1, (f3 2 (by omega) (by omega)).trans (q.2.2.2 z).2⟩⟩
        · have ir : 0 ≤ (ips (M 1) (M 2 0) n) ∧ (ips (M 1) (M 2 0) n) ≤ M 2 0 := by rw [← d3]; omega
          have fr_ := itF_r (T := M 1) (L := M 2 0) (it := n) ir
          exact Or.inr ⟨n, rfl, d5, hne, hf, y1, by omega, by omega⟩
theorem m_read {g : Launch × XG × va_G} {σ : YS} {Z : YZ} {I : Int → YZ} {M : YS} {N : Int}  (hx : mW σ Z I M) (hg : wG Z I M N) (hN : N < 100000) : YI g 46 [(2, 547)] σ (fun b σ' => ∃ Z', kread Z M b Z' ∧ mW σ' Z' I M ∧ cfr σ σ') := by
  refine y_start rfl rfl rfl ?_
  refine y_aload rfl rfl rfl ?_
  refine y_push rfl ?_
  refine y_pfi (j := 8) rfl rfl (by decide) rfl rfl rfl rfl rfl ?_
  refine y_aload rfl rfl rfl ?_
  refine y_push rfl ?_
  refine y_pfi (j := 7) rfl rfl (by decide) rfl rfl rfl rfl rfl ?_
  refine y_aload rfl rfl rfl ?_
  refine y_push rfl ?_
  refine y_pfi (j := 9) rfl rfl (by decide) rfl rfl rfl rfl rfl ?_
  have ⟨a0, g2, g3, g4⟩ := hg
  refine lm_read1 hx hg hN 43 (yset (yset (yset σ 547 8 0) 547 7 0) 547 9 (-1)) 0 (by omega) ?_ (by omega) (Or.inl ⟨yeq _ _ _ _, ?_, ?_, ?_, fun j hj => by omega, fun j hj => by omega⟩) (fun x y a b c => by rw [yne (by omega) rfl, yne (by omega) rfl, yne (by omega) rfl])
  · rw [yne (by omega) rfl, yeq]; rfl
  · rw [yne (by omega) rfl, yne (by omega) rfl, yeq]; omega
  · rw [yne (by omega) rfl, yne (by omega) rfl, yeq]; rfl
  · rw [yne (by omega) rfl, yne (by omega) rfl, yeq]; omega
