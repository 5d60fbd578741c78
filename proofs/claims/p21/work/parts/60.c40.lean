/-- what is told anew is good -/
def oG (r : YO) (N : Int) : Prop := eG r.2.1 ∧ dG r.2.1 r.2.2 ∧ (0 ≤ r.2.2 5 0 ∧ r.2.2 5 0 ≤ N) ∧ r.2.1 6 0 = 7 ∧ ∀ j, 0 ≤ j → j < 4 → 0 ≤ r.2.1 7 j ∧ r.2.1 7 j < 9
theorem oG_app {r : YO} {N a sg c : Int} (h : oG r N) (ha : 0 ≤ a ∧ a < r.2.1 1 0) (hl : r.2.1 3 a < 24) (hs : 0 ≤ sg ∧ sg < 14) : oG (c, appE r.2.1 a sg, appD r.2.1 r.2.2 a sg) N := by
  obtain ⟨h1, h2, h3, h4, h5⟩ := h
  refine ⟨eG_app h1 ha hl hs, dG_app h2 h1 ha, ?_, (appE_6 ha.1).trans h4, fun j x y => ?_⟩
  · show 0 ≤ appD r.2.1 r.2.2 a sg 5 0 ∧ appD r.2.1 r.2.2 a sg 5 0 ≤ N
    unfold appD slpD
    rw [yne (by omega) rfl, yne (by omega) rfl]
    exact h3
  · show 0 ≤ appE r.2.1 a sg 7 j ∧ appE r.2.1 a sg 7 j < 9
    rw [show appE r.2.1 a sg 7 j = r.2.1 7 j from slpE_g (by omega) (by omega)]
    exact h5 j x y
theorem oG_S {T : Int → Int} {a q N : Int} {r : YO} (h : oG r N) : ∀ k : Nat, oG (obS T a q r k) N
  | 0 => h
  | k + 1 => by
    have ih := oG_S (T := T) (a := a) (q := q) h k
    unfold obS
    split
    · exact ih
    · split
      · rename_i z; exact oG_app ih z.1 z.2.2 z.2.1
      · exact ih
theorem oG_1 {T : Int → Int} {L p N : Int} {r : YO} (hN : 0 ≤ N) (h : oG r N) : oG (ob1 T L p r) N := by
  have hh := h
  obtain ⟨h1, h2, h3, h4, h5⟩ := h
  unfold ob1
  split
  · split
    · rename_i z
      refine ⟨eG_beg z, dG_beg, ?_, ?_, fun j x y => ?_⟩
      · show 0 ≤ begD r.2.2 5 0 ∧ begD r.2.2 5 0 ≤ N; unfold begD; rw [if_pos (by omega)]; omega
      · dsimp only; unfold begE; rw [if_neg (by omega), yne (by omega) rfl, yne (by omega) rfl]; exact h4
      · dsimp only; unfold begE; rw [if_pos rfl]; omega
    · exact hh
  split
  · split
    · rename_i z; exact ⟨h1, dG_w h2 z.2, by dsimp only; rw [yne (by omega) rfl]; exact h3, h4, h5⟩
    · exact hh
  split
  · split
    · rename_i z
      have := h1.2.1
      refine ⟨eG_ent h1 z.1 z.2.2, dG_ent h2 z.2.1, ?_, ?_, fun j x y => ?_⟩
      · dsimp only; rw [entD_o (by omega)]; exact h3
      · dsimp only; rw [entE_g (by omega)]; exact h4
      · dsimp only; rw [entE_g (by omega)]; exact h5 j x y
    · exact hh
  · exact oG_S hh _
theorem oG_n {T : Int → Int} {L N : Int} {E D : YS} (hN : 0 ≤ N) (h : oG (1, E, D) N) : ∀ i : Nat, oG (obs T L E D i) N
  | 0 => h
  | i + 1 => by
    unfold obs
    split
    · exact oG_n hN h i
    · exact oG_1 hN (oG_n hN h i)
theorem wG_read {Z Z' : YZ} {I : Int → YZ} {M : YS} {N b : Int} (hN : 0 ≤ N) (hg : wG Z I M N) (h : kread Z M b Z') : wG Z' I M N := by
  have g := hg.1
  have o : oG (1, Z 0, Z 1) N := ⟨g.1, g.2.1, g.2.2.1, g.2.2.2.2.1.1, g.2.2.2.2.1.2⟩
  obtain ⟨n, h1, h2⟩ := h
  rcases h2 with ⟨a1, a2, a3, rfl⟩ | ⟨a1, a2, rfl⟩ | ⟨a1, a2, a3, rfl⟩ | ⟨a1, a2, a3, a4, rfl⟩
  · exact hg
  · exact hg
  · exact hg
  · obtain ⟨o1, o2, o3, o4, o5⟩ := oG_n (T := M 1) (L := M 2 0) hN o n
    exact wG_Z hg (zG_tell o1 (dG_w6 o2) (by rw [yne (by omega) rfl]; exact o3) ⟨o4, o5⟩)
theorem mW_read {σ σ' : YS} {Z : YZ} {I : Int → YZ} {M : YS} {N : Int} (hg : wG Z I M N) (h : mW σ Z I M) (e : ∀ x y, (x = 547 ∧ y = 3) ∨ (x = 548 ∧ y < 1581) ∨ (549 ≤ x ∧ x ≤ 551) → σ' x y = σ x y) (h0 : 0 ≤ σ' 548 1581) : mW σ' Z I M := by
  obtain ⟨h1, h2, h3, ⟨h4, h5⟩, h6, h7⟩ := h
  refine ⟨mz_cong hg.1 h1 (fun y x z => e 548 y (by omega)), fun j a b c => mz_cong ((hg.2.1 j a b).2 c) (h2 j a b c) (fun y x z => e 548 y (by omega)), fun j a b => by rw [e _ _ (by omega)]; exact h3 j a b, ⟨by rw [e _ _ (by omega)]; exact h4, fun k a b => by rw [e _ _ (by omega)]; exact h5 k a b⟩, fun j a b => by rw [e _ _ (by omega)]; exact h6 j a b, h0⟩
theorem nmF_r {T : Int → Int} {L p : Int} (hp : p ≤ L) (h0 : 0 ≤ p) : -1 ≤ nmF T L p ∧ nmF T L p ≤ L := by
  have s := nmS_r (T := T) hp
  unfold nmF
  split
  · omega
  · split <;> omega
theorem itQ_r2 {T : Int → Int} {L p : Int} (hp : 0 ≤ p ∧ p ≤ L) (h3 : itF2 T L p = -1) : 0 ≤ itQ T L p ∧ itQ T L p ≤ L := by
  have e := rend_r (f := isLet) (T := T) hp.2
  have e' : itE T L p ≤ L := e.2
  have e0 : p ≤ itE T L p := e.1
  have d := nmD_r (T := T) e'
  have d2 := nmD_r (T := T) d.2
  unfold itQ
  split
  · omega
  · split
    · rename_i a b
      have s := nmS_r (T := T) d.2
      unfold itF2 at h3
      rw [if_neg a, if_pos b] at h3
      unfold sqF at h3
      split at h3
      · omega
      · split at h3
        · rename_i ok; have := ok.2.1; have := ok.2.2.2.1; omega
        · omega
    · omega
theorem itF_r {T : Int → Int} {L it p : Int} (hp : 0 ≤ p ∧ p ≤ L) : -1 ≤ itF T L it p ∧ itF T L it p ≤ L := by
  have e := rend_r (f := isLet) (T := T) hp.2
  have e' : itE T L p ≤ L := e.2
  have e0 : p ≤ itE T L p := e.1
  have d := nmD_r (T := T) e'
  have s := nmS_r (T := T) d.2
  have f := nmF_r (T := T) e' (by omega)
  have f2 := nmF_r (T := T) d.2 (by omega)
  unfold itF
  split
  · omega
  · split
    · omega
    · split
      · unfold itF2 sqF
        (repeat' split) <;> omega
      · rename_i z
        have q := itQ_r2 (T := T) hp (by omega)
        have := nmS_r (T := T) q.2
        unfold enF
        split <;> omega
theorem lm_read2 {g : Launch × XG × va_G} {σ : YS} {Z : YZ} {I : Int → YZ} {M : YS} {N : Int}   (hx : mW σ Z I M) (hg : wG Z I M N) (hN : N < 100000) {s0 : YS} {n : Nat} (hn40 : n ≤ 40) (hn0 : 0 < n) (hgo : ∀ j : Nat, j < n → (ips (M 1) (M 2 0) j) ≠ M 2 0 ∧ itF (M 1) (M 2 0) j (ips (M 1) (M 2 0) j) = -1) (hend : (ips (M 1) (M 2 0) n) = M 2 0) (hdat : ∀ j : Nat, j < n → s0 552 j = lwd (M 1) (M 2 0) (ips (M 1) (M 2 0) j) ∧ s0 553 (3 * (j : Int)) = itA (M 1) (M 2 0) (ips (M 1) (M 2 0) j) ∧ (lwd (M 1) (M 2 0) (ips (M 1) (M 2 0) j) = 1 ∨ lwd (M 1) (M 2 0) (ips (M 1) (M 2 0) j) = 2 → s0 553 (3 * (j : Int) + 1) = itB (M 1) (M 2 0) (ips (M 1) (M 2 0) j)) ∧ (lwd (M 1) (M 2 0) (ips (M 1) (M 2 0) j) = 3 → s0 553 (3 * (j : Int) + 1) = itG (M 1) (M 2 0) (ips (M 1) (M 2 0) j) ∧ s0 553 (3 * (j : Int) + 2) = itM (M 1) (M 2 0) (ips (M 1) (M 2 0) j))) (h7 : s0 547 7 = n) (hfr : ∀ x y, x < 547 ∨ (x = 547 ∧ y = 3) ∨ x = 548 ∨ (549 ≤ x ∧ x ≤ 551) → s0 x y = σ x y) : ∀ (nn : Nat) (τ : YS) (i : Nat), n - i < (nn : Int) → ((i : Int) ≤ n) → ((obs (M 1) (M 2 0) (Z 0) (Z 1) i).1 ≠ 0) → ((i = 0) ∨ (mzs τ 1581 (obs (M 1) (M 2 0) (Z 0) (Z 1) i).2.1 (obs (M 1) (M 2 0) (Z 0) (Z 1) i).2.2 ∧ τ 548 1687 = 0)) → (wfr s0 τ 1581) → (0 ≤ τ 548 1581) → YW g 46 85 [some (2, 547), some (0, (i : Int))] [] τ (fun rv σ' => ∃ b, rv = some (0, b) ∧ (∃ Z', kread Z M b Z' ∧ mW σ' Z' I M ∧ cfr σ σ')) := by
  intro nn
  induction nn with
  | zero =>
    intro τ i hn h0 h1 h2 h3 h4
    exfalso
    omega
  | succ nn ih =>
    intro τ i hn h0 h1 h2 h3 h4
    have ⟨a0, g2, g3, g4⟩ := hg
    have oN : oG (1, Z 0, Z 1) N := ⟨a0.1, a0.2.1, a0.2.2.1, a0.2.2.2.2.1.1, a0.2.2.2.2.1.2⟩
    have Npos : 0 ≤ N := by have := a0.2.2.1; omega
    have ipr : ∀ j : Nat, j ≤ n → 0 ≤ ips (M 1) (M 2 0) j ∧ ips (M 1) (M 2 0) j ≤ M 2 0 := fun j hj => by
      induction j with
      | zero => exact nmS_r (T := M 1) g3.1
      | succ j ih =>
        have r := ih (by omega)
        have q := itN_5 r (hgo j (by omega)).2
        have := nmS_r (T := M 1) q.2
        show 0 ≤ nmS _ _ _ ∧ nmS _ _ _ ≤ _
        omega
    have t7 : τ 547 7 = (n : Int) := (h3 _ _ (by omega)).trans h7
    refine y_iload rfl rfl ?_
    refine y_aload rfl rfl rfl ?_
    refine y_gfi (v := (τ 547 7)) rfl rfl (by decide) rfl (by decide) rfl rfl ?_
    refine y_icge rfl (fun q90 => ?_) (fun q90 => ?_)
    · skip
      refine y_aload rfl rfl rfl ?_
      refine y_push rfl ?_
      refine y_push rfl ?_
      refine y_vu (as := [(2, 547), (0, 1581), (0, 0)]) (S := []) rfl rfl rfl rfl rfl rfl (by decide) rfl (m_copy (p := 1581) (q := 0) (by omega) (by omega) (by omega)) ?_
      rintro s2 ⟨p1, p2⟩
      refine y_aload rfl rfl rfl ?_
      refine y_gfi (v := (s2 547 7)) rfl rfl (by decide) rfl (by decide) rfl rfl ?_
      refine y_iret rfl rfl ⟨_, rfl, ?_⟩
      have hin : i = n := by omega
      subst hin
      rcases h2 with z | ⟨z, z6⟩
      · omega
      have ⟨o1, o2, o3, o4, o5⟩ := oG_n (T := M 1) (L := M 2 0) Npos oN i
      have zz : mz τ 1581 (ztell Z (obs (M 1) (M 2 0) (Z 0) (Z 1) i).2.1 (obs (M 1) (M 2 0) (Z 0) (Z 1) i).2.2) := mz_tell z z6
      have zg : zG (ztell Z (obs (M 1) (M 2 0) (Z 0) (Z 1) i).2.1 (obs (M 1) (M 2 0) (Z 0) (Z 1) i).2.2) N := zG_tell o1 o2 o3 ⟨o4, o5⟩
      have zc := mz_w (v := Z 1 6 0) zg (mz_copy zg zz p1)
      have ze : zw (ztell Z (obs (M 1) (M 2 0) (Z 0) (Z 1) i).2.1 (obs (M 1) (M 2 0) (Z 0) (Z 1) i).2.2) (Z 1 6 0) = ztell Z (obs (M 1) (M 2 0) (Z 0) (Z 1) i).2.1 (yset (obs (M 1) (M 2 0) (Z 0) (Z 1) i).2.2 6 0 (Z 1 6 0)) := by
        funext r
        unfold zw ztell
        by_cases e1 : r = 1
        · subst e1; rfl
        · rw [if_neg e1]
          by_cases e0 : r = 0
          · rw [if_pos e0, if_pos e0]
          · rw [if_neg e0, if_neg e0, if_neg e1, if_neg e1]
      rw [ze] at zc
      have e7 : s2 547 7 = (i : Int) := by rw [p2 _ _ (by omega), h3 _ _ (by omega)]; exact h7
      refine ⟨_, ⟨i, ⟨hgo, Or.inl hend⟩, Or.inr (Or.inr (Or.inr ⟨hend, hn0, h1, e7, rfl⟩))⟩, mW_now2 hg (mW_read hg hx (σ' := τ) (fun x y a => by rw [h3 x y (by omega)]; exact hfr x y (by omega)) h4) zc (fun x y a => p2 x y (by omega)), fun x y a => by rw [p2 x y (by omega), h3 x y (by omega)]; exact hfr x y (by omega)⟩
    · skip
      refine y_aload rfl rfl rfl ?_
      refine y_iload rfl rfl ?_
      have ⟨c1, c2, c3, c4⟩ := hdat i (by omega)
      have ⟨k1, k2⟩ := hgo i (by omega)
      have og := oG_n (T := M 1) (L := M 2 0) Npos oN i
      have t3 : ∀ x y, x ≠ 548 → τ x y = s0 x y := fun x y a => h3 x y (by omega)
      have hw0 : lwd (M 1) (M 2 0) (ips (M 1) (M 2 0) i) = 0 ∨ (mzs τ 1581 (obs (M 1) (M 2 0) (Z 0) (Z 1) i).2.1 (obs (M 1) (M 2 0) (Z 0) (Z 1) i).2.2 ∧ τ 548 1687 = 0) := by
        rcases h2 with z | z
        · subst z; have := (itF_no k2 (ipr 0 (by omega)).1).1; exact Or.inl (by unfold itBad at this; omega)
        · exact Or.inr z
      refine y_vi (as := [(2, 547), (0, (i : Int))]) (S := []) rfl rfl rfl rfl rfl rfl (by decide) rfl (m_tellItem (r := (obs (M 1) (M 2 0) (Z 0) (Z 1) i)) (T := M 1) (L := M 2 0) ((t3 _ _ (by omega)).trans ((hfr _ _ (by omega)).trans hx.2.2.2.1.1)) (fun k x y => by rw [t3 _ _ (by omega), hfr _ _ (by omega)]; exact hx.2.2.2.1.2 k x y) (fun k x y => g3.2.2 k x y) ⟨g3.1, g3.2.1⟩ (ipr i (by omega)) k2 (by omega) ((t3 _ _ (by omega)).trans c1) ((t3 _ _ (by omega)).trans c2) (fun z => (t3 _ _ (by omega)).trans (c3 z)) (fun z => ⟨(t3 _ _ (by omega)).trans (c4 z).1, (t3 _ _ (by omega)).trans (c4 z).2⟩) hw0 og.1 og.2.1 h1 h4) ?_
      rintro b_ s1 ⟨y1, y2, y3, y4⟩
      have ho : (obs (M 1) (M 2 0) (Z 0) (Z 1) (i + 1)) = ob1 (M 1) (M 2 0) (ips (M 1) (M 2 0) i) (obs (M 1) (M 2 0) (Z 0) (Z 1) i) := by show (if (obs (M 1) (M 2 0) (Z 0) (Z 1) i).1 = 0 then _ else _) = _; rw [if_neg h1]
      rw [← ho] at y1 y2
      refine y_ifge rfl (fun q98 => ?_) (fun q98 => ?_)
      · skip
        refine y_iinc (L' := [some (2, 547), some (0, ((i : Int) + 1))]) rfl rfl rfl rfl rfl (by omega) ?_
        refine y_goto rfl ?_
        have hnz : (obs (M 1) (M 2 0) (Z 0) (Z 1) (i + 1)).1 ≠ 0 := fun z => by have := y2 z; omega
        have y1_ := y1 hnz
        exact ih s1 (i + 1) (by omega) (by omega) hnz (Or.inr ⟨y1_.2.1, y1_.2.2⟩) (fun x y a => by rw [y3 x y a]; exact h3 x y a) y4
      · skip
        refine y_push rfl ?_
        refine y_iload rfl rfl ?_
        refine y_isub (v := ((-1000) - (i : Int))) rfl rfl (by omega) ?_
        refine y_iret rfl rfl ⟨_, rfl, ?_⟩
        have hz0 : (obs (M 1) (M 2 0) (Z 0) (Z 1) (i + 1)).1 = 0 := by
          rcases (by omega : (obs (M 1) (M 2 0) (Z 0) (Z 1) (i + 1)).1 = 0 ∨ (obs (M 1) (M 2 0) (Z 0) (Z 1) (i + 1)).1 ≠ 0) with z | z
          · exact z
          · have := (y1 z).1; omega
        refine ⟨Z, ⟨n, ⟨hgo, Or.inl hend⟩, Or.inr (Or.inr (Or.inl ⟨hend, hn0, ⟨i, by omega, h1, hz0, rfl⟩, rfl⟩))⟩, mW_read hg hx (fun x y a => by rw [y3 x y (by omega), h3 x y (by omega)]; exact hfr x y (by omega)) y4, fun x y a => by rw [y3 x y (by omega), h3 x y (by omega)]; exact hfr x y (by omega)⟩
