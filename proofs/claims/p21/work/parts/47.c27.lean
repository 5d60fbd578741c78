theorem mW_now2 {σ σ' : YS} {Z Z' : YZ} {I : Int → YZ} {M : YS} {N : Int} (hg : wG Z I M N) (h : mW σ Z I M) (hz : mz σ' 0 Z') (hf : ∀ x y, (x = 547 ∧ y = 3) ∨ (x = 548 ∧ 527 ≤ y ∧ y ≤ 1581) ∨ (549 ≤ x ∧ x ≤ 551) → σ' x y = σ x y) : mW σ' Z' I M := by
  obtain ⟨h1, h2, h3, ⟨h4, h5⟩, h6, h7⟩ := h
  refine ⟨hz, fun j a b c => mz_cong ((hg.2.1 j a b).2 c) (h2 j a b c) (fun y x z => hf 548 y (by omega)), fun j a b => by rw [hf _ _ (by omega)]; exact h3 j a b, ⟨by rw [hf _ _ (by omega)]; exact h4, fun k a b => by rw [hf _ _ (by omega)]; exact h5 k a b⟩, fun j a b => by rw [hf _ _ (by omega)]; exact h6 j a b, by rw [hf _ _ (by omega)]; exact h7⟩
theorem rm_cong548 {σ σ' : YS} {E D : YS} (h3 : E 1 0 ≤ 3) (h : rm σ E D) (e : ∀ x y, x ≠ 548 ∨ y = 0 ∨ (10 ≤ y ∧ y ≤ 13) → σ' x y = σ x y) : rm σ' E D := by
  obtain ⟨⟨h1, h2, h4⟩, h5, h6, h7⟩ := h
  refine ⟨⟨by rw [e _ _ (by omega)]; exact h1, by rw [e _ _ (by omega)]; exact h2, by rw [e _ _ (by omega)]; exact h4⟩, fun c a b => by rw [e _ _ (by omega)]; exact h5 c a b, fun i a b => ?_, fun q a b => by rw [e _ _ (by omega)]; exact h7 q a b⟩
  obtain ⟨⟨g1, g2, g3, g4⟩, ⟨g5, g6⟩, g7, g8⟩ := h6 i a b
  exact ⟨⟨by rw [e _ _ (by omega)]; exact g1, by rw [e _ _ (by omega)]; exact g2, by rw [e _ _ (by omega)]; exact g3, by rw [e _ _ (by omega)]; exact g4⟩, ⟨by rw [e _ _ (by omega)]; exact g5, by rw [e _ _ (by omega)]; exact g6⟩, fun k a b => by rw [e _ _ (by omega)]; exact g7 k a b, fun z k a b c => by rw [e _ _ (by omega)]; exact g8 z k a b c⟩
/-- who has stopped stays so -/
theorem mwork_4 {E D : YS} {i sg c : Int} (h : D 4 c = 1) : mwork E D i sg 4 c = 1 := by
  unfold mwork
  split
  · rw [mfetch_k (by omega)]; exact h
  split
  · rw [mput_k (by omega)]; exact h
  split
  · by_cases e : c = i
    · subst e; rw [yeq]
    · rw [yne (by omega) rfl]; exact h
  · rw [yne (by omega) rfl]; exact h
theorem mact_4 {E D : YS} {i c : Int} (h : D 4 c = 1) : mact E D i 4 c = 1 := by
  unfold mact
  split
  · by_cases e : c = i
    · subst e; rw [yeq]
    · rw [yne (by omega) rfl]; exact h
  split
  · rw [yne (by omega) rfl]; exact h
  split
  · rw [yne (by omega) rfl]; exact h
  split
  · rw [yne (by omega) rfl]; exact h
  · rw [yne (by omega) rfl]; exact mwork_4 h
theorem macts_4 {E D : YS} {c : Int} (h : D 4 c = 1) : ∀ n : Nat, macts E D n 4 c = 1
  | 0 => h
  | n + 1 => by
    unfold macts
    split
    · exact mact_4 (macts_4 h n)
    · exact macts_4 h n
theorem mstep_4 {E D : YS} {c : Int} (h : D 4 c = 1) : mstep E D 4 c = 1 := by
  unfold mstep
  rw [yne (by omega) rfl]
  exact macts_4 (by rw [yne (by omega) rfl]; exact h) _
theorem l_step2 {g : Launch × XG × va_G} {σ : YS} {Z : YZ} {I : Int → YZ} {M : YS} {N : Int}  (hx : mW σ Z I M) (hg : wG Z I M N) (hN : N < 100000) {s3 : YS} (hr3 : rm s3 (Z 0) (mstep (Z 0) (Z 1))) (hm3 : mzs s3 0 (Z 0) (Z 1)) (h106 : s3 548 106 = min (Z 2 0 0 + 1) 20) (hrow : ∀ k, 0 ≤ k → k < min (Z 2 0 0 + 1) 20 → mzr s3 (107 + 21 * (min (Z 2 0 0 + 1) 20 - 1 - k)) (Z 0) (upush (fun k => Z (3 + k)) (Z 1) k)) (hf3 : ∀ x y, x < 547 ∨ (x = 547 ∧ y = 3) ∨ (x = 548 ∧ 527 ≤ y ∧ y ≤ 1581) ∨ (549 ≤ x ∧ x ≤ 551) → s3 x y = σ x y) : ∀ (nn : Nat) (τ : YS) (m : Int), 3 - m < (nn : Int) → (0 ≤ m ∧ m ≤ 3) → (∀ x y, x ≠ 548 ∨ y = 0 ∨ (10 ≤ y ∧ y ≤ 13) ∨ 26 ≤ y → τ x y = s3 x y) → (∀ c, 0 ≤ c → c < 9 → τ 548 (1 + c) = (mstep (Z 0) (Z 1)) 0 c) → (∀ i, 0 ≤ i → i < m → i < Z 0 1 0 → τ 548 (14 + i) = (mstep (Z 0) (Z 1)) 1 i ∧ τ 548 (17 + i) = (mstep (Z 0) (Z 1)) 2 i ∧ τ 548 (20 + i) = (mstep (Z 0) (Z 1)) 3 i ∧ (τ 548 (23 + i) = 0 ∨ τ 548 (23 + i) = 1) ∧ ((mstep (Z 0) (Z 1)) 4 i = 0 ↔ ¬ (τ 548 (23 + i) = 1 ∨ Z 0 3 i = 0 ∨ mfl (Z 0) i ≠ -1))) → (∀ i, m ≤ i → i < 3 → τ 548 (23 + i) = s3 548 (23 + i)) → YW g 53 43 [some (2, 547), some (0, m)] [] τ (fun rv σ' => ∃ b, rv = some (0, b) ∧ (b = (kstep Z M).1 ∧ mW σ' (kstep Z M).2.1 I (kstep Z M).2.2 ∧ cfr σ σ')) := by
  intro nn
  induction nn with
  | zero =>
    intro τ m hn h0 h1 h2 h3 h4
    exfalso
    omega
  | succ nn ih =>
    intro τ m hn h0 h1 h2 h3 h4
    have ⟨he, hd, hn5, hu2, h67, hk⟩ := hg.1
    have ⟨⟨f1, f2, f3⟩, f5, f6, f7, f8⟩ := hm3
    have ⟨e1, e2, e3⟩ := he
    have he0 := hg.1.1
    have ⟨⟨r1, r2, r3⟩, r4, r5, r6⟩ := hr3
    have hd1 := dG_step hd he0
    have t105 : τ 548 105 = Z 1 5 0 := (h1 _ _ (by omega)).trans f3
    refine y_iload rfl rfl ?_
    refine y_push rfl ?_
    refine y_icge rfl (fun q45 => ?_) (fun q45 => ?_)
    · skip
      refine y_aload rfl rfl rfl ?_
      refine y_gfr (t := 548) rfl rfl (by decide) rfl (by decide) ?_
      refine y_push rfl ?_
      refine y_dup2 rfl rfl rfl ?_
      refine y_iald (v := (τ 548 105)) (n := 2108) rfl rfl (by decide) rfl (by decide) rfl ?_
      refine y_push rfl ?_
      refine y_iadd (v := ((τ 548 105) + 1)) rfl rfl (by omega) ?_
      refine y_iast (n := 2108) rfl rfl (by decide) rfl (by decide) ?_
      refine y_aload rfl rfl rfl ?_
      have hr4 : rm (yset τ 548 105 ((τ 548 105) + 1)) (Z 0) (mstep (Z 0) (Z 1)) := rm_cong548 e2.2 hr3 (fun x y a => by rw [yne (by omega) rfl]; exact h1 x y (by omega))
      refine y_vi (as := [(2, 547)]) (S := []) rfl rfl rfl rfl rfl rfl (by decide) rfl (m_going hr4 he0) ?_
      rintro _ _ ⟨rfl, rfl⟩
      refine y_iret rfl rfl ⟨_, rfl, ?_⟩
      have hK : kstep Z M = (mgo (Z 0) (mstep (Z 0) (Z 1)) (Z 0 1 0).toNat, zstep Z, M) := rfl
      rw [hK]
      have h5 : (mstep (Z 0) (Z 1)) 5 0 = Z 1 5 0 + 1 := mstep_5
      have t105 : τ 548 105 = Z 1 5 0 := (h1 _ _ (by omega)).trans f3
      refine ⟨rfl, mW_now2 hg hx ⟨⟨⟨?_, ?_, ?_⟩, fun c a b => ?_, fun i a b => ?_, fun i a b => ?_, fun j a b => ?_⟩, ?_, fun k a b => ?_⟩ (fun x y a => ?_), fun x y a => ?_⟩
      · rw [yne (by omega) rfl, h1 _ _ (by omega)]; exact f1
      · rw [yne (by omega) rfl, h1 _ _ (by omega)]; exact f2
      · show yset τ 548 105 (τ 548 105 + 1) 548 (0 + 105) = (mstep (Z 0) (Z 1)) 5 0
        rw [h5, show (0 : Int) + 105 = 105 from rfl, yeq, t105]
      · rw [yne (by omega) rfl]; exact h2 c a b
      · have ⟨⟨b1, b2, b3, b4⟩, b5, b6, b7, b8⟩ := f6 i a b
        obtain ⟨c1, c2, c3, c4, c5⟩ := h3 i a (by have b : i < Z 0 1 0 := b; omega) b
        have hsz := (e3 i a b).2.1
        have q : ∀ y, y ≠ 105 → yset τ 548 105 (τ 548 105 + 1) 548 y = τ 548 y := fun y z => yne (by omega) rfl
        have b : i < Z 0 1 0 := b
        refine ⟨⟨?_, ?_, ?_, ?_⟩, ?_, fun k x y => ?_, ?_, ?_⟩
        · rw [q _ (by omega), h1 _ _ (by omega)]; exact b1
        · rw [q _ (by omega), show (0 : Int) + 14 + i = 14 + i by omega]; exact c1
        · rw [q _ (by omega), show (0 : Int) + 17 + i = 17 + i by omega]; exact c2
        · rw [q _ (by omega), show (0 : Int) + 20 + i = 20 + i by omega]; exact c3
        · rw [q _ (by omega), h1 _ _ (by omega)]; exact b5
        · have y : k < Z 0 3 i := y
          rw [q _ (by omega), h1 _ _ (by omega)]; exact b6 k x y
        · rw [q _ (by omega), show (0 : Int) + 23 + i = 23 + i by omega]; exact c4
        · rw [q _ (by omega), show (0 : Int) + 23 + i = 23 + i by omega]; exact c5
      · have a : Z 0 1 0 ≤ i := a
        rw [yne (by omega) rfl, h1 _ _ (by omega)]; exact f7 i a b
      · rw [yne (by omega) rfl, h1 _ _ (by omega)]; exact f8 j a b
      · rw [yne (by omega) rfl, h1 _ _ (by omega)]; exact h106
      · have b : k < min (Z 2 0 0 + 1) 20 := b
        have := hrow k a b
        rw [← zstep_U a] at this
        refine mzr_cong (σ := s3) e2 ?_ (fun y p q => by rw [yne (by omega) rfl, h1 _ _ (by omega)])
        show mzr s3 (0 + 107 + 21 * (min (Z 2 0 0 + 1) 20 - 1 - k)) (Z 0) (zstep Z (3 + k))
        rw [show (0 : Int) + 107 = 107 by omega]
        exact this
      · rw [yne (by omega) rfl, h1 _ _ (by omega)]; exact hf3 x y (by omega)
      · rw [yne (by omega) rfl, h1 _ _ (by omega)]; exact hf3 x y (by omega)
    · skip
      have z26 : τ 548 (26 + m) = s3 548 (26 + m) := h1 _ _ (by omega)
      have sz : 0 ≤ s3 548 (26 + m) ∧ s3 548 (26 + m) ≤ 24 := by
        rcases (by omega : m < Z 0 1 0 ∨ Z 0 1 0 ≤ m) with z | z
        · have b5 : s3 548 (26 + m) = Z 0 3 m := (f6 m (by omega) z).2.1
          have := (e3 m (by omega) z).2.1
          omega
        · have : s3 548 (26 + m) = 0 := f7 m z (by omega)
          omega
      refine y_aload rfl rfl rfl ?_
      refine y_gfr (t := 548) rfl rfl (by decide) rfl (by decide) ?_
      refine y_push rfl ?_
      refine y_iload rfl rfl ?_
      refine y_iadd (v := (23 + m)) rfl rfl (by omega) ?_
      refine y_aload rfl rfl rfl ?_
      refine y_iload rfl rfl ?_
      refine y_vi (as := [(2, 547), (0, m)]) (S := [(0, (23 + m)), (2, 548)]) rfl rfl rfl rfl rfl rfl (by decide) rfl (m_stopL (n := τ 548 (26 + m)) (f := (fun k => τ 548 (29 + 24 * m + k))) (by omega) rfl (by omega) (fun k _ _ => rfl)) ?_
      rintro _ _ ⟨rfl, rfl⟩
      refine y_push rfl ?_
      refine y_icne rfl (fun q62 => ?_) (fun q62 => ?_)
      · skip
        have q62p := fun z => q62 (yb_t z)
        refine y_aload rfl rfl rfl ?_
        refine y_gfr (t := 558) rfl rfl (by decide) rfl (by decide) ?_
        refine y_iload rfl rfl ?_
        refine y_iald (v := (τ 558 m)) (n := 3) rfl rfl (by decide) rfl (by omega) rfl ?_
        refine y_iast (n := 2108) rfl rfl (by decide) rfl (by omega) ?_
        refine y_aload rfl rfl rfl ?_
        refine y_gfr (t := 548) rfl rfl (by decide) rfl (by decide) ?_
        refine y_push rfl ?_
        refine y_iload rfl rfl ?_
        refine y_iadd (v := (14 + m)) rfl rfl (by omega) ?_
        refine y_aload rfl rfl rfl ?_
        refine y_gfr (t := 555) rfl rfl (by decide) rfl (by decide) ?_
        refine y_iload rfl rfl ?_
        refine y_iald (v := (τ 555 m)) (n := 3) rfl rfl (by decide) rfl (by omega) (yne (by omega) rfl) ?_
        refine y_iast (n := 2108) rfl rfl (by decide) rfl (by omega) ?_
        refine y_aload rfl rfl rfl ?_
        refine y_gfr (t := 548) rfl rfl (by decide) rfl (by decide) ?_
        refine y_push rfl ?_
        refine y_iload rfl rfl ?_
        refine y_iadd (v := (17 + m)) rfl rfl (by omega) ?_
        refine y_aload rfl rfl rfl ?_
        refine y_gfr (t := 556) rfl rfl (by decide) rfl (by decide) ?_
        refine y_iload rfl rfl ?_
        refine y_iald (v := (τ 556 m)) (n := 3) rfl rfl (by decide) rfl (by omega) (yne (by omega) (yne (by omega) rfl)) ?_
        refine y_iast (n := 2108) rfl rfl (by decide) rfl (by omega) ?_
        refine y_aload rfl rfl rfl ?_
        refine y_gfr (t := 548) rfl rfl (by decide) rfl (by decide) ?_
        refine y_push rfl ?_
        refine y_iload rfl rfl ?_
        refine y_iadd (v := (20 + m)) rfl rfl (by omega) ?_
        refine y_aload rfl rfl rfl ?_
        refine y_gfr (t := 557) rfl rfl (by decide) rfl (by decide) ?_
        refine y_iload rfl rfl ?_
        refine y_iald (v := (τ 557 m)) (n := 3) rfl rfl (by decide) rfl (by omega) (yne (by omega) (yne (by omega) (yne (by omega) rfl))) ?_
        refine y_iast (n := 2108) rfl rfl (by decide) rfl (by omega) ?_
        refine y_iinc (L' := [some (2, 547), some (0, (m + 1))]) rfl rfl rfl rfl rfl (by omega) ?_
        refine y_goto rfl ?_
        refine ih (yset (yset (yset (yset τ 548 (23 + m) (τ 558 m)) 548 (14 + m) (τ 555 m)) 548 (17 + m) (τ 556 m)) 548 (20 + m) (τ 557 m)) (m + 1) (by omega) (by omega) (fun x y a => by rw [yne (by omega) rfl, yne (by omega) rfl, yne (by omega) rfl, yne (by omega) rfl]; exact h1 x y a) (fun c a b => by rw [yne (by omega) rfl, yne (by omega) rfl, yne (by omega) rfl, yne (by omega) rfl]; exact h2 c a b) (fun i a b c => ?_) (fun i a b => by rw [yne (by omega) rfl, yne (by omega) rfl, yne (by omega) rfl, yne (by omega) rfl]; exact h4 i (by omega) b)
        by_cases e : i = m
        · subst e
          have ⟨⟨b1, b2, b3, b4⟩, b5, b6, b7, b8⟩ := f6 i a c
          have b5 : s3 548 (26 + i) = Z 0 3 i := b5
          have b7 : s3 548 (23 + i) = 0 ∨ s3 548 (23 + i) = 1 := b7
          have b8 : Z 1 4 i = 0 ↔ ¬ (s3 548 (23 + i) = 1 ∨ Z 0 3 i = 0 ∨ mfl (Z 0) i ≠ -1) := b8
          have b6 : ∀ k, 0 ≤ k → k < Z 0 3 i → s3 548 (29 + 24 * i + k) = msg (Z 0) i k := b6
          obtain ⟨⟨c1, c2, c3, c4⟩, _, _, _⟩ := r5 i a c
          have raw := h4 i (by omega) (by omega)
          have d4 := (hd.2 i a c).2.2.2
          have d4n := (hd1.2 i a c).2.2.2
          have hfl : bflaw (fun k => τ 548 (29 + 24 * i + k)) (τ 548 (26 + i)).toNat = mfl (Z 0) i := by
            rw [z26, b5]
            exact bflaw_cong (fun j p q => by show τ 548 _ = _; rw [h1 _ _ (by omega)]; exact b6 j (by omega) (by omega))
          rw [hfl, z26, b5, raw] at q62p
          refine ⟨by rw [yne (by omega) rfl, yne (by omega) rfl, yeq, h1 _ _ (by omega)]; exact c1, by rw [yne (by omega) rfl, yeq, h1 _ _ (by omega)]; exact c2, by rw [yeq, h1 _ _ (by omega)]; exact c3, ?_, ?_⟩
          · rw [yne (by omega) rfl, yne (by omega) rfl, yne (by omega) rfl, yeq, h1 _ _ (by omega), c4]; omega
          · rw [yne (by omega) rfl, yne (by omega) rfl, yne (by omega) rfl, yeq, h1 _ _ (by omega), c4]; omega
        · have := h3 i a (by omega) c
          rw [yne (by omega) rfl, yne (by omega) rfl, yne (by omega) rfl, yne (by omega) rfl, yne (by omega) rfl, yne (by omega) rfl, yne (by omega) rfl, yne (by omega) rfl, yne (by omega) rfl, yne (by omega) rfl, yne (by omega) rfl, yne (by omega) rfl, yne (by omega) rfl, yne (by omega) rfl, yne (by omega) rfl, yne (by omega) rfl]
          exact this
      · skip
        have q62p : (τ 548 (23 + m) = 1 ∨ τ 548 (26 + m) = 0 ∨ bflaw (fun k => τ 548 (29 + 24 * m + k)) (τ 548 (26 + m)).toNat ≠ -1) := Classical.byContradiction (fun z => by rw [yb_f z] at q62; omega)
        refine y_aload rfl rfl rfl ?_
        refine y_gfr (t := 548) rfl rfl (by decide) rfl (by decide) ?_
        refine y_push rfl ?_
        refine y_iload rfl rfl ?_
        refine y_iadd (v := (23 + m)) rfl rfl (by omega) ?_
        refine y_iald (v := (τ 548 (23 + m))) (n := 2108) rfl rfl (by decide) rfl (by omega) rfl ?_
        refine y_goto rfl ?_
        refine y_iast (n := 2108) rfl rfl (by decide) rfl (by omega) ?_
        refine y_aload rfl rfl rfl ?_
        refine y_gfr (t := 548) rfl rfl (by decide) rfl (by decide) ?_
        refine y_push rfl ?_
        refine y_iload rfl rfl ?_
        refine y_iadd (v := (14 + m)) rfl rfl (by omega) ?_
        refine y_aload rfl rfl rfl ?_
        refine y_gfr (t := 555) rfl rfl (by decide) rfl (by decide) ?_
        refine y_iload rfl rfl ?_
        refine y_iald (v := (τ 555 m)) (n := 3) rfl rfl (by decide) rfl (by omega) (yne (by omega) rfl) ?_
        refine y_iast (n := 2108) rfl rfl (by decide) rfl (by omega) ?_
        refine y_aload rfl rfl rfl ?_
        refine y_gfr (t := 548) rfl rfl (by decide) rfl (by decide) ?_
        refine y_push rfl ?_
        refine y_iload rfl rfl ?_
        refine y_iadd (v := (17 + m)) rfl rfl (by omega) ?_
        refine y_aload rfl rfl rfl ?_
        refine y_gfr (t := 556) rfl rfl (by decide) rfl (by decide) ?_
        refine y_iload rfl rfl ?_
        refine y_iald (v := (τ 556 m)) (n := 3) rfl rfl (by decide) rfl (by omega) (yne (by omega) (yne (by omega) rfl)) ?_
        refine y_iast (n := 2108) rfl rfl (by decide) rfl (by omega) ?_
        refine y_aload rfl rfl rfl ?_
        refine y_gfr (t := 548) rfl rfl (by decide) rfl (by decide) ?_
        refine y_push rfl ?_
        refine y_iload rfl rfl ?_
        refine y_iadd (v := (20 + m)) rfl rfl (by omega) ?_
        refine y_aload rfl rfl rfl ?_
        refine y_gfr (t := 557) rfl rfl (by decide) rfl (by decide) ?_
        refine y_iload rfl rfl ?_
        refine y_iald (v := (τ 557 m)) (n := 3) rfl rfl (by decide) rfl (by omega) (yne (by omega) (yne (by omega) (yne (by omega) rfl))) ?_
        refine y_iast (n := 2108) rfl rfl (by decide) rfl (by omega) ?_
        refine y_iinc (L' := [some (2, 547), some (0, (m + 1))]) rfl rfl rfl rfl rfl (by omega) ?_
        refine y_goto rfl ?_
        refine ih (yset (yset (yset (yset τ 548 (23 + m) (τ 548 (23 + m))) 548 (14 + m) (τ 555 m)) 548 (17 + m) (τ 556 m)) 548 (20 + m) (τ 557 m)) (m + 1) (by omega) (by omega) (fun x y a => by rw [yne (by omega) rfl, yne (by omega) rfl, yne (by omega) rfl, yne (by omega) rfl]; exact h1 x y a) (fun c a b => by rw [yne (by omega) rfl, yne (by omega) rfl, yne (by omega) rfl, yne (by omega) rfl]; exact h2 c a b) (fun i a b c => ?_) (fun i a b => by rw [yne (by omega) rfl, yne (by omega) rfl, yne (by omega) rfl, yne (by omega) rfl]; exact h4 i (by omega) b)
        by_cases e : i = m
        · subst e
          have ⟨⟨b1, b2, b3, b4⟩, b5, b6, b7, b8⟩ := f6 i a c
          have b5 : s3 548 (26 + i) = Z 0 3 i := b5
          have b7 : s3 548 (23 + i) = 0 ∨ s3 548 (23 + i) = 1 := b7
          have b8 : Z 1 4 i = 0 ↔ ¬ (s3 548 (23 + i) = 1 ∨ Z 0 3 i = 0 ∨ mfl (Z 0) i ≠ -1) := b8
          have b6 : ∀ k, 0 ≤ k → k < Z 0 3 i → s3 548 (29 + 24 * i + k) = msg (Z 0) i k := b6
          obtain ⟨⟨c1, c2, c3, c4⟩, _, _, _⟩ := r5 i a c
          have raw := h4 i (by omega) (by omega)
          have d4 := (hd.2 i a c).2.2.2
          have d4n := (hd1.2 i a c).2.2.2
          have hfl : bflaw (fun k => τ 548 (29 + 24 * i + k)) (τ 548 (26 + i)).toNat = mfl (Z 0) i := by
            rw [z26, b5]
            exact bflaw_cong (fun j p q => by show τ 548 _ = _; rw [h1 _ _ (by omega)]; exact b6 j (by omega) (by omega))
          rw [hfl, z26, b5, raw] at q62p
          refine ⟨by rw [yne (by omega) rfl, yne (by omega) rfl, yeq, h1 _ _ (by omega)]; exact c1, by rw [yne (by omega) rfl, yeq, h1 _ _ (by omega)]; exact c2, by rw [yeq, h1 _ _ (by omega)]; exact c3, ?_, ?_⟩
          · rw [yne (by omega) rfl, yne (by omega) rfl, yne (by omega) rfl, yeq, raw]; exact b7
          · rw [yne (by omega) rfl, yne (by omega) rfl, yne (by omega) rfl, yeq, raw]
            have hD : Z 1 4 i = 1 := by
              rcases d4 with z | z
              · exact absurd q62p (b8.mp z.1)
              · exact z
            have := mstep_4 (E := Z 0) hD
            constructor
            · intro z; omega
            · intro z; exact absurd q62p z
        · have := h3 i a (by omega) c
          rw [yne (by omega) rfl, yne (by omega) rfl, yne (by omega) rfl, yne (by omega) rfl, yne (by omega) rfl, yne (by omega) rfl, yne (by omega) rfl, yne (by omega) rfl, yne (by omega) rfl, yne (by omega) rfl, yne (by omega) rfl, yne (by omega) rfl, yne (by omega) rfl, yne (by omega) rfl, yne (by omega) rfl, yne (by omega) rfl]
          exact this
theorem l_step1 {g : Launch × XG × va_G} {σ : YS} {Z : YZ} {I : Int → YZ} {M : YS} {N : Int}  (hx : mW σ Z I M) (hg : wG Z I M N) (hN : N < 100000) {s3 : YS} (hr3 : rm s3 (Z 0) (mstep (Z 0) (Z 1))) (hm3 : mzs s3 0 (Z 0) (Z 1)) (h106 : s3 548 106 = min (Z 2 0 0 + 1) 20) (hrow : ∀ k, 0 ≤ k → k < min (Z 2 0 0 + 1) 20 → mzr s3 (107 + 21 * (min (Z 2 0 0 + 1) 20 - 1 - k)) (Z 0) (upush (fun k => Z (3 + k)) (Z 1) k)) (hf3 : ∀ x y, x < 547 ∨ (x = 547 ∧ y = 3) ∨ (x = 548 ∧ 527 ≤ y ∧ y ≤ 1581) ∨ (549 ≤ x ∧ x ≤ 551) → s3 x y = σ x y) : ∀ (nn : Nat) (τ : YS) (k : Int), 9 - k < (nn : Int) → (0 ≤ k ∧ k ≤ 9) → (∀ x y, x ≠ 548 ∨ y = 0 ∨ 10 ≤ y → τ x y = s3 x y) → (∀ c, 0 ≤ c → c < k → τ 548 (1 + c) = (mstep (Z 0) (Z 1)) 0 c) → YW g 53 15 [some (2, 547), some (0, k)] [] τ (fun rv σ' => ∃ b, rv = some (0, b) ∧ (b = (kstep Z M).1 ∧ mW σ' (kstep Z M).2.1 I (kstep Z M).2.2 ∧ cfr σ σ')) := by
  intro nn
  induction nn with
  | zero =>
    intro τ k hn h0 h1 h2
    exfalso
    omega
  | succ nn ih =>
    intro τ k hn h0 h1 h2
    refine y_iload rfl rfl ?_
    refine y_push rfl ?_
    refine y_icge rfl (fun q18 => ?_) (fun q18 => ?_)
    · skip
      refine y_push rfl ?_
      refine y_istore (L' := [some (2, 547), some (0, 0)]) rfl rfl rfl rfl ?_
      exact l_step2 hx hg hN hr3 hm3 h106 hrow hf3 4 τ 0 (by omega) (by omega) (fun x y a => h1 x y (by omega)) (fun c a b => h2 c a (by omega)) (fun i a b => by omega) (fun i a b => h1 _ _ (by omega))
    · skip
      refine y_aload rfl rfl rfl ?_
      refine y_gfr (t := 548) rfl rfl (by decide) rfl (by decide) ?_
      refine y_push rfl ?_
      refine y_iload rfl rfl ?_
      refine y_iadd (v := (1 + k)) rfl rfl (by omega) ?_
      refine y_aload rfl rfl rfl ?_
      refine y_gfr (t := 554) rfl rfl (by decide) rfl (by decide) ?_
      refine y_iload rfl rfl ?_
      refine y_iald (v := (τ 554 k)) (n := 9) rfl rfl (by decide) rfl (by omega) rfl ?_
      refine y_iast (n := 2108) rfl rfl (by decide) rfl (by omega) ?_
      refine y_iinc (L' := [some (2, 547), some (0, (k + 1))]) rfl rfl rfl rfl rfl (by omega) ?_
      refine y_goto rfl ?_
      refine ih (yset τ 548 (1 + k) (τ 554 k)) (k + 1) (by omega) (by omega) (fun x y a => by rw [yne (by omega) rfl]; exact h1 x y a) (fun c a b => ?_)
      by_cases e : c = k
      · subst e; rw [yeq, h1 _ _ (by omega)]; exact hr3.2.1 c a (by omega)
      · rw [yne (by omega) rfl]; exact h2 c a (by omega)
theorem m_step {g : Launch × XG × va_G} {σ : YS} {Z : YZ} {I : Int → YZ} {M : YS} {N : Int}  (hx : mW σ Z I M) (hg : wG Z I M N) (hN : N < 100000) : YI g 53 [(2, 547)] σ (fun b σ' => b = (kstep Z M).1 ∧ mW σ' (kstep Z M).2.1 I (kstep Z M).2.2 ∧ cfr σ σ') := by
  refine y_start rfl rfl rfl ?_
  have ⟨⟨hz, hu, hur⟩, x2, x3, ⟨x4, x5⟩, x6, x7⟩ := hx
  have ⟨⟨he, hd, hn, hu2, h67, hk⟩, g2, g3, g4⟩ := hg
  have ⟨⟨f1, f2, f3⟩, f5, f6, f7, f8⟩ := hz
  have ⟨e1, e2, e3⟩ := he
  have x60 : σ 551 0 = M 3 0 := x6 0 (by omega) (by omega)
  have x61 : σ 551 1 = M 3 1 := x6 1 (by omega) (by omega)
  have x62 : σ 551 2 = M 3 2 := x6 2 (by omega) (by omega)
  have g40 := g4 0 (by omega) (by omega)
  have g41 := g4 1 (by omega) (by omega)
  have g42 := g4 2 (by omega) (by omega)
  have hu : σ 548 106 = Z 2 0 0 := hu
  have f1 : σ 548 (0 + 0) = Z 0 0 0 := f1
  have f10 : σ 548 0 = Z 0 0 0 := f1
  have f2 : σ 548 (0 + 10) = Z 0 1 0 := f2
  have f20 : σ 548 10 = Z 0 1 0 := f2
  have f30 : σ 548 105 = Z 1 5 0 := f3
  refine y_aload rfl rfl rfl ?_
  refine y_vu (as := [(2, 547)]) (S := []) rfl rfl rfl rfl rfl rfl (by decide) rfl (m_minds hx hg hN) ?_
  rintro σ1 ⟨i1, i2, i3, i4⟩
  refine y_aload rfl rfl rfl ?_
  refine y_vu (as := [(2, 547)]) (S := []) rfl rfl rfl rfl rfl rfl (by decide) rfl (m_layNow i1 hg.1.1 hd h67.1) ?_
  rintro σ2 ⟨l1, l2⟩
  refine y_aload rfl rfl rfl ?_
  refine y_vi (as := [(2, 547)]) (S := []) rfl rfl rfl rfl rfl rfl (by decide) rfl (m_goStep l1 hg.1.1 hd (by omega)) ?_
  rintro _ s3 ⟨j1, rfl, j2⟩
  refine y_pop rfl rfl ?_
  refine y_push rfl ?_
  refine y_istore (L' := [some (2, 547), some (0, 0)]) rfl rfl rfl rfl ?_
  have c1 : ∀ x y, x < 547 ∨ (x = 547 ∧ y = 3) ∨ (x = 548 ∧ y ≤ 1581) ∨ (549 ≤ x ∧ x ≤ 551) → s3 x y = σ1 x y := fun x y a => by rw [j2 x y (by omega) (by omega), l2 x y (by omega)]
  exact l_step1 hx hg hN j1 (mzs_cong hg.1.1 i1 (fun y a b => c1 _ _ (by omega))) (by rw [c1 _ _ (by omega)]; exact i2) (fun k a b => mzr_cong e2 (i3 k a b) (fun y p q => c1 _ _ (by omega))) (fun x y a => by rw [c1 x y (by omega), i4 x y (by omega)]) 10 s3 0 (by omega) (by omega) (fun x y _ => rfl) (fun c a b => by omega)
