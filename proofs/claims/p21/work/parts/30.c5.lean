/-! Two states that go on alike. -/
def deq (E D C : YS) : Prop := (∀ c, 0 ≤ c → c < E 0 0 → D 0 c = C 0 c) ∧ ∀ i, 0 ≤ i → i < E 1 0 → ∀ r, 1 ≤ r → r ≤ 4 → D r i = C r i
theorem deq_set {E D C : YS} (h : deq E D C) (r j v : Int) : deq E (yset D r j v) (yset C r j v) := by
  refine ⟨fun c a b => ?_, fun i a b q c d => ?_⟩
  · by_cases e : 0 = r ∧ c = j
    · obtain ⟨rfl, rfl⟩ := e; rw [yeq, yeq]
    · rw [yne e rfl, yne e rfl]; exact h.1 c a b
  · by_cases e : q = r ∧ i = j
    · obtain ⟨rfl, rfl⟩ := e; rw [yeq, yeq]
    · rw [yne e rfl, yne e rfl]; exact h.2 i a b q c d
theorem deq_fetch1 {E D C : YS} {i : Int} (h : deq E D C) (hd : dG E D) (hi : 0 ≤ i ∧ i < E 1 0) : deq E (mfetch1 D i) (mfetch1 C i) := by
  have hc := (hd.2 i hi.1 hi.2).1
  have e1 := h.2 i hi.1 hi.2 1 (by omega) (by omega)
  have e2 := h.2 i hi.1 hi.2 2 (by omega) (by omega)
  have w : D 0 (D 1 i) = C 0 (C 1 i) := by rw [← e1]; exact h.1 _ hc.1 hc.2
  unfold mfetch1
  rw [w, e1, e2]
  split
  · exact deq_set (deq_set h _ _ _) _ _ _
  · exact h
theorem deq_fetch {E : YS} {i : Int} (he : eG E) (hi : 0 ≤ i ∧ i < E 1 0) : ∀ (n : Nat) (D C : YS), deq E D C → dG E D → deq E (mfetch D i n) (mfetch C i n)
  | 0, _, _, h, _ => h
  | n + 1, _, _, h, hd => deq_fetch he hi n _ _ (deq_fetch1 h hd hi) (dG_fetch1 hd he hi)
theorem deq_put {E D C : YS} {i : Int} (h : deq E D C) (hd : dG E D) (hi : 0 ≤ i ∧ i < E 1 0) : deq E (mput D i) (mput C i) := by
  have hc := (hd.2 i hi.1 hi.2).1
  have e1 := h.2 i hi.1 hi.2 1 (by omega) (by omega)
  have e2 := h.2 i hi.1 hi.2 2 (by omega) (by omega)
  have w : D 0 (D 1 i) = C 0 (C 1 i) := by rw [← e1]; exact h.1 _ hc.1 hc.2
  unfold mput
  rw [w, e1, e2]
  split
  · exact deq_set (deq_set h _ _ _) _ _ _
  · exact h
theorem deq_work {E D C : YS} {i sg : Int} (h : deq E D C) (hd : dG E D) (he : eG E) (hi : 0 ≤ i ∧ i < E 1 0) (h5 : D 5 0 % 14 = C 5 0 % 14) : deq E (mwork E D i sg) (mwork E C i sg) := by
  have e1 := h.2 i hi.1 hi.2 1 (by omega) (by omega)
  have g : mgoal (E 2 i) (D 1 i) sg (D 5 0) (E 0 0) = mgoal (E 2 i) (C 1 i) sg (C 5 0) (E 0 0) := by
    rw [e1]
    unfold mgoal
    rw [show D 5 0 % 2 = C 5 0 % 2 by omega]
  unfold mwork
  rw [show D 5 0 % 7 = C 5 0 % 7 by omega, g]
  split
  · exact deq_fetch he hi _ _ _ h hd
  split
  · exact deq_put h hd hi
  split <;> exact deq_set h _ _ _
theorem deq_act {E D C : YS} {i : Int} (h : deq E D C) (hd : dG E D) (he : eG E) (hi : 0 ≤ i ∧ i < E 1 0) (h5 : D 5 0 % 14 = C 5 0 % 14) : deq E (mact E D i) (mact E C i) := by
  have hc := (hd.2 i hi.1 hi.2).1
  have e1 := h.2 i hi.1 hi.2 1 (by omega) (by omega)
  have e2 := h.2 i hi.1 hi.2 2 (by omega) (by omega)
  have e3 := h.2 i hi.1 hi.2 3 (by omega) (by omega)
  have w : D 0 (D 1 i) = C 0 (C 1 i) := by rw [← e1]; exact h.1 _ hc.1 hc.2
  have n : ∀ q, 0 ≤ q → (mnear E D i q ↔ mnear E C i q) := fun q hq => by
    unfold mnear
    constructor
    · rintro ⟨z1, z2, z3, z4⟩; exact ⟨z1, z2, z3, by rw [← h.2 q hq z1 1 (by omega) (by omega), ← e1]; exact z4⟩
    · rintro ⟨z1, z2, z3, z4⟩; exact ⟨z1, z2, z3, by rw [h.2 q hq z1 1 (by omega) (by omega), e1]; exact z4⟩
  have al : malone E D i ↔ malone E C i := by unfold malone; rw [n 0 (by omega), n 1 (by omega), n 2 (by omega)]
  have ho : ∀ q, mholds D i q ↔ mholds C i q := fun q => by unfold mholds; rw [w, e2]
  unfold mact
  rw [e3]
  split
  · exact deq_set h _ _ _
  split
  · have : (if mholds D i (msg E i (C 3 i + 1)) then C 3 i + 2 else mpa E i (C 3 i) + 1) = (if mholds C i (msg E i (C 3 i + 1)) then C 3 i + 2 else mpa E i (C 3 i) + 1) := by
      by_cases z : mholds C i (msg E i (C 3 i + 1))
      · rw [if_pos z, if_pos ((ho _).mpr z)]
      · rw [if_neg z, if_neg (fun y => z ((ho _).mp y))]
    rw [this]
    exact deq_set h _ _ _
  split
  · exact deq_set h _ _ _
  by_cases z : msg E i (C 3 i) = 6 ∧ E 2 i ≠ 3 ∧ malone E C i
  · rw [if_pos z, if_pos ⟨z.1, z.2.1, al.mpr z.2.2⟩]
    exact ⟨fun c a b => by rw [yne (by omega) rfl, yne (by omega) rfl]; exact h.1 c a b, fun j a b r c d => by rw [yne (by omega) rfl, yne (by omega) rfl]; exact h.2 j a b r c d⟩
  · rw [if_neg z, if_neg (fun y => z ⟨y.1, y.2.1, al.mp y.2.2⟩)]
    exact deq_set (deq_work h hd he hi h5) _ _ _
theorem deq_acts {E D C : YS} (h : deq E D C) (hd : dG E D) (he : eG E) (h5 : D 5 0 % 14 = C 5 0 % 14) : ∀ n : Nat, (n : Int) ≤ E 1 0 → deq E (macts E D n) (macts E C n)
  | 0, _ => h
  | n + 1, hn => by
    have ih := deq_acts h hd he h5 n (by omega)
    have e4 := ih.2 n (by omega) (by omega) 4 (by omega) (by omega)
    unfold macts
    rw [e4]
    split
    · exact deq_act ih (dG_acts hd he n (by omega)) he ⟨by omega, by omega⟩ (by rw [macts_k (by omega), macts_k (by omega)]; exact h5)
    · exact ih
theorem deq_step {E D C : YS} (h : deq E D C) (hd : dG E D) (he : eG E) (h5 : D 5 0 % 14 = C 5 0 % 14) : deq E (mstep E D) (mstep E C) := by
  have := he.2.1
  have h' := deq_acts (deq_set h 6 0 0) (dG_x hd (by omega)) he (by rw [yne (by omega) rfl, yne (by omega) rfl]; exact h5) (E 1 0).toNat (by omega)
  unfold mstep
  exact ⟨fun c a b => by rw [yne (by omega) rfl, yne (by omega) rfl]; exact h'.1 c a b, fun j a b r c d => by rw [yne (by omega) rfl, yne (by omega) rfl]; exact h'.2 j a b r c d⟩
theorem deq_go {E D C : YS} (h : deq E D C) : ∀ n : Nat, (n : Int) ≤ E 1 0 → mgo E D n = mgo E C n
  | 0, _ => rfl
  | n + 1, hn => by
    unfold mgo
    rw [deq_go h n (by omega), h.2 n (by omega) (by omega) 4 (by omega) (by omega)]
theorem deq_steps {E D : YS} (hd : dG E D) (he : eG E) {t q : Nat} (h : deq E (msteps E D t) (msteps E D q)) (hm : ((t : Int) - q) % 14 = 0) : ∀ u : Nat, deq E (msteps E D (t + u)) (msteps E D (q + u))
  | 0 => h
  | u + 1 => by
    refine deq_step (deq_steps hd he h hm u) (dG_steps hd he _) he ?_
    rw [msteps_5, msteps_5]
    simp only [Nat.add_eq]
    omega
/-- going for ever -/
theorem per_go {E D : YS} (hd : dG E D) (he : eG E) {t q : Nat} (hq : q < t) (h : deq E (msteps E D t) (msteps E D q)) (hm : ((t : Int) - q) % 14 = 0) (hg : ∀ u : Nat, u ≤ t → mgo E (msteps E D u) (E 1 0).toNat ≠ 0) : ∀ n : Nat, mgo E (msteps E D n) (E 1 0).toNat ≠ 0 := by
  intro n
  induction n using Nat.strongRecOn with
  | ind n ih =>
    by_cases e : n ≤ t
    · exact hg n e
    · have := deq_go (deq_steps hd he h hm (n - t)) (E 1 0).toNat (by have := he.2.1; omega)
      rw [show t + (n - t) = n by omega] at this
      rw [this]
      exact ih (q + (n - t)) (by omega)
/-- after how many steps all have stopped -/
def sets (E D : YS) (b : Int) : Prop := (0 ≤ b ∧ b ≤ 400 ∧ mgo E (msteps E D b.toNat) (E 1 0).toNat = 0 ∧ ∀ u : Nat, (u : Int) < b → mgo E (msteps E D u) (E 1 0).toNat ≠ 0) ∨ (b = -1 ∧ ∀ u : Nat, u ≤ 400 → mgo E (msteps E D u) (E 1 0).toNat ≠ 0)
theorem sets_one {E D : YS} {b c : Int} (h : sets E D b) (h' : sets E D c) : b = c := by
  rcases h with ⟨h1, h2, h3, h4⟩ | ⟨h1, h2⟩ <;> rcases h' with ⟨g1, g2, g3, g4⟩ | ⟨g1, g2⟩
  · rcases (by omega : b < c ∨ b = c ∨ c < b) with z | z | z
    · exact absurd h3 (g4 b.toNat (by omega))
    · exact z
    · exact absurd g3 (h4 c.toNat (by omega))
  · exact absurd h3 (g2 b.toNat (by omega))
  · exact absurd g3 (h2 c.toNat (by omega))
  · omega
theorem l_isAt2 {g : Launch × XG × va_G} {σ : YS} {s r : Int} {E D C : YS} (hs : yS s) (hy : yR r) (hrs : r < s ∨ s + 12 < r) (hr : rep σ s E D) (he : eG E) (hd : dG E D) (hc : rowc σ r E C) (hdc : dG E C) : ∀ (nn : Nat) (k : Int), E 0 0 - k < (nn : Int) → (0 ≤ k ∧ k ≤ E 0 0) → (∀ q, 0 ≤ q → q < E 1 0 → ∀ p, 1 ≤ p → p ≤ 4 → D p q = C p q) → (∀ c, 0 ≤ c → c < k → D 0 c = C 0 c) → YW g 145 94 [some (2, s), some (2, r), some (0, k), none, none] [] σ (fun rv σ' => ∃ b, rv = some (0, b) ∧ ((σ = σ' ∧ b = 0) ∨ (σ = σ' ∧ b = 1 ∧ deq E D C))) := by
  intro nn
  induction nn with
  | zero =>
    intro k hn h0 h1 h2
    exfalso
    omega
  | succ nn ih =>
    intro k hn h0 h1 h2
    have s0 := yS_0 hs
    have ⟨⟨f1, f2, f3, f4⟩, f5, f6, f7, f8⟩ := hr
    have ⟨e1, e2, e3⟩ := he
    have y0 := hy.1
    have ⟨c1, c2, c3, c4⟩ := hc
    refine y_iload rfl rfl ?_
    refine y_aload rfl rfl rfl ?_
    refine y_gfi (v := (σ s 4)) rfl (yS_c hs) (yS_0 hs).1 rfl (by decide) rfl rfl ?_
    refine y_icge rfl (fun q99 => ?_) (fun q99 => ?_)
    · skip
      refine y_push rfl ?_
      refine y_zret rfl rfl (by decide) ⟨_, rfl, ?_⟩
      exact Or.inr ⟨rfl, rfl, fun c x y => h2 c x (by omega), h1⟩
    · skip
      refine y_aload rfl rfl rfl ?_
      refine y_gfr (t := (s + 1)) rfl (yS_c hs) (yS_0 hs).1 rfl (by have := yS_0 hs; omega) ?_
      refine y_iload rfl rfl ?_
      refine y_iald (v := (σ (s + 1) k)) (n := 9) rfl (yS_w hs) (by have := yS_0 hs; omega) rfl (by omega) rfl ?_
      refine y_aload rfl rfl rfl ?_
      refine y_iload rfl rfl ?_
      refine y_iald (v := (σ r k)) (n := 22) rfl hy.2 hy.1 rfl (by omega) rfl ?_
      refine y_iceq rfl (fun q111 => ?_) (fun q111 => ?_)
      · skip
        refine y_iinc (L' := [some (2, s), some (2, r), some (0, (k + 1)), none, none]) rfl rfl rfl rfl rfl (by omega) ?_
        refine y_goto rfl ?_
        refine ih (k + 1) (by omega) (by omega) h1 (fun c x y => ?_)
        by_cases e : c = k
        · subst e; rw [← f5 c x (by omega), ← c1 c x (by omega)]; exact q111
        · exact h2 c x (by omega)
      · skip
        refine y_push rfl ?_
        refine y_zret rfl rfl (by decide) ⟨_, rfl, ?_⟩
        exact Or.inl ⟨rfl, rfl⟩
theorem l_isAt1 {g : Launch × XG × va_G} {σ : YS} {s r : Int} {E D C : YS} (hs : yS s) (hy : yR r) (hrs : r < s ∨ s + 12 < r) (hr : rep σ s E D) (he : eG E) (hd : dG E D) (hc : rowc σ r E C) (hdc : dG E C) : ∀ (nn : Nat) (i : Int), E 1 0 - i < (nn : Int) → (0 ≤ i ∧ i ≤ E 1 0) → (∀ q, 0 ≤ q → q < i → ∀ p, 1 ≤ p → p ≤ 4 → D p q = C p q) → YW g 145 2 [some (2, s), some (2, r), some (0, i), none, none] [] σ (fun rv σ' => ∃ b, rv = some (0, b) ∧ ((σ = σ' ∧ b = 0) ∨ (σ = σ' ∧ b = 1 ∧ deq E D C))) := by
  intro nn
  induction nn with
  | zero =>
    intro i hn h0 h1
    exfalso
    omega
  | succ nn ih =>
    intro i hn h0 h1
    have s0 := yS_0 hs
    have ⟨⟨f1, f2, f3, f4⟩, f5, f6, f7, f8⟩ := hr
    have ⟨e1, e2, e3⟩ := he
    have y0 := hy.1
    have ⟨c1, c2, c3, c4⟩ := hc
    refine y_iload rfl rfl ?_
    refine y_aload rfl rfl rfl ?_
    refine y_gfi (v := (σ s 5)) rfl (yS_c hs) (yS_0 hs).1 rfl (by decide) rfl rfl ?_
    refine y_icge rfl (fun q7 => ?_) (fun q7 => ?_)
    · skip
      refine y_push rfl ?_
      refine y_istore (L' := [some (2, s), some (2, r), some (0, 0), none, none]) rfl rfl rfl rfl ?_
      exact l_isAt2 hs hy hrs hr he hd hc hdc 10 0 (by omega) (by omega) (by rw [show E 1 0 = i by omega]; exact h1) (fun c x y => by omega)
    · skip
      have hq := f6 i (by omega) (by omega)
      have ⟨g1, g2, g3, g4, g5⟩ := c2 i (by omega) (by omega)
      have ⟨_, _, ⟨p5, p6, p7⟩, _, p8⟩ := hq
      refine y_aload rfl rfl rfl ?_
      refine y_gfr (t := (s + 2)) rfl (yS_c hs) (yS_0 hs).1 rfl (by have := yS_0 hs; omega) ?_
      refine y_iload rfl rfl ?_
      refine y_aald (v := ((s + 3) + 3 * i)) (n := 3) rfl (yS_m hs) (by have := yS_0 hs; omega) rfl (by omega) rfl ?_
      refine y_astore (L' := [some (2, s), some (2, r), some (0, i), some (2, ((s + 3) + 3 * i)), none]) rfl rfl rfl rfl rfl ?_
      refine y_push rfl ?_
      refine y_push rfl ?_
      refine y_iload rfl rfl ?_
      refine y_imul (v := (4 * i)) rfl rfl (by omega) ?_
      refine y_iadd (v := (9 + (4 * i))) rfl rfl (by omega) ?_
      refine y_istore (L' := [some (2, s), some (2, r), some (0, i), some (2, ((s + 3) + 3 * i)), some (0, (9 + (4 * i)))]) rfl rfl rfl rfl ?_
      refine y_aload rfl rfl rfl ?_
      refine y_gfi (v := (σ ((s + 3) + 3 * i) 7)) rfl (yN_c (yS_n (s := s) (i := i) hs (by omega))) (by have := yN_0 (yS_n (s := s) (i := i) hs (by omega)); omega) rfl (by decide) rfl rfl ?_
      refine y_aload rfl rfl rfl ?_
      refine y_iload rfl rfl ?_
      refine y_push rfl ?_
      refine y_iadd (v := ((9 + (4 * i)) + 2)) rfl rfl (by omega) ?_
      refine y_iald (v := (σ r ((9 + (4 * i)) + 2))) (n := 22) rfl hy.2 hy.1 rfl (by omega) rfl ?_
      refine y_icne rfl (fun q35 => ?_) (fun q35 => ?_)
      · skip
        refine y_push rfl ?_
        refine y_zret rfl rfl (by decide) ⟨_, rfl, ?_⟩
        exact Or.inl ⟨rfl, rfl⟩
      · skip
        refine y_aload rfl rfl rfl ?_
        refine y_gfi (v := (σ ((s + 3) + 3 * i) 5)) rfl (yN_c (yS_n (s := s) (i := i) hs (by omega))) (by have := yN_0 (yS_n (s := s) (i := i) hs (by omega)); omega) rfl (by decide) rfl rfl ?_
        refine y_aload rfl rfl rfl ?_
        refine y_iload rfl rfl ?_
        refine y_iald (v := (σ r (9 + (4 * i)))) (n := 22) rfl hy.2 hy.1 rfl (by omega) rfl ?_
        refine y_icne rfl (fun q46 => ?_) (fun q46 => ?_)
        · skip
          refine y_push rfl ?_
          refine y_zret rfl rfl (by decide) ⟨_, rfl, ?_⟩
          exact Or.inl ⟨rfl, rfl⟩
        · skip
          refine y_aload rfl rfl rfl ?_
          refine y_gfi (v := (σ ((s + 3) + 3 * i) 6)) rfl (yN_c (yS_n (s := s) (i := i) hs (by omega))) (by have := yN_0 (yS_n (s := s) (i := i) hs (by omega)); omega) rfl (by decide) rfl rfl ?_
          refine y_aload rfl rfl rfl ?_
          refine y_iload rfl rfl ?_
          refine y_push rfl ?_
          refine y_iadd (v := ((9 + (4 * i)) + 1)) rfl rfl (by omega) ?_
          refine y_iald (v := (σ r ((9 + (4 * i)) + 1))) (n := 22) rfl hy.2 hy.1 rfl (by omega) rfl ?_
          refine y_icne rfl (fun q59 => ?_) (fun q59 => ?_)
          · skip
            refine y_push rfl ?_
            refine y_zret rfl rfl (by decide) ⟨_, rfl, ?_⟩
            exact Or.inl ⟨rfl, rfl⟩
          · skip
            refine y_aload rfl rfl rfl ?_
            refine y_gfi (v := (σ ((s + 3) + 3 * i) 8)) rfl (yN_c (yS_n (s := s) (i := i) hs (by omega))) (by have := yN_0 (yS_n (s := s) (i := i) hs (by omega)); omega) rfl (by decide) rfl rfl ?_
            refine y_aload rfl rfl rfl ?_
            refine y_iload rfl rfl ?_
            refine y_push rfl ?_
            refine y_iadd (v := ((9 + (4 * i)) + 3)) rfl rfl (by omega) ?_
            refine y_iald (v := (σ r ((9 + (4 * i)) + 3))) (n := 22) rfl hy.2 hy.1 rfl (by omega) rfl ?_
            refine y_push rfl ?_
            refine y_icne rfl (fun q73 => ?_) (fun q73 => ?_)
            · skip
              refine y_push rfl ?_
              refine y_iceq rfl (fun q81 => ?_) (fun q81 => ?_)
              · skip
                refine y_iinc (L' := [some (2, s), some (2, r), some (0, (i + 1)), some (2, ((s + 3) + 3 * i)), some (0, (9 + (4 * i)))]) rfl rfl rfl rfl rfl (by omega) ?_
                refine y_goto rfl ?_
                refine y_forget (M := [some (2, s), some (2, r), some (0, (i + 1)), none, none]) ⟨Or.inr rfl, ⟨Or.inr rfl, ⟨Or.inr rfl, ⟨Or.inl rfl, ⟨Or.inl rfl, trivial⟩⟩⟩⟩⟩ ?_
                refine ih (i + 1) (by omega) (by omega) (fun q x y p p1 p2 => ?_)
                by_cases e : q = i
                · subst e; rcases (by omega : p = 1 ∨ p = 2 ∨ p = 3 ∨ p = 4) with rfl | rfl | rfl | rfl
                  · omega
                  · omega
                  · omega
                  · have m1 : D 4 q = 0 ↔ C 4 q = 0 := by rw [hq.2.2.2.1, g5, show mst σ (s + 3 + 3 * q) ↔ (σ r (9 + 4 * q + 3) = 1 ∨ E 3 q = 0 ∨ mfl E q ≠ -1) by unfold mst; rw [hq.1.1, hq.1.2.2.1]; constructor <;> (intro z; rcases z with z | z; exact Or.inl (by omega); exact Or.inr z)]
                    have m2 := (hd.2 q x (by omega)).2.2.2
                    have m3 := (hdc.2 q x (by omega)).2.2.2
                    omega
                · exact h1 q x (by omega) p p1 p2
              · skip
                refine y_push rfl ?_
                refine y_zret rfl rfl (by decide) ⟨_, rfl, ?_⟩
                exact Or.inl ⟨rfl, rfl⟩
            · skip
              refine y_push rfl ?_
              refine y_goto rfl ?_
              refine y_iceq rfl (fun q81 => ?_) (fun q81 => ?_)
              · skip
                refine y_iinc (L' := [some (2, s), some (2, r), some (0, (i + 1)), some (2, ((s + 3) + 3 * i)), some (0, (9 + (4 * i)))]) rfl rfl rfl rfl rfl (by omega) ?_
                refine y_goto rfl ?_
                refine y_forget (M := [some (2, s), some (2, r), some (0, (i + 1)), none, none]) ⟨Or.inr rfl, ⟨Or.inr rfl, ⟨Or.inr rfl, ⟨Or.inl rfl, ⟨Or.inl rfl, trivial⟩⟩⟩⟩⟩ ?_
                refine ih (i + 1) (by omega) (by omega) (fun q x y p p1 p2 => ?_)
                by_cases e : q = i
                · subst e; rcases (by omega : p = 1 ∨ p = 2 ∨ p = 3 ∨ p = 4) with rfl | rfl | rfl | rfl
                  · omega
                  · omega
                  · omega
                  · have m1 : D 4 q = 0 ↔ C 4 q = 0 := by rw [hq.2.2.2.1, g5, show mst σ (s + 3 + 3 * q) ↔ (σ r (9 + 4 * q + 3) = 1 ∨ E 3 q = 0 ∨ mfl E q ≠ -1) by unfold mst; rw [hq.1.1, hq.1.2.2.1]; constructor <;> (intro z; rcases z with z | z; exact Or.inl (by omega); exact Or.inr z)]
                    have m2 := (hd.2 q x (by omega)).2.2.2
                    have m3 := (hdc.2 q x (by omega)).2.2.2
                    omega
                · exact h1 q x (by omega) p p1 p2
              · skip
                refine y_push rfl ?_
                refine y_zret rfl rfl (by decide) ⟨_, rfl, ?_⟩
                exact Or.inl ⟨rfl, rfl⟩
theorem c_isAt {g : Launch × XG × va_G} {σ : YS} {s r : Int} {E D C : YS} (hs : yS s) (hy : yR r) (hrs : r < s ∨ s + 12 < r) (hr : rep σ s E D) (he : eG E) (hd : dG E D) (hc : rowc σ r E C) (hdc : dG E C) : YI g 145 [(2, s), (2, r)] σ (fun b σ' => (σ = σ' ∧ b = 0) ∨ (σ = σ' ∧ b = 1 ∧ deq E D C)) := by
  refine y_start rfl rfl rfl ?_
  refine y_push rfl ?_
  refine y_istore (L' := [some (2, s), some (2, r), some (0, 0), none, none]) rfl rfl rfl rfl ?_
  exact l_isAt1 hs hy hrs hr he hd hc hdc 4 0 (by have := he.2.1; omega) (by have := he.2.1; omega) (fun c x y => by omega)
theorem sets_at {E D : YS} {t : Int} (h0 : 0 ≤ t ∧ t ≤ 400) (hz : mgo E (msteps E D t.toNat) (E 1 0).toNat = 0) (hg : ∀ u : Nat, (u : Int) < t → mgo E (msteps E D u) (E 1 0).toNat ≠ 0) : sets E D t := Or.inl ⟨h0.1, h0.2, hz, hg⟩
theorem l_settle {g : Launch × XG × va_G} {σ : YS} {s : Int} {E D : YS} (hs : yS s) (he : eG E) (hd : dG E D) (hn : 0 ≤ D 5 0 ∧ D 5 0 < 900000) : ∀ (nn : Nat) (τ : YS) (aw : Int) (nm : Int) (t : Int), 401 - t < (nn : Int) → (0 ≤ t ∧ t ≤ 401) → (aw = mgo E (msteps E D t.toNat) (E 1 0).toNat) → (rep τ s E (msteps E D t.toNat)) → (∀ u : Nat, (u : Int) < t → mgo E (msteps E D u) (E 1 0).toNat ≠ 0) → (0 ≤ nm ∧ nm ≤ 1000) → (∃ q : Nat, ((q : Int) ≤ t ∧ ((q : Int) < t ∨ t = 0)) ∧ (q : Int) % 14 = 0 ∧ rowc τ (s + 13) E (msteps E D q)) → (True) → (yfr σ τ s (s + 13)) → YW g 68 18 [some (2, s), some (0, aw), some (0, nm), some (0, t)] [] τ (fun rv σ' => ∃ b, rv = some (0, b) ∧ (sets E D b ∧ (b ≠ -1 → rep σ' s E (msteps E D b.toNat)) ∧ yfr σ σ' s (s + 13) ∧ ∃ n : Nat, n ≤ 401 ∧ rep σ' s E (msteps E D n))) := by
  intro nn
  induction nn with
  | zero =>
    intro τ aw nm t hn h0 h1 h2 h3 h4 h5 h6 h7
    exfalso
    omega
  | succ nn ih =>
    intro τ aw nm t hn h0 h1 h2 h3 h4 h5 h6 h7
    have ⟨e1, e2, e3⟩ := he
    have s0 := yS_0 hs
    refine y_iload rfl rfl ?_
    refine y_push rfl ?_
    refine y_icgt rfl (fun q22 => ?_) (fun q22 => ?_)
    · skip
      refine y_push rfl ?_
      refine y_iret rfl rfl ⟨_, rfl, ?_⟩
      exact ⟨Or.inr ⟨rfl, fun u _ => h3 u (by omega)⟩, fun z => absurd rfl z, h7, t.toNat, by omega, h2⟩
    · skip
      refine y_iload rfl rfl ?_
      refine y_ifne rfl (fun q26 => ?_) (fun q26 => ?_)
      · skip
        refine y_iload rfl rfl ?_
        refine y_ifle rfl (fun q32 => ?_) (fun q32 => ?_)
        · skip
          refine y_aload rfl rfl rfl ?_
          have hr2 := h2
          refine y_vi (as := [(2, s)]) (S := []) rfl rfl rfl rfl rfl rfl (yS_0 hs).1 (yS_c hs) (c_advance hs hr2 he (dG_steps hd he _) (by rw [msteps_5]; omega)) ?_
          rintro _ σ2 ⟨y1, rfl, y2⟩
          refine y_istore (L' := [some (2, s), some (0, (mgo E (mstep E (msteps E D t.toNat)) (E 1 0).toNat)), some (0, nm), some (0, t)]) rfl rfl rfl rfl ?_
          refine y_iinc (L' := [some (2, s), some (0, (mgo E (mstep E (msteps E D t.toNat)) (E 1 0).toNat)), some (0, nm), some (0, (t + 1))]) rfl rfl rfl rfl rfl (by omega) ?_
          refine y_goto rfl ?_
          refine ih σ2 _ nm (t + 1) (by omega) (by omega) (by rw [show (t + 1).toNat = t.toNat + 1 by omega]; rfl) (by rw [show (t + 1).toNat = t.toNat + 1 by omega]; exact y1) (fun u hu => by rcases (by omega : (u : Int) < t ∨ u = t.toNat) with z | rfl; exact h3 u z; rw [← h1]; exact q26) (by omega) ?_ trivial ?_
          · have ⟨q, q1, q2, q3⟩ := h5; exact ⟨q, by omega, q2, rowc_cong e2 q3 (fun k x y => y2 _ _ (by omega))⟩
          · exact yfr_trans h7 (yfr_w y2 (by omega))
        · skip
          refine y_iload rfl rfl ?_
          refine y_push rfl ?_
          refine y_irem (v := (t % 14)) rfl rfl (by omega) ?_
          refine y_ifne rfl (fun q39 => ?_) (fun q39 => ?_)
          · skip
            refine y_aload rfl rfl rfl ?_
            have hr2 := h2
            refine y_vi (as := [(2, s)]) (S := []) rfl rfl rfl rfl rfl rfl (yS_0 hs).1 (yS_c hs) (c_advance hs hr2 he (dG_steps hd he _) (by rw [msteps_5]; omega)) ?_
            rintro _ σ2 ⟨y1, rfl, y2⟩
            refine y_istore (L' := [some (2, s), some (0, (mgo E (mstep E (msteps E D t.toNat)) (E 1 0).toNat)), some (0, nm), some (0, t)]) rfl rfl rfl rfl ?_
            refine y_iinc (L' := [some (2, s), some (0, (mgo E (mstep E (msteps E D t.toNat)) (E 1 0).toNat)), some (0, nm), some (0, (t + 1))]) rfl rfl rfl rfl rfl (by omega) ?_
            refine y_goto rfl ?_
            refine ih σ2 _ nm (t + 1) (by omega) (by omega) (by rw [show (t + 1).toNat = t.toNat + 1 by omega]; rfl) (by rw [show (t + 1).toNat = t.toNat + 1 by omega]; exact y1) (fun u hu => by rcases (by omega : (u : Int) < t ∨ u = t.toNat) with z | rfl; exact h3 u z; rw [← h1]; exact q26) (by omega) ?_ trivial ?_
            · have ⟨q, q1, q2, q3⟩ := h5; exact ⟨q, by omega, q2, rowc_cong e2 q3 (fun k x y => y2 _ _ (by omega))⟩
            · exact yfr_trans h7 (yfr_w y2 (by omega))
          · skip
            refine y_aload rfl rfl rfl ?_
            refine y_aload rfl rfl rfl ?_
            refine y_gfr (t := (s + 13)) rfl (yS_c hs) (yS_0 hs).1 rfl (by have := yS_0 hs; omega) ?_
            have ⟨q, q1, q2, q3⟩ := h5
            refine y_vi (as := [(2, s), (2, (s + 13))]) (S := []) rfl rfl rfl rfl rfl rfl (yS_0 hs).1 (yS_c hs) (c_isAt hs (yS_r hs) (by omega) h2 he (dG_steps hd he _) q3 (dG_steps hd he _)) ?_
            rintro b_ _ (⟨rfl, rfl⟩ | ⟨rfl, rfl, hq⟩)
            · skip
              refine y_ifeq rfl (fun q50 => ?_) (fun q50 => ?_)
              · skip
                refine y_iload rfl rfl ?_
                refine y_iload rfl rfl ?_
                refine y_icne rfl (fun q57 => ?_) (fun q57 => ?_)
                · skip
                  refine y_aload rfl rfl rfl ?_
                  have hr2 := h2
                  refine y_vi (as := [(2, s)]) (S := []) rfl rfl rfl rfl rfl rfl (yS_0 hs).1 (yS_c hs) (c_advance hs hr2 he (dG_steps hd he _) (by rw [msteps_5]; omega)) ?_
                  rintro _ σ2 ⟨y1, rfl, y2⟩
                  refine y_istore (L' := [some (2, s), some (0, (mgo E (mstep E (msteps E D t.toNat)) (E 1 0).toNat)), some (0, nm), some (0, t)]) rfl rfl rfl rfl ?_
                  refine y_iinc (L' := [some (2, s), some (0, (mgo E (mstep E (msteps E D t.toNat)) (E 1 0).toNat)), some (0, nm), some (0, (t + 1))]) rfl rfl rfl rfl rfl (by omega) ?_
                  refine y_goto rfl ?_
                  refine ih σ2 _ nm (t + 1) (by omega) (by omega) (by rw [show (t + 1).toNat = t.toNat + 1 by omega]; rfl) (by rw [show (t + 1).toNat = t.toNat + 1 by omega]; exact y1) (fun u hu => by rcases (by omega : (u : Int) < t ∨ u = t.toNat) with z | rfl; exact h3 u z; rw [← h1]; exact q26) (by omega) ?_ trivial ?_
                  · have ⟨q, q1, q2, q3⟩ := h5; exact ⟨q, by omega, q2, rowc_cong e2 q3 (fun k x y => y2 _ _ (by omega))⟩
                  · exact yfr_trans h7 (yfr_w y2 (by omega))
                · skip
                  refine y_aload rfl rfl rfl ?_
                  refine y_aload rfl rfl rfl ?_
                  refine y_gfr (t := (s + 13)) rfl (yS_c hs) (yS_0 hs).1 rfl (by have := yS_0 hs; omega) ?_
                  refine y_vu (as := [(2, s), (2, (s + 13))]) (S := []) rfl rfl rfl rfl rfl rfl (yS_0 hs).1 (yS_c hs) (c_save hs (yS_r hs) (by omega) h2 he) ?_
                  rintro σ' ⟨z1, z2⟩
                  refine y_push rfl ?_
                  refine y_iload rfl rfl ?_
                  refine y_imul (v := (2 * nm)) rfl rfl (by omega) ?_
                  refine y_istore (L' := [some (2, s), some (0, aw), some (0, (2 * nm)), some (0, t)]) rfl rfl rfl rfl ?_
                  refine y_aload rfl rfl rfl ?_
                  have hr2 := rep_cong e2.2 h2 (fun x y x1 x2 => z2 x y (by omega))
                  refine y_vi (as := [(2, s)]) (S := []) rfl rfl rfl rfl rfl rfl (yS_0 hs).1 (yS_c hs) (c_advance hs hr2 he (dG_steps hd he _) (by rw [msteps_5]; omega)) ?_
                  rintro _ σ2 ⟨y1, rfl, y2⟩
                  refine y_istore (L' := [some (2, s), some (0, (mgo E (mstep E (msteps E D t.toNat)) (E 1 0).toNat)), some (0, (2 * nm)), some (0, t)]) rfl rfl rfl rfl ?_
                  refine y_iinc (L' := [some (2, s), some (0, (mgo E (mstep E (msteps E D t.toNat)) (E 1 0).toNat)), some (0, (2 * nm)), some (0, (t + 1))]) rfl rfl rfl rfl rfl (by omega) ?_
                  refine y_goto rfl ?_
                  refine ih σ2 _ (2 * nm) (t + 1) (by omega) (by omega) (by rw [show (t + 1).toNat = t.toNat + 1 by omega]; rfl) (by rw [show (t + 1).toNat = t.toNat + 1 by omega]; exact y1) (fun u hu => by rcases (by omega : (u : Int) < t ∨ u = t.toNat) with z | rfl; exact h3 u z; rw [← h1]; exact q26) (by omega) ?_ trivial ?_
                  · exact ⟨t.toNat, by omega, by omega, rowc_cong e2 z1 (fun k x y => y2 _ _ (by omega))⟩
                  · exact yfr_trans h7 (yfr_trans (yfr_w z2 (by omega)) (yfr_w y2 (by omega)))
              · exfalso; omega
            · skip
              refine y_ifeq rfl (fun q50 => ?_) (fun q50 => ?_)
              · exfalso; omega
              · skip
                refine y_push rfl ?_
                refine y_iret rfl rfl ⟨_, rfl, ?_⟩
                refine ⟨Or.inr ⟨rfl, fun u _ => per_go hd he (t := t.toNat) (q := q) (by omega) hq (by omega) (fun u hu => ?_) u⟩, fun z => absurd rfl z, h7, t.toNat, by omega, h2⟩
                rcases (by omega : (u : Int) < t ∨ u = t.toNat) with z | rfl
                · exact h3 u z
                · rw [← h1]; exact q26
      · skip
        refine y_iload rfl rfl ?_
        refine y_iret rfl rfl ⟨_, rfl, ?_⟩
        exact ⟨sets_at ⟨by omega, by omega⟩ (by omega) h3, fun _ => h2, h7, t.toNat, by omega, h2⟩
theorem c_settle {g : Launch × XG × va_G} {σ : YS} {s : Int} {E D : YS} (hs : yS s) (hr : rep σ s E D) (he : eG E) (hd : dG E D) (hn : 0 ≤ D 5 0 ∧ D 5 0 < 900000) : YI g 68 [(2, s)] σ (fun b σ' => sets E D b ∧ (b ≠ -1 → rep σ' s E (msteps E D b.toNat)) ∧ yfr σ σ' s (s + 13) ∧ ∃ n : Nat, n ≤ 401 ∧ rep σ' s E (msteps E D n)) := by
  refine y_start rfl rfl rfl ?_
  have ⟨⟨f1, f2, f3, f4⟩, f5, f6, g7, g8⟩ := hr
  have f7 := mth_7 g7
  have ⟨e1, e2, e3⟩ := he
  have s0 := yS_0 hs
  have e2 := he.2.1
  refine y_aload rfl rfl rfl ?_
  refine y_vi (as := [(2, s)]) (S := []) rfl rfl rfl rfl rfl rfl (yS_0 hs).1 (yS_c hs) (c_awake hs (by rw [f2]; exact e2)) ?_
  rintro _ _ ⟨rfl, rfl⟩
  refine y_istore (L' := [some (2, s), some (0, (maw σ s (σ s 5).toNat)), none, none]) rfl rfl rfl rfl ?_
  refine y_push rfl ?_
  refine y_istore (L' := [some (2, s), some (0, (maw σ s (σ s 5).toNat)), some (0, 14), none]) rfl rfl rfl rfl ?_
  refine y_aload rfl rfl rfl ?_
  refine y_aload rfl rfl rfl ?_
  refine y_gfr (t := (s + 13)) rfl (yS_c hs) (yS_0 hs).1 rfl (by have := yS_0 hs; omega) ?_
  refine y_vu (as := [(2, s), (2, (s + 13))]) (S := []) rfl rfl rfl rfl rfl rfl (yS_0 hs).1 (yS_c hs) (c_save hs (yS_r hs) (by omega) hr he) ?_
  rintro σ' ⟨z1, z2⟩
  refine y_push rfl ?_
  refine y_istore (L' := [some (2, s), some (0, (maw σ s (σ s 5).toNat)), some (0, 14), some (0, 0)]) rfl rfl rfl rfl ?_
  refine l_settle hs he hd hn 402 σ' (maw σ s (σ s 5).toNat) 14 0 (by omega) (by omega) (by rw [f2]; exact maw_go e2.2 hr _ (by omega)) (rep_cong e2.2 hr (fun x y x1 x2 => z2 x y (by omega))) (fun u hu => by omega) (by omega) ⟨0, by omega, by omega, z1⟩ trivial (yfr_w z2 (by omega))
