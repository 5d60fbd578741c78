/-! What comes again. -/
def deqF (E D C : YS) : Prop := (∀ c, 0 ≤ c → c < 9 → D 0 c = C 0 c) ∧ ∀ i, 0 ≤ i → i < E 1 0 → ∀ r, 1 ≤ r → r ≤ 4 → D r i = C r i
def alk (E D : YS) (s t : Int) : Prop := s % 14 = t % 14 ∧ deqF E (msteps E D s.toNat) (msteps E D t.toNat)
def wts (E D : YS) (s : Int) (n : Nat) : Int := wand (fun k => msteps E D (k + 1).toNat 6 0) s n
def kag (E D : YS) (q b : Int) : Prop := (∃ t s, (1 ≤ t ∧ t ≤ 400) ∧ (0 ≤ s ∧ s < t) ∧ alk E D s t ∧ (∀ t', 1 ≤ t' → t' < t → ∀ s', 0 ≤ s' → s' < t' → ¬ alk E D s' t') ∧ (∀ s', 0 ≤ s' → s' < s → ¬ alk E D s' t) ∧ b = if q = 0 then t else if q = 1 then s else wts E D s (t - s).toNat) ∨ ((∀ t', 1 ≤ t' → t' < 401 → ∀ s', 0 ≤ s' → s' < t' → ¬ alk E D s' t') ∧ b = -1)
theorem kag_one {E D : YS} {q b b' : Int} (h : kag E D q b) (h' : kag E D q b') : b = b' := by
  rcases h with ⟨t, s, a1, a2, a3, a4, a5, a6⟩ | ⟨a1, a2⟩ <;> rcases h' with ⟨t', s', b1, b2, b3, b4, b5, b6⟩ | ⟨b1, b2⟩
  · have et : t = t' := by
      rcases (by omega : t < t' ∨ t = t' ∨ t' < t) with z | z | z
      · exact absurd a3 (b4 t a1.1 z s a2.1 a2.2)
      · exact z
      · exact absurd b3 (a4 t' b1.1 z s' b2.1 b2.2)
    subst et
    have es : s = s' := by
      rcases (by omega : s < s' ∨ s = s' ∨ s' < s) with z | z | z
      · exact absurd a3 (b5 s a2.1 z)
      · exact z
      · exact absurd b3 (a5 s' b2.1 z)
    subst es
    rw [a6, b6]
  · exact absurd a3 (b1 t a1.1 (by omega) s a2.1 a2.2)
  · exact absurd b3 (a1 t' b1.1 (by omega) s' b2.1 b2.2)
  · rw [a2, b2]
theorem msteps_w1 {E D : YS} {v : Int} : ∀ n : Nat, msteps E (yset D 6 0 v) (n + 1) = msteps E D (n + 1)
  | 0 => mstep_w
  | n + 1 => by
    show mstep E (msteps E (yset D 6 0 v) (n + 1)) = mstep E (msteps E D (n + 1))
    rw [msteps_w1 n]
theorem deqF_w {E D C : YS} {v w : Int} (n k : Nat) : deqF E (msteps E (yset D 6 0 v) n) (msteps E (yset C 6 0 w) k) ↔ deqF E (msteps E D n) (msteps E C k) := by
  unfold deqF
  constructor
  · rintro ⟨h1, h2⟩
    refine ⟨fun c a b => ?_, fun i a b r a' b' => ?_⟩
    · have := h1 c a b
      rw [msteps_w (by omega), msteps_w (by omega)] at this
      exact this
    · have := h2 i a b r a' b'
      rw [msteps_w (by omega), msteps_w (by omega)] at this
      exact this
  · rintro ⟨h1, h2⟩
    refine ⟨fun c a b => ?_, fun i a b r a' b' => ?_⟩
    · rw [msteps_w (by omega), msteps_w (by omega)]; exact h1 c a b
    · rw [msteps_w (by omega), msteps_w (by omega)]; exact h2 i a b r a' b'
theorem wand_cong {f g : Int → Int} {s : Int} : ∀ n : Nat, (∀ k : Nat, k < n → f (s + k) = g (s + k)) → wand f s n = wand g s n
  | 0, _ => rfl
  | n + 1, h => by
    show yand (wand f s n) (f (s + n)) = yand (wand g s n) (g (s + n))
    rw [wand_cong n (fun k a => h k (by omega)), h n (by omega)]
theorem kag_w {E D : YS} {v q b : Int} (h : kag E (yset D 6 0 v) q b) : kag E D q b := by
  have al : ∀ s t, alk E (yset D 6 0 v) s t ↔ alk E D s t := fun s t => by unfold alk; rw [deqF_w]
  have wt : ∀ s n, 0 ≤ s → wts E (yset D 6 0 v) s n = wts E D s n := fun s n hs => wand_cong n (fun k _ => by
    show msteps E (yset D 6 0 v) (s + k + 1).toNat 6 0 = msteps E D (s + k + 1).toNat 6 0
    rw [show (s + (k : Int) + 1).toNat = (s + k).toNat + 1 by omega, msteps_w1])
  rcases h with ⟨t, s, a1, a2, a3, a4, a5, a6⟩ | ⟨a1, a2⟩
  · refine Or.inl ⟨t, s, a1, a2, (al _ _).mp a3, fun t' x y s' x' y' z => a4 t' x y s' x' y' ((al _ _).mpr z), fun s' x y z => a5 s' x y ((al _ _).mpr z), ?_⟩
    rw [a6, wt s _ a2.1]
  · exact Or.inr ⟨fun t' x y s' x' y' z => a1 t' x y s' x' y' ((al _ _).mpr z), a2⟩
/-! The class's rows. -/
abbrev mdead (E : YS) (i : Int) : Prop := E 3 i = 0 ∨ mfl E i ≠ -1
def rowx (σ : YS) (r : Int) (E C : YS) (h : Int → Int) : Prop := rowc σ r E C ∧ ∀ i, 0 ≤ i → i < E 1 0 → mdead E i → σ r (9 + 4 * i + 3) = h i
theorem rowx_cong {σ σ' : YS} {r : Int} {E C : YS} {h : Int → Int} (hm : 0 ≤ E 1 0 ∧ E 1 0 ≤ 3) (x : rowx σ r E C h) (e : ∀ y, σ' r y = σ r y) : rowx σ' r E C h := ⟨rowc_cong hm x.1 (fun k _ _ => e k), fun i a b c => (e _).trans (x.2 i a b c)⟩
theorem row_eq {σ : YS} {a b : Int} {E C D : YS} {h : Int → Int} (hm : E 1 0 ≤ 3) (hc : dG E C) (hd : dG E D) (ha : rowx σ a E C h) (hb : rowx σ b E D h) : (∀ k, 0 ≤ k → k < 21 → σ a k = σ b k) ↔ deqF E C D := by
  obtain ⟨⟨a1, a2, a3, a4⟩, a5⟩ := ha
  obtain ⟨⟨b1, b2, b3, b4⟩, b5⟩ := hb
  constructor
  · intro e
    refine ⟨fun c x y => by rw [← a1 c x y, ← b1 c x y]; exact e c x (by omega), fun i x y r x' y' => ?_⟩
    obtain ⟨p1, p2, p3, p4, p5⟩ := a2 i x y
    obtain ⟨q1, q2, q3, q4, q5⟩ := b2 i x y
    have k0 := e (9 + 4 * i) (by omega) (by omega)
    have k1 := e (9 + 4 * i + 1) (by omega) (by omega)
    have k2 := e (9 + 4 * i + 2) (by omega) (by omega)
    have k3 := e (9 + 4 * i + 3) (by omega) (by omega)
    have c4 := (hc.2 i x y).2.2.2
    have d4 := (hd.2 i x y).2.2.2
    rcases (by omega : r = 1 ∨ r = 2 ∨ r = 3 ∨ r = 4) with rfl | rfl | rfl | rfl
    · omega
    · omega
    · omega
    · rw [k3] at p5
      have : C 4 i = 0 ↔ D 4 i = 0 := p5.trans q5.symm
      omega
  · rintro ⟨e1, e2⟩ k x y
    by_cases k9 : k < 9
    · rw [a1 k x k9, b1 k x k9]; exact e1 k x k9
    by_cases kw : 9 + 4 * E 1 0 ≤ k
    · rw [a3 k kw y, b3 k kw y]
    have hi : 0 ≤ (k - 9) / 4 ∧ (k - 9) / 4 < E 1 0 := by omega
    obtain ⟨p1, p2, p3, p4, p5⟩ := a2 _ hi.1 hi.2
    obtain ⟨q1, q2, q3, q4, q5⟩ := b2 _ hi.1 hi.2
    have f := fun r u v => e2 _ hi.1 hi.2 r u v
    have f1 := f 1 (by omega) (by omega)
    have f2 := f 2 (by omega) (by omega)
    have f3 := f 3 (by omega) (by omega)
    have f4 := f 4 (by omega) (by omega)
    have c4 := (hc.2 _ hi.1 hi.2).2.2.2
    rcases (by omega : k = 9 + 4 * ((k - 9) / 4) ∨ k = 9 + 4 * ((k - 9) / 4) + 1 ∨ k = 9 + 4 * ((k - 9) / 4) + 2 ∨ k = 9 + 4 * ((k - 9) / 4) + 3) with z | z | z | z <;> rw [z]
    · omega
    · omega
    · omega
    · by_cases dead : mdead E ((k - 9) / 4)
      · rw [a5 _ hi.1 hi.2 dead, b5 _ hi.1 hi.2 dead]
      · have h1 : C 4 ((k - 9) / 4) = 0 ↔ ¬ σ a (9 + 4 * ((k - 9) / 4) + 3) = 1 := by
          rw [p5]; exact ⟨fun z w => z (Or.inl w), fun z w => w.elim z dead⟩
        have h2 : D 4 ((k - 9) / 4) = 0 ↔ ¬ σ b (9 + 4 * ((k - 9) / 4) + 3) = 1 := by
          rw [q5]; exact ⟨fun z w => z (Or.inl w), fun z w => w.elim z dead⟩
        rw [f4] at h1
        have h3 := h1.symm.trans h2
        omega
/-! Finer frames. -/
def afr (σ σ' : YS) (s i : Int) : Prop := ∀ x y, x ≠ s → x ≠ s + 1 → x ≠ s + 3 + 3 * i → σ' x y = σ x y
theorem afr_refl (σ : YS) (s i : Int) : afr σ σ s i := fun _ _ _ _ _ => rfl
theorem afr_set {σ σ' : YS} {s i k j v : Int} (h : afr σ σ' s i) (hk : k = s ∨ k = s + 1 ∨ k = s + 3 + 3 * i) : afr σ (yset σ' k j v) s i := fun x y a b c => by
  rw [yne (by omega) rfl]; exact h x y a b c
theorem afr_trans {σ σ' σ'' : YS} {s i : Int} (h : afr σ σ' s i) (h' : afr σ' σ'' s i) : afr σ σ'' s i := fun x y a b c => (h' x y a b c).trans (h x y a b c)
theorem afr_y {σ σ' : YS} {s i : Int} (h : afr σ σ' s i) (hi : 0 ≤ i ∧ i < 3) : yfr σ σ' s (s + 11) := fun x y a => h x y (by omega) (by omega) (by omega)
def bfr (σ σ' : YS) (s : Int) (E : YS) : Prop := ∀ i, 0 ≤ i → i < E 1 0 → mdead E i → σ' (s + 3 + 3 * i) 8 = σ (s + 3 + 3 * i) 8
theorem bfr_0 (σ : YS) (s : Int) (E : YS) : bfr σ σ s E := fun _ _ _ _ => rfl
theorem bfr_s {σ σ' : YS} {s j v : Int} {E : YS} (h : bfr σ σ' s E) : bfr σ (yset σ' s j v) s E := fun i a b c => by rw [yne (by omega) rfl]; exact h i a b c
theorem bfr_act {σ τ σ' : YS} {s i : Int} {E : YS} (h : bfr σ τ s E) (z : afr τ σ' s i) (hd : ¬ mdead E i) : bfr σ σ' s E := fun j a b c => by
  have e : j ≠ i := fun e => hd (by subst e; exact c)
  rw [z _ _ (by omega) (by omega) (by omega)]
  exact h j a b c
/-! The reference's rows. -/
def rfq (E σ σ' : YS) : Prop := ∀ x y, x ≠ 554 → ¬ (555 ≤ x ∧ x ≤ 558 ∧ 0 ≤ y ∧ y < E 1 0) → ¬ (x = 547 ∧ y = 18) → σ' x y = σ x y
theorem rfq_0 {E : YS} (σ : YS) : rfq E σ σ := fun _ _ _ _ _ => rfl
theorem rfq_s {E σ σ' : YS} {k j v : Int} (h : rfq E σ σ') (hk : k = 554 ∨ (555 ≤ k ∧ k ≤ 558 ∧ 0 ≤ j ∧ j < E 1 0) ∨ (k = 547 ∧ j = 18)) : rfq E σ (yset σ' k j v) := fun x y a b c => by
  rw [yne (fun z => by obtain ⟨rfl, rfl⟩ := z; omega) rfl]; exact h x y a b c
theorem rfq_t {E σ σ' σ'' : YS} (h : rfq E σ σ') (h' : rfq E σ' σ'') : rfq E σ σ'' := fun x y a b c => (h' x y a b c).trans (h x y a b c)
theorem rfq_r {E σ σ' : YS} (h : rfq E σ σ') : rfr σ σ' := fun x y a b => h x y (by omega) (by omega) b
def mrw (σ : YS) (u : Int) (E C : YS) (h : Int → Int → Int) : Prop := (∀ c, 0 ≤ c → c < 9 → σ 563 (21 * u + c) = C 0 c) ∧ ∀ i, 0 ≤ i → i < 3 → ∀ r, 1 ≤ r → r ≤ 4 → σ 563 (21 * u + 6 + 3 * r + i) = if i < E 1 0 then C r i else h r i
theorem mrw_cong {σ σ' : YS} {u : Int} {E C : YS} {h : Int → Int → Int} (x : mrw σ u E C h) (e : ∀ k, 0 ≤ k → k < 21 → σ' 563 (21 * u + k) = σ 563 (21 * u + k)) : mrw σ' u E C h := by
  refine ⟨fun c a b => (e c a (by omega)).trans (x.1 c a b), fun i a b r a' b' => ?_⟩
  have := e (6 + 3 * r + i) (by omega) (by omega)
  rw [show 21 * u + (6 + 3 * r + i) = 21 * u + 6 + 3 * r + i by omega] at this
  exact this.trans (x.2 i a b r a' b')
theorem mrw_eq {σ : YS} {u v : Int} {E C D : YS} {h : Int → Int → Int} (hm : 0 ≤ E 1 0 ∧ E 1 0 ≤ 3) (ha : mrw σ u E C h) (hb : mrw σ v E D h) : (∀ k, 0 ≤ k → k < 21 → σ 563 (21 * u + k) = σ 563 (21 * v + k)) ↔ deqF E C D := by
  constructor
  · intro e
    refine ⟨fun c x y => by rw [← ha.1 c x y, ← hb.1 c x y]; exact e c x (by omega), fun i x y r x' y' => ?_⟩
    have p := ha.2 i x (by omega) r x' y'
    have q := hb.2 i x (by omega) r x' y'
    have k := e (6 + 3 * r + i) (by omega) (by omega)
    rw [show 21 * u + (6 + 3 * r + i) = 21 * u + 6 + 3 * r + i by omega, show 21 * v + (6 + 3 * r + i) = 21 * v + 6 + 3 * r + i by omega] at k
    rw [if_pos y] at p q
    rw [← p, ← q]; exact k
  · rintro ⟨e1, e2⟩ k x y
    by_cases k9 : k < 9
    · rw [ha.1 k x k9, hb.1 k x k9]; exact e1 k x k9
    have p := ha.2 ((k - 9) % 3) (by omega) (by omega) ((k - 9) / 3 + 1) (by omega) (by omega)
    have q := hb.2 ((k - 9) % 3) (by omega) (by omega) ((k - 9) / 3 + 1) (by omega) (by omega)
    rw [show 21 * u + 6 + 3 * ((k - 9) / 3 + 1) + (k - 9) % 3 = 21 * u + k by omega] at p
    rw [show 21 * v + 6 + 3 * ((k - 9) / 3 + 1) + (k - 9) % 3 = 21 * v + k by omega] at q
    rw [p, q]
    by_cases z : (k - 9) % 3 < E 1 0
    · rw [if_pos z, if_pos z]; exact e2 _ (by omega) z _ (by omega) (by omega)
    · rw [if_neg z, if_neg z]
theorem dl_fetch {g : Launch × XG × va_G} {σ : YS} {s i : Int} {E F : YS} (hs : yS s) (he : eG E) (hi : 0 ≤ i ∧ i < E 1 0) : ∀ (nn : Nat) (τ : YS) (C : YS) (k : Int), mtimes (E 2 i) - k < (nn : Int) → (0 ≤ k) → (rep τ s E C) → (dG E C) → (afr σ τ s i) → (0 ≤ C 5 0 ∧ C 5 0 < 1000000) → (k ≤ mtimes (E 2 i)) → (mfetch C i (mtimes (E 2 i) - k).toNat = F) → YW g 151 2 [some (2, s), some (2, (s + 3 + 3 * i)), some (0, k)] [] τ (fun rv σ' => rv = none ∧ (rep σ' s E F ∧ afr σ σ' s i)) := by
  intro nn
  induction nn with
  | zero =>
    intro τ C k hn h0 h1 h2 h3 h4 h5 h6
    exfalso
    omega
  | succ nn ih =>
    intro τ C k hn h0 h1 h2 h3 h4 h5 h6
    have ⟨⟨f1, f2, f3, f4⟩, f5, f6, g7, g8⟩ := h1
    have f7 := mth_7 g7
    have ⟨e1, e2, e3⟩ := he
    have s0 := yS_0 hs
    have ⟨⟨b1, b2, b3, b4⟩, a5, ⟨a6, a7, a8⟩, a9, a10⟩ := f6 i hi.1 hi.2
    have ⟨⟨d1, d2⟩, ⟨d3, d4⟩, ⟨d5, d6⟩, d7⟩ := h2.2 i hi.1 hi.2
    have ⟨⟨e4, e5⟩, ⟨e6, e7⟩, e8⟩ := e3 i hi.1 hi.2
    have w1 : τ (s + 1) (τ (s + 3 + 3 * i) 5) = C 0 (C 1 i) := by rw [a6]; exact f5 _ (by omega) (by omega)
    have w2 := h2.1 (C 1 i) (by omega) (by omega)
    have hf : yfet (τ (s + 3 + 3 * i) 4) = mtimes (E 2 i) := by rw [a5]; exact yfet_r (by omega)
    have hmt : 0 ≤ mtimes (E 2 i) ∧ mtimes (E 2 i) ≤ 20 := by unfold mtimes; (repeat' split) <;> omega
    refine y_iload rfl rfl ?_
    refine y_gets2 rfl ?_
    refine y_aload rfl rfl rfl ?_
    refine y_gfi (v := (τ (s + 3 + 3 * i) 4)) rfl (yN_c (yS_n (s := s) (i := i) hs (by omega))) (by have := yN_0 (yS_n (s := s) (i := i) hs (by omega)); omega) rfl (by decide) rfl rfl ?_
    refine y_iald2 rfl (by omega) ?_
    refine y_icge rfl (fun q11 => ?_) (fun q11 => ?_)
    · skip
      refine y_ret rfl rfl ⟨rfl, ?_⟩
      rw [show (mtimes (E 2 i) - k).toNat = 0 by omega] at h6
      exact ⟨by rw [← h6]; exact h1, h3⟩
    · skip
      refine y_aload rfl rfl rfl ?_
      refine y_gfr (t := (s + 1)) rfl (yS_c hs) (yS_0 hs).1 rfl (by have := yS_0 hs; omega) ?_
      refine y_aload rfl rfl rfl ?_
      refine y_gfi (v := (τ (s + 3 + 3 * i) 5)) rfl (yN_c (yS_n (s := s) (i := i) hs (by omega))) (by have := yN_0 (yS_n (s := s) (i := i) hs (by omega)); omega) rfl (by decide) rfl rfl ?_
      refine y_iald (v := (τ (s + 1) (τ (s + 3 + 3 * i) 5))) (n := 9) rfl (yS_w hs) (by have := yS_0 hs; omega) rfl (by omega) rfl ?_
      refine y_ifle rfl (fun q23 => ?_) (fun q23 => ?_)
      · skip
        refine y_iinc (L' := [some (2, s), some (2, (s + 3 + 3 * i)), some (0, (k + 1))]) rfl rfl rfl rfl rfl (by omega) ?_
        refine y_goto rfl ?_
        have hm : mfetch1 C i = C := if_neg (by omega)
        refine ih τ C (k + 1) (by omega) (by omega) h1 h2 h3 h4 (by omega) ?_
        rw [show (mtimes (E 2 i) - k).toNat = (mtimes (E 2 i) - (k + 1)).toNat + 1 by omega] at h6; unfold mfetch at h6; rw [hm] at h6; exact h6
      · skip
        refine y_aload rfl rfl rfl ?_
        refine y_gfi (v := (τ (s + 3 + 3 * i) 6)) rfl (yN_c (yS_n (s := s) (i := i) hs (by omega))) (by have := yN_0 (yS_n (s := s) (i := i) hs (by omega)); omega) rfl (by decide) rfl rfl ?_
        refine y_push rfl ?_
        refine y_icge rfl (fun q32 => ?_) (fun q32 => ?_)
        · skip
          refine y_iinc (L' := [some (2, s), some (2, (s + 3 + 3 * i)), some (0, (k + 1))]) rfl rfl rfl rfl rfl (by omega) ?_
          refine y_goto rfl ?_
          have hm : mfetch1 C i = C := if_neg (by omega)
          refine ih τ C (k + 1) (by omega) (by omega) h1 h2 h3 h4 (by omega) ?_
          rw [show (mtimes (E 2 i) - k).toNat = (mtimes (E 2 i) - (k + 1)).toNat + 1 by omega] at h6; unfold mfetch at h6; rw [hm] at h6; exact h6
        · skip
          refine y_aload rfl rfl rfl ?_
          refine y_gfr (t := (s + 1)) rfl (yS_c hs) (yS_0 hs).1 rfl (by have := yS_0 hs; omega) ?_
          refine y_aload rfl rfl rfl ?_
          refine y_gfi (v := (τ (s + 3 + 3 * i) 5)) rfl (yN_c (yS_n (s := s) (i := i) hs (by omega))) (by have := yN_0 (yS_n (s := s) (i := i) hs (by omega)); omega) rfl (by decide) rfl rfl ?_
          refine y_dup2 rfl rfl rfl ?_
          refine y_iald (v := (τ (s + 1) (τ (s + 3 + 3 * i) 5))) (n := 9) rfl (yS_w hs) (by have := yS_0 hs; omega) rfl (by omega) rfl ?_
          refine y_push rfl ?_
          refine y_isub (v := ((τ (s + 1) (τ (s + 3 + 3 * i) 5)) - 1)) rfl rfl (by omega) ?_
          refine y_iast (n := 9) rfl (yS_w hs) (by have := yS_0 hs; omega) rfl (by omega) ?_
          refine y_aload rfl rfl rfl ?_
          refine y_dup rfl rfl ?_
          refine y_gfi (v := (τ (s + 3 + 3 * i) 6)) rfl (yN_c (yS_n (s := s) (i := i) hs (by omega))) (by have := yN_0 (yS_n (s := s) (i := i) hs (by omega)); omega) rfl (by decide) rfl (yne (by omega) rfl) ?_
          refine y_push rfl ?_
          refine y_iadd (v := ((τ (s + 3 + 3 * i) 6) + 1)) rfl rfl (by omega) ?_
          refine y_pfi (j := 6) rfl (yN_c (yS_n (s := s) (i := i) hs (by omega))) (by have := yN_0 (yS_n (s := s) (i := i) hs (by omega)); omega) rfl rfl rfl rfl rfl ?_
          refine y_iinc (L' := [some (2, s), some (2, (s + 3 + 3 * i)), some (0, (k + 1))]) rfl rfl rfl rfl rfl (by omega) ?_
          refine y_goto rfl ?_
          have hm : mfetch1 C i = yset (yset C 0 (C 1 i) (C 0 (C 1 i) - 1)) 2 i (C 2 i + 1) := if_pos (by omega)
          refine ih _ (mfetch1 C i) (k + 1) (by omega) (by omega) ?_ (dG_fetch1 h2 he hi) ?_ ?_ ?_ ?_
          · rw [hm, w1, a6, a7]; exact rep_man (rep_w h1 (by omega)) hi (by omega)
          · exact afr_set (afr_set h3 (by omega)) (by omega)
          · rw [mfetch1_k (by omega)]; exact h4
          · omega
          · rw [show (mtimes (E 2 i) - k).toNat = (mtimes (E 2 i) - (k + 1)).toNat + 1 by omega] at h6; exact h6
theorem d_fetch {g : Launch × XG × va_G} {σ : YS} {s i : Int} {E D : YS} (hs : yS s) (hr : rep σ s E D) (he : eG E) (hd : dG E D) (hn : 0 ≤ D 5 0 ∧ D 5 0 < 1000000) (hi : 0 ≤ i ∧ i < E 1 0) : YU g 151 [(2, s), (2, (s + 3 + 3 * i))] σ (fun σ' => rep σ' s E (mfetch D i (mtimes (E 2 i)).toNat) ∧ afr σ σ' s i) := by
  refine y_start rfl rfl rfl ?_
  refine y_push rfl ?_
  refine y_istore (L' := [some (2, s), some (2, (s + 3 + 3 * i)), some (0, 0)]) rfl rfl rfl rfl ?_
  have hmt : 0 ≤ mtimes (E 2 i) ∧ mtimes (E 2 i) ≤ 20 := by unfold mtimes; (repeat' split) <;> omega
  exact dl_fetch hs he hi 21 σ D 0 (by omega) (by omega) hr hd (afr_refl _ _ _) hn (by omega) (by rw [Int.sub_zero])
theorem d_put {g : Launch × XG × va_G} {σ : YS} {s i : Int} {E D : YS} (hs : yS s) (hr : rep σ s E D) (he : eG E) (hd : dG E D) (hn : 0 ≤ D 5 0 ∧ D 5 0 < 1000000) (hi : 0 ≤ i ∧ i < E 1 0) : YU g 152 [(2, s), (2, (s + 3 + 3 * i))] σ (fun σ' => rep σ' s E (mput D i) ∧ afr σ σ' s i) := by
  refine y_start rfl rfl rfl ?_
  have ⟨⟨f1, f2, f3, f4⟩, f5, f6, g7, g8⟩ := hr
  have f7 := mth_7 g7
  have ⟨e1, e2, e3⟩ := he
  have s0 := yS_0 hs
  have ⟨⟨b1, b2, b3, b4⟩, a5, ⟨a6, a7, a8⟩, a9, a10⟩ := f6 i hi.1 hi.2
  have ⟨⟨d1, d2⟩, ⟨d3, d4⟩, ⟨d5, d6⟩, d7⟩ := hd.2 i hi.1 hi.2
  have ⟨⟨e4, e5⟩, ⟨e6, e7⟩, e8⟩ := e3 i hi.1 hi.2
  have w1 : σ (s + 1) (σ (s + 3 + 3 * i) 5) = D 0 (D 1 i) := by rw [a6]; exact f5 _ (by omega) (by omega)
  have w2 := hd.1 (D 1 i) (by omega) (by omega)
  refine y_aload rfl rfl rfl ?_
  refine y_gfi (v := (σ (s + 3 + 3 * i) 6)) rfl (yN_c (yS_n (s := s) (i := i) hs (by omega))) (by have := yN_0 (yS_n (s := s) (i := i) hs (by omega)); omega) rfl (by decide) rfl rfl ?_
  refine y_ifle rfl (fun q4 => ?_) (fun q4 => ?_)
  · skip
    refine y_ret rfl rfl ⟨rfl, ?_⟩
    have hm : mput D i = D := if_neg (by omega)
    exact ⟨by rw [hm]; exact hr, afr_refl _ _ _⟩
  · skip
    refine y_aload rfl rfl rfl ?_
    refine y_gfr (t := (s + 1)) rfl (yS_c hs) (yS_0 hs).1 rfl (by have := yS_0 hs; omega) ?_
    refine y_aload rfl rfl rfl ?_
    refine y_gfi (v := (σ (s + 3 + 3 * i) 5)) rfl (yN_c (yS_n (s := s) (i := i) hs (by omega))) (by have := yN_0 (yS_n (s := s) (i := i) hs (by omega)); omega) rfl (by decide) rfl rfl ?_
    refine y_iald (v := (σ (s + 1) (σ (s + 3 + 3 * i) 5))) (n := 9) rfl (yS_w hs) (by have := yS_0 hs; omega) rfl (by omega) rfl ?_
    refine y_push rfl ?_
    refine y_icge rfl (fun q18 => ?_) (fun q18 => ?_)
    · skip
      refine y_ret rfl rfl ⟨rfl, ?_⟩
      have hm : mput D i = D := if_neg (by omega)
      exact ⟨by rw [hm]; exact hr, afr_refl _ _ _⟩
    · skip
      refine y_aload rfl rfl rfl ?_
      refine y_dup rfl rfl ?_
      refine y_gfi (v := (σ (s + 3 + 3 * i) 6)) rfl (yN_c (yS_n (s := s) (i := i) hs (by omega))) (by have := yN_0 (yS_n (s := s) (i := i) hs (by omega)); omega) rfl (by decide) rfl rfl ?_
      refine y_push rfl ?_
      refine y_isub (v := ((σ (s + 3 + 3 * i) 6) - 1)) rfl rfl (by omega) ?_
      refine y_pfi (j := 6) rfl (yN_c (yS_n (s := s) (i := i) hs (by omega))) (by have := yN_0 (yS_n (s := s) (i := i) hs (by omega)); omega) rfl rfl rfl rfl rfl ?_
      refine y_aload rfl rfl rfl ?_
      refine y_gfr (t := (s + 1)) rfl (yS_c hs) (yS_0 hs).1 rfl (by have := yS_0 hs; omega) ?_
      refine y_aload rfl rfl rfl ?_
      refine y_gfi (v := (σ (s + 3 + 3 * i) 5)) rfl (yN_c (yS_n (s := s) (i := i) hs (by omega))) (by have := yN_0 (yS_n (s := s) (i := i) hs (by omega)); omega) rfl (by decide) rfl (yne (by omega) rfl) ?_
      refine y_dup2 rfl rfl rfl ?_
      refine y_iald (v := (σ (s + 1) (σ (s + 3 + 3 * i) 5))) (n := 9) rfl (yS_w hs) (by have := yS_0 hs; omega) rfl (by omega) (yne (by omega) rfl) ?_
      refine y_push rfl ?_
      refine y_iadd (v := ((σ (s + 1) (σ (s + 3 + 3 * i) 5)) + 1)) rfl rfl (by omega) ?_
      refine y_iast (n := 9) rfl (yS_w hs) (by have := yS_0 hs; omega) rfl (by omega) ?_
      refine y_ret rfl rfl ⟨rfl, ?_⟩
      have hm : mput D i = yset (yset D 2 i (D 2 i - 1)) 0 (D 1 i) (D 0 (D 1 i) + 1) := if_pos (by omega)
      exact ⟨by rw [hm, w1, a6, a7]; exact rep_w (rep_man hr hi (by omega)) (by omega), afr_set (afr_set (afr_refl _ _ _) (by omega)) (by omega)⟩
theorem d_work {g : Launch × XG × va_G} {σ : YS} {s i sg : Int} {E D : YS} (hs : yS s) (hr : rep σ s E D) (he : eG E) (hd : dG E D) (hn : 0 ≤ D 5 0 ∧ D 5 0 < 1000000) (hi : 0 ≤ i ∧ i < E 1 0) : YU g 150 [(2, s), (2, (s + 3 + 3 * i)), (0, sg)] σ (fun σ' => rep σ' s E (mwork E D i sg) ∧ afr σ σ' s i) := by
  refine y_start rfl rfl rfl ?_
  have ⟨⟨f1, f2, f3, f4⟩, f5, f6, g7, g8⟩ := hr
  have f7 := mth_7 g7
  have ⟨e1, e2, e3⟩ := he
  have s0 := yS_0 hs
  have ⟨⟨b1, b2, b3, b4⟩, a5, ⟨a6, a7, a8⟩, a9, a10⟩ := f6 i hi.1 hi.2
  have ⟨⟨d1, d2⟩, ⟨d3, d4⟩, ⟨d5, d6⟩, d7⟩ := hd.2 i hi.1 hi.2
  have ⟨⟨e4, e5⟩, ⟨e6, e7⟩, e8⟩ := e3 i hi.1 hi.2
  have w1 : σ (s + 1) (σ (s + 3 + 3 * i) 5) = D 0 (D 1 i) := by rw [a6]; exact f5 _ (by omega) (by omega)
  have w2 := hd.1 (D 1 i) (by omega) (by omega)
  refine y_aload rfl rfl rfl ?_
  refine y_gfi (v := (σ (s + 3 + 3 * i) 4)) rfl (yN_c (yS_n (s := s) (i := i) hs (by omega))) (by have := yN_0 (yS_n (s := s) (i := i) hs (by omega)); omega) rfl (by decide) rfl rfl ?_
  refine y_push rfl ?_
  refine y_icne rfl (fun q5 => ?_) (fun q5 => ?_)
  · skip
    refine y_push rfl ?_
    refine y_istore (L' := [some (2, s), some (2, (s + 3 + 3 * i)), some (0, sg), some (0, 0)]) rfl rfl rfl rfl ?_
    refine y_iload rfl rfl ?_
    refine y_push rfl ?_
    refine y_icne rfl (fun q28 => ?_) (fun q28 => ?_)
    · skip
      refine y_iload rfl rfl ?_
      refine y_push rfl ?_
      refine y_icne rfl (fun q45 => ?_) (fun q45 => ?_)
      · skip
        refine y_iload rfl rfl ?_
        refine y_push rfl ?_
        refine y_icne rfl (fun q62 => ?_) (fun q62 => ?_)
        · skip
          refine y_aload rfl rfl rfl ?_
          refine y_aload rfl rfl rfl ?_
          refine y_gfi (v := (σ (s + 3 + 3 * i) 4)) rfl (yN_c (yS_n (s := s) (i := i) hs (by omega))) (by have := yN_0 (yS_n (s := s) (i := i) hs (by omega)); omega) rfl (by decide) rfl rfl ?_
          refine y_aload rfl rfl rfl ?_
          refine y_gfi (v := (σ (s + 3 + 3 * i) 5)) rfl (yN_c (yS_n (s := s) (i := i) hs (by omega))) (by have := yN_0 (yS_n (s := s) (i := i) hs (by omega)); omega) rfl (by decide) rfl rfl ?_
          refine y_iload rfl rfl ?_
          refine y_aload rfl rfl rfl ?_
          refine y_gfi (v := (σ s 6)) rfl (yS_c hs) (yS_0 hs).1 rfl (by decide) rfl rfl ?_
          refine y_aload rfl rfl rfl ?_
          refine y_gfi (v := (σ s 4)) rfl (yS_c hs) (yS_0 hs).1 rfl (by decide) rfl rfl ?_
          refine y_ni (as := [(0, (σ (s + 3 + 3 * i) 4)), (0, (σ (s + 3 + 3 * i) 5)), (0, sg), (0, (σ s 6)), (0, (σ s 4))]) (S := [(2, (s + 3 + 3 * i))]) rfl rfl rfl rfl rfl (c_goal (by omega) (by omega) (by omega) (by omega)) ?_
          rintro _ _ ⟨rfl, rfl⟩
          refine y_pfi (j := 5) rfl (yN_c (yS_n (s := s) (i := i) hs (by omega))) (by have := yN_0 (yS_n (s := s) (i := i) hs (by omega)); omega) rfl rfl rfl rfl rfl ?_
          refine y_ret rfl rfl ⟨rfl, ?_⟩
          exact ⟨by unfold mwork; rw [if_neg (by omega), if_neg (by omega), if_neg (by omega), a5, a6, f1, f3]; exact rep_man hr hi (by omega), afr_set (afr_refl _ _ _) (by omega)⟩
        · skip
          refine y_aload rfl rfl rfl ?_
          refine y_push rfl ?_
          refine y_pfz (j := 8) rfl (yN_c (yS_n (s := s) (i := i) hs (by omega))) (by have := yN_0 (yS_n (s := s) (i := i) hs (by omega)); omega) rfl rfl rfl rfl rfl (by decide) ?_
          refine y_goto rfl ?_
          refine y_ret rfl rfl ⟨rfl, ?_⟩
          exact ⟨by unfold mwork; rw [if_neg (by omega), if_neg (by omega), if_pos (by omega)]; exact rep_man hr hi (by omega), afr_set (afr_refl _ _ _) (by omega)⟩
      · skip
        refine y_iload rfl rfl ?_
        refine y_ifne rfl (fun q49 => ?_) (fun q49 => ?_)
        · exfalso; omega
        · skip
          refine y_aload rfl rfl rfl ?_
          refine y_aload rfl rfl rfl ?_
          refine y_vu (as := [(2, s), (2, (s + 3 + 3 * i))]) (S := []) rfl rfl rfl rfl rfl rfl (yS_0 hs).1 (yS_c hs) (d_put hs hr he hd hn hi) ?_
          rintro σ' ⟨z1, z2⟩
          refine y_goto rfl ?_
          refine y_ret rfl rfl ⟨rfl, ?_⟩
          exact ⟨by unfold mwork; rw [if_neg (by omega), if_pos (by omega)]; exact z1, z2⟩
    · skip
      refine y_iload rfl rfl ?_
      refine y_ifne rfl (fun q32 => ?_) (fun q32 => ?_)
      · exfalso; omega
      · skip
        refine y_aload rfl rfl rfl ?_
        refine y_aload rfl rfl rfl ?_
        refine y_vu (as := [(2, s), (2, (s + 3 + 3 * i))]) (S := []) rfl rfl rfl rfl rfl rfl (yS_0 hs).1 (yS_c hs) (d_fetch hs hr he hd hn hi) ?_
        rintro σ' ⟨z1, z2⟩
        refine y_goto rfl ?_
        refine y_ret rfl rfl ⟨rfl, ?_⟩
        exact ⟨by unfold mwork; rw [if_pos (by omega)]; exact z1, z2⟩
  · skip
    refine y_aload rfl rfl rfl ?_
    refine y_gfi (v := (σ s 6)) rfl (yS_c hs) (yS_0 hs).1 rfl (by decide) rfl rfl ?_
    refine y_push rfl ?_
    refine y_irem (v := ((σ s 6) % 7)) rfl rfl (by omega) ?_
    refine y_push rfl ?_
    refine y_icne rfl (fun q17 => ?_) (fun q17 => ?_)
    · skip
      refine y_push rfl ?_
      refine y_istore (L' := [some (2, s), some (2, (s + 3 + 3 * i)), some (0, sg), some (0, 0)]) rfl rfl rfl rfl ?_
      refine y_iload rfl rfl ?_
      refine y_push rfl ?_
      refine y_icne rfl (fun q28 => ?_) (fun q28 => ?_)
      · skip
        refine y_iload rfl rfl ?_
        refine y_push rfl ?_
        refine y_icne rfl (fun q45 => ?_) (fun q45 => ?_)
        · skip
          refine y_iload rfl rfl ?_
          refine y_push rfl ?_
          refine y_icne rfl (fun q62 => ?_) (fun q62 => ?_)
          · skip
            refine y_aload rfl rfl rfl ?_
            refine y_aload rfl rfl rfl ?_
            refine y_gfi (v := (σ (s + 3 + 3 * i) 4)) rfl (yN_c (yS_n (s := s) (i := i) hs (by omega))) (by have := yN_0 (yS_n (s := s) (i := i) hs (by omega)); omega) rfl (by decide) rfl rfl ?_
            refine y_aload rfl rfl rfl ?_
            refine y_gfi (v := (σ (s + 3 + 3 * i) 5)) rfl (yN_c (yS_n (s := s) (i := i) hs (by omega))) (by have := yN_0 (yS_n (s := s) (i := i) hs (by omega)); omega) rfl (by decide) rfl rfl ?_
            refine y_iload rfl rfl ?_
            refine y_aload rfl rfl rfl ?_
            refine y_gfi (v := (σ s 6)) rfl (yS_c hs) (yS_0 hs).1 rfl (by decide) rfl rfl ?_
            refine y_aload rfl rfl rfl ?_
            refine y_gfi (v := (σ s 4)) rfl (yS_c hs) (yS_0 hs).1 rfl (by decide) rfl rfl ?_
            refine y_ni (as := [(0, (σ (s + 3 + 3 * i) 4)), (0, (σ (s + 3 + 3 * i) 5)), (0, sg), (0, (σ s 6)), (0, (σ s 4))]) (S := [(2, (s + 3 + 3 * i))]) rfl rfl rfl rfl rfl (c_goal (by omega) (by omega) (by omega) (by omega)) ?_
            rintro _ _ ⟨rfl, rfl⟩
            refine y_pfi (j := 5) rfl (yN_c (yS_n (s := s) (i := i) hs (by omega))) (by have := yN_0 (yS_n (s := s) (i := i) hs (by omega)); omega) rfl rfl rfl rfl rfl ?_
            refine y_ret rfl rfl ⟨rfl, ?_⟩
            exact ⟨by unfold mwork; rw [if_neg (by omega), if_neg (by omega), if_neg (by omega), a5, a6, f1, f3]; exact rep_man hr hi (by omega), afr_set (afr_refl _ _ _) (by omega)⟩
          · skip
            refine y_aload rfl rfl rfl ?_
            refine y_push rfl ?_
            refine y_pfz (j := 8) rfl (yN_c (yS_n (s := s) (i := i) hs (by omega))) (by have := yN_0 (yS_n (s := s) (i := i) hs (by omega)); omega) rfl rfl rfl rfl rfl (by decide) ?_
            refine y_goto rfl ?_
            refine y_ret rfl rfl ⟨rfl, ?_⟩
            exact ⟨by unfold mwork; rw [if_neg (by omega), if_neg (by omega), if_pos (by omega)]; exact rep_man hr hi (by omega), afr_set (afr_refl _ _ _) (by omega)⟩
        · skip
          refine y_iload rfl rfl ?_
          refine y_ifne rfl (fun q49 => ?_) (fun q49 => ?_)
          · exfalso; omega
          · skip
            refine y_aload rfl rfl rfl ?_
            refine y_aload rfl rfl rfl ?_
            refine y_vu (as := [(2, s), (2, (s + 3 + 3 * i))]) (S := []) rfl rfl rfl rfl rfl rfl (yS_0 hs).1 (yS_c hs) (d_put hs hr he hd hn hi) ?_
            rintro σ' ⟨z1, z2⟩
            refine y_goto rfl ?_
            refine y_ret rfl rfl ⟨rfl, ?_⟩
            exact ⟨by unfold mwork; rw [if_neg (by omega), if_pos (by omega)]; exact z1, z2⟩
      · skip
        refine y_iload rfl rfl ?_
        refine y_ifne rfl (fun q32 => ?_) (fun q32 => ?_)
        · exfalso; omega
        · skip
          refine y_aload rfl rfl rfl ?_
          refine y_aload rfl rfl rfl ?_
          refine y_vu (as := [(2, s), (2, (s + 3 + 3 * i))]) (S := []) rfl rfl rfl rfl rfl rfl (yS_0 hs).1 (yS_c hs) (d_fetch hs hr he hd hn hi) ?_
          rintro σ' ⟨z1, z2⟩
          refine y_goto rfl ?_
          refine y_ret rfl rfl ⟨rfl, ?_⟩
          exact ⟨by unfold mwork; rw [if_pos (by omega)]; exact z1, z2⟩
    · skip
      refine y_push rfl ?_
      refine y_goto rfl ?_
      refine y_istore (L' := [some (2, s), some (2, (s + 3 + 3 * i)), some (0, sg), some (0, 1)]) rfl rfl rfl rfl ?_
      refine y_iload rfl rfl ?_
      refine y_push rfl ?_
      refine y_icne rfl (fun q28 => ?_) (fun q28 => ?_)
      · skip
        refine y_iload rfl rfl ?_
        refine y_push rfl ?_
        refine y_icne rfl (fun q45 => ?_) (fun q45 => ?_)
        · skip
          refine y_iload rfl rfl ?_
          refine y_push rfl ?_
          refine y_icne rfl (fun q62 => ?_) (fun q62 => ?_)
          · skip
            refine y_aload rfl rfl rfl ?_
            refine y_aload rfl rfl rfl ?_
            refine y_gfi (v := (σ (s + 3 + 3 * i) 4)) rfl (yN_c (yS_n (s := s) (i := i) hs (by omega))) (by have := yN_0 (yS_n (s := s) (i := i) hs (by omega)); omega) rfl (by decide) rfl rfl ?_
            refine y_aload rfl rfl rfl ?_
            refine y_gfi (v := (σ (s + 3 + 3 * i) 5)) rfl (yN_c (yS_n (s := s) (i := i) hs (by omega))) (by have := yN_0 (yS_n (s := s) (i := i) hs (by omega)); omega) rfl (by decide) rfl rfl ?_
            refine y_iload rfl rfl ?_
            refine y_aload rfl rfl rfl ?_
            refine y_gfi (v := (σ s 6)) rfl (yS_c hs) (yS_0 hs).1 rfl (by decide) rfl rfl ?_
            refine y_aload rfl rfl rfl ?_
            refine y_gfi (v := (σ s 4)) rfl (yS_c hs) (yS_0 hs).1 rfl (by decide) rfl rfl ?_
            refine y_ni (as := [(0, (σ (s + 3 + 3 * i) 4)), (0, (σ (s + 3 + 3 * i) 5)), (0, sg), (0, (σ s 6)), (0, (σ s 4))]) (S := [(2, (s + 3 + 3 * i))]) rfl rfl rfl rfl rfl (c_goal (by omega) (by omega) (by omega) (by omega)) ?_
            rintro _ _ ⟨rfl, rfl⟩
            refine y_pfi (j := 5) rfl (yN_c (yS_n (s := s) (i := i) hs (by omega))) (by have := yN_0 (yS_n (s := s) (i := i) hs (by omega)); omega) rfl rfl rfl rfl rfl ?_
            refine y_ret rfl rfl ⟨rfl, ?_⟩
            exact ⟨by unfold mwork; rw [if_neg (by omega), if_neg (by omega), if_neg (by omega), a5, a6, f1, f3]; exact rep_man hr hi (by omega), afr_set (afr_refl _ _ _) (by omega)⟩
          · skip
            refine y_aload rfl rfl rfl ?_
            refine y_push rfl ?_
            refine y_pfz (j := 8) rfl (yN_c (yS_n (s := s) (i := i) hs (by omega))) (by have := yN_0 (yS_n (s := s) (i := i) hs (by omega)); omega) rfl rfl rfl rfl rfl (by decide) ?_
            refine y_goto rfl ?_
            refine y_ret rfl rfl ⟨rfl, ?_⟩
            exact ⟨by unfold mwork; rw [if_neg (by omega), if_neg (by omega), if_pos (by omega)]; exact rep_man hr hi (by omega), afr_set (afr_refl _ _ _) (by omega)⟩
        · skip
          refine y_iload rfl rfl ?_
          refine y_ifne rfl (fun q49 => ?_) (fun q49 => ?_)
          · skip
            refine y_iload rfl rfl ?_
            refine y_push rfl ?_
            refine y_icne rfl (fun q62 => ?_) (fun q62 => ?_)
            · skip
              refine y_aload rfl rfl rfl ?_
              refine y_aload rfl rfl rfl ?_
              refine y_gfi (v := (σ (s + 3 + 3 * i) 4)) rfl (yN_c (yS_n (s := s) (i := i) hs (by omega))) (by have := yN_0 (yS_n (s := s) (i := i) hs (by omega)); omega) rfl (by decide) rfl rfl ?_
              refine y_aload rfl rfl rfl ?_
              refine y_gfi (v := (σ (s + 3 + 3 * i) 5)) rfl (yN_c (yS_n (s := s) (i := i) hs (by omega))) (by have := yN_0 (yS_n (s := s) (i := i) hs (by omega)); omega) rfl (by decide) rfl rfl ?_
              refine y_iload rfl rfl ?_
              refine y_aload rfl rfl rfl ?_
              refine y_gfi (v := (σ s 6)) rfl (yS_c hs) (yS_0 hs).1 rfl (by decide) rfl rfl ?_
              refine y_aload rfl rfl rfl ?_
              refine y_gfi (v := (σ s 4)) rfl (yS_c hs) (yS_0 hs).1 rfl (by decide) rfl rfl ?_
              refine y_ni (as := [(0, (σ (s + 3 + 3 * i) 4)), (0, (σ (s + 3 + 3 * i) 5)), (0, sg), (0, (σ s 6)), (0, (σ s 4))]) (S := [(2, (s + 3 + 3 * i))]) rfl rfl rfl rfl rfl (c_goal (by omega) (by omega) (by omega) (by omega)) ?_
              rintro _ _ ⟨rfl, rfl⟩
              refine y_pfi (j := 5) rfl (yN_c (yS_n (s := s) (i := i) hs (by omega))) (by have := yN_0 (yS_n (s := s) (i := i) hs (by omega)); omega) rfl rfl rfl rfl rfl ?_
              refine y_ret rfl rfl ⟨rfl, ?_⟩
              exact ⟨by unfold mwork; rw [if_neg (by omega), if_neg (by omega), if_neg (by omega), a5, a6, f1, f3]; exact rep_man hr hi (by omega), afr_set (afr_refl _ _ _) (by omega)⟩
            · skip
              refine y_aload rfl rfl rfl ?_
              refine y_push rfl ?_
              refine y_pfz (j := 8) rfl (yN_c (yS_n (s := s) (i := i) hs (by omega))) (by have := yN_0 (yS_n (s := s) (i := i) hs (by omega)); omega) rfl rfl rfl rfl rfl (by decide) ?_
              refine y_goto rfl ?_
              refine y_ret rfl rfl ⟨rfl, ?_⟩
              exact ⟨by unfold mwork; rw [if_neg (by omega), if_neg (by omega), if_pos (by omega)]; exact rep_man hr hi (by omega), afr_set (afr_refl _ _ _) (by omega)⟩
          · exfalso; omega
      · skip
        refine y_iload rfl rfl ?_
        refine y_ifne rfl (fun q32 => ?_) (fun q32 => ?_)
        · skip
          refine y_iload rfl rfl ?_
          refine y_push rfl ?_
          refine y_icne rfl (fun q45 => ?_) (fun q45 => ?_)
          · skip
            refine y_iload rfl rfl ?_
            refine y_push rfl ?_
            refine y_icne rfl (fun q62 => ?_) (fun q62 => ?_)
            · skip
              refine y_aload rfl rfl rfl ?_
              refine y_aload rfl rfl rfl ?_
              refine y_gfi (v := (σ (s + 3 + 3 * i) 4)) rfl (yN_c (yS_n (s := s) (i := i) hs (by omega))) (by have := yN_0 (yS_n (s := s) (i := i) hs (by omega)); omega) rfl (by decide) rfl rfl ?_
              refine y_aload rfl rfl rfl ?_
              refine y_gfi (v := (σ (s + 3 + 3 * i) 5)) rfl (yN_c (yS_n (s := s) (i := i) hs (by omega))) (by have := yN_0 (yS_n (s := s) (i := i) hs (by omega)); omega) rfl (by decide) rfl rfl ?_
              refine y_iload rfl rfl ?_
              refine y_aload rfl rfl rfl ?_
              refine y_gfi (v := (σ s 6)) rfl (yS_c hs) (yS_0 hs).1 rfl (by decide) rfl rfl ?_
              refine y_aload rfl rfl rfl ?_
              refine y_gfi (v := (σ s 4)) rfl (yS_c hs) (yS_0 hs).1 rfl (by decide) rfl rfl ?_
              refine y_ni (as := [(0, (σ (s + 3 + 3 * i) 4)), (0, (σ (s + 3 + 3 * i) 5)), (0, sg), (0, (σ s 6)), (0, (σ s 4))]) (S := [(2, (s + 3 + 3 * i))]) rfl rfl rfl rfl rfl (c_goal (by omega) (by omega) (by omega) (by omega)) ?_
              rintro _ _ ⟨rfl, rfl⟩
              refine y_pfi (j := 5) rfl (yN_c (yS_n (s := s) (i := i) hs (by omega))) (by have := yN_0 (yS_n (s := s) (i := i) hs (by omega)); omega) rfl rfl rfl rfl rfl ?_
              refine y_ret rfl rfl ⟨rfl, ?_⟩
              exact ⟨by unfold mwork; rw [if_neg (by omega), if_neg (by omega), if_neg (by omega), a5, a6, f1, f3]; exact rep_man hr hi (by omega), afr_set (afr_refl _ _ _) (by omega)⟩
            · skip
              refine y_aload rfl rfl rfl ?_
              refine y_push rfl ?_
              refine y_pfz (j := 8) rfl (yN_c (yS_n (s := s) (i := i) hs (by omega))) (by have := yN_0 (yS_n (s := s) (i := i) hs (by omega)); omega) rfl rfl rfl rfl rfl (by decide) ?_
              refine y_goto rfl ?_
              refine y_ret rfl rfl ⟨rfl, ?_⟩
              exact ⟨by unfold mwork; rw [if_neg (by omega), if_neg (by omega), if_pos (by omega)]; exact rep_man hr hi (by omega), afr_set (afr_refl _ _ _) (by omega)⟩
          · skip
            refine y_iload rfl rfl ?_
            refine y_ifne rfl (fun q49 => ?_) (fun q49 => ?_)
            · skip
              refine y_iload rfl rfl ?_
              refine y_push rfl ?_
              refine y_icne rfl (fun q62 => ?_) (fun q62 => ?_)
              · skip
                refine y_aload rfl rfl rfl ?_
                refine y_aload rfl rfl rfl ?_
                refine y_gfi (v := (σ (s + 3 + 3 * i) 4)) rfl (yN_c (yS_n (s := s) (i := i) hs (by omega))) (by have := yN_0 (yS_n (s := s) (i := i) hs (by omega)); omega) rfl (by decide) rfl rfl ?_
                refine y_aload rfl rfl rfl ?_
                refine y_gfi (v := (σ (s + 3 + 3 * i) 5)) rfl (yN_c (yS_n (s := s) (i := i) hs (by omega))) (by have := yN_0 (yS_n (s := s) (i := i) hs (by omega)); omega) rfl (by decide) rfl rfl ?_
                refine y_iload rfl rfl ?_
                refine y_aload rfl rfl rfl ?_
                refine y_gfi (v := (σ s 6)) rfl (yS_c hs) (yS_0 hs).1 rfl (by decide) rfl rfl ?_
                refine y_aload rfl rfl rfl ?_
                refine y_gfi (v := (σ s 4)) rfl (yS_c hs) (yS_0 hs).1 rfl (by decide) rfl rfl ?_
                refine y_ni (as := [(0, (σ (s + 3 + 3 * i) 4)), (0, (σ (s + 3 + 3 * i) 5)), (0, sg), (0, (σ s 6)), (0, (σ s 4))]) (S := [(2, (s + 3 + 3 * i))]) rfl rfl rfl rfl rfl (c_goal (by omega) (by omega) (by omega) (by omega)) ?_
                rintro _ _ ⟨rfl, rfl⟩
                refine y_pfi (j := 5) rfl (yN_c (yS_n (s := s) (i := i) hs (by omega))) (by have := yN_0 (yS_n (s := s) (i := i) hs (by omega)); omega) rfl rfl rfl rfl rfl ?_
                refine y_ret rfl rfl ⟨rfl, ?_⟩
                exact ⟨by unfold mwork; rw [if_neg (by omega), if_neg (by omega), if_neg (by omega), a5, a6, f1, f3]; exact rep_man hr hi (by omega), afr_set (afr_refl _ _ _) (by omega)⟩
              · skip
                refine y_aload rfl rfl rfl ?_
                refine y_push rfl ?_
                refine y_pfz (j := 8) rfl (yN_c (yS_n (s := s) (i := i) hs (by omega))) (by have := yN_0 (yS_n (s := s) (i := i) hs (by omega)); omega) rfl rfl rfl rfl rfl (by decide) ?_
                refine y_goto rfl ?_
                refine y_ret rfl rfl ⟨rfl, ?_⟩
                exact ⟨by unfold mwork; rw [if_neg (by omega), if_neg (by omega), if_pos (by omega)]; exact rep_man hr hi (by omega), afr_set (afr_refl _ _ _) (by omega)⟩
            · exfalso; omega
        · exfalso; omega
theorem d_act {g : Launch × XG × va_G} {σ : YS} {s i : Int} {E D : YS} (hs : yS s) (hr : rep σ s E D) (he : eG E) (hd : dG E D) (hn : 0 ≤ D 5 0 ∧ D 5 0 < 1000000) (hi : 0 ≤ i ∧ i < E 1 0) (hz : D 4 i = 0) : YU g 147 [(2, s), (0, i)] σ (fun σ' => rep σ' s E (mact E D i) ∧ afr σ σ' s i) := by
  refine y_start rfl rfl rfl ?_
  have ⟨⟨f1, f2, f3, f4⟩, f5, f6, g7, g8⟩ := hr
  have f7 := mth_7 g7
  have ⟨e1, e2, e3⟩ := he
  have s0 := yS_0 hs
  have ⟨⟨b1, b2, b3, b4⟩, a5, ⟨a6, a7, a8⟩, a9, a10⟩ := f6 i hi.1 hi.2
  have ⟨⟨d1, d2⟩, ⟨d3, d4⟩, ⟨d5, d6⟩, d7⟩ := hd.2 i hi.1 hi.2
  have ⟨⟨e4, e5⟩, ⟨e6, e7⟩, e8⟩ := e3 i hi.1 hi.2
  have w1 : σ (s + 1) (σ (s + 3 + 3 * i) 5) = D 0 (D 1 i) := by rw [a6]; exact f5 _ (by omega) (by omega)
  have w2 := hd.1 (D 1 i) (by omega) (by omega)
  have hf := (by omega : 0 < E 3 i ∧ mfl E i = -1)
  refine y_aload rfl rfl rfl ?_
  refine y_gfr (t := (s + 2)) rfl (yS_c hs) (yS_0 hs).1 rfl (by have := yS_0 hs; omega) ?_
  refine y_iload rfl rfl ?_
  refine y_aald (v := ((s + 3) + 3 * i)) (n := 3) rfl (yS_m hs) (by have := yS_0 hs; omega) rfl (by omega) rfl ?_
  refine y_astore (L' := [some (2, s), some (0, i), some (2, ((s + 3) + 3 * i)), none]) rfl rfl rfl rfl rfl ?_
  refine y_aload rfl rfl rfl ?_
  refine y_gfi (v := (σ ((s + 3) + 3 * i) 7)) rfl (yN_c (yS_n (s := s) (i := i) hs (by omega))) (by have := yN_0 (yS_n (s := s) (i := i) hs (by omega)); omega) rfl (by decide) rfl rfl ?_
  refine y_aload rfl rfl rfl ?_
  refine y_gfi (v := (σ ((s + 3) + 3 * i) 2)) rfl (yN_c (yS_n (s := s) (i := i) hs (by omega))) (by have := yN_0 (yS_n (s := s) (i := i) hs (by omega)); omega) rfl (by decide) rfl rfl ?_
  refine y_iclt rfl (fun q15 => ?_) (fun q15 => ?_)
  · skip
    have hb := mfine hf.2 (j := D 3 i) (by omega) (by omega)
    have w3 : σ (s + 3 + 3 * i + 1) (σ (s + 3 + 3 * i) 7) = msg E i (D 3 i) := by rw [a8]; exact b2 _ (by omega) (by omega)
    have w4 : msg E i (D 3 i) = 7 ∨ msg E i (D 3 i) = 8 → σ (s + 3 + 3 * i + 2) (σ (s + 3 + 3 * i) 7) = mpa E i (D 3 i) := by intro z; rw [a8]; exact b4 hf.2 _ (by omega) (by omega) z
    have w5 := e8 (D 3 i) (by omega) (by omega)
    refine y_aload rfl rfl rfl ?_
    refine y_gfr (t := (((s + 3) + 3 * i) + 1)) rfl (yN_c (yS_n (s := s) (i := i) hs (by omega))) (by have := yN_0 (yS_n (s := s) (i := i) hs (by omega)); omega) rfl (by have := yN_0 (yS_n (s := s) (i := i) hs (by omega)); omega) ?_
    refine y_aload rfl rfl rfl ?_
    refine y_gfi (v := (σ ((s + 3) + 3 * i) 7)) rfl (yN_c (yS_n (s := s) (i := i) hs (by omega))) (by have := yN_0 (yS_n (s := s) (i := i) hs (by omega)); omega) rfl (by decide) rfl rfl ?_
    refine y_iald (v := (σ (((s + 3) + 3 * i) + 1) (σ ((s + 3) + 3 * i) 7))) (n := 24) rfl (yN_s (yS_n (s := s) (i := i) hs (by omega))) (by have := yN_0 (yS_n (s := s) (i := i) hs (by omega)); omega) rfl (by omega) rfl ?_
    refine y_istore (L' := [some (2, s), some (0, i), some (2, ((s + 3) + 3 * i)), some (0, (σ (((s + 3) + 3 * i) + 1) (σ ((s + 3) + 3 * i) 7)))]) rfl rfl rfl rfl ?_
    refine y_iload rfl rfl ?_
    refine y_push rfl ?_
    refine y_icne rfl (fun q37 => ?_) (fun q37 => ?_)
    · skip
      have hb2 := hb.2
      refine y_iload rfl rfl ?_
      refine y_push rfl ?_
      refine y_icne rfl (fun q89 => ?_) (fun q89 => ?_)
      · skip
        refine y_iload rfl rfl ?_
        refine y_push rfl ?_
        refine y_icne rfl (fun q111 => ?_) (fun q111 => ?_)
        · skip
          have wn : ¬ (msg E i (D 3 i) = 6 ∧ E 2 i ≠ 3 ∧ malone E D i) := fun z => by omega
          refine y_aload rfl rfl rfl ?_
          refine y_aload rfl rfl rfl ?_
          refine y_iload rfl rfl ?_
          refine y_vu (as := [(2, s), (2, ((s + 3) + 3 * i)), (0, (σ (((s + 3) + 3 * i) + 1) (σ ((s + 3) + 3 * i) 7)))]) (S := []) rfl rfl rfl rfl rfl rfl (yS_0 hs).1 (yS_c hs) (d_work hs hr he hd hn hi) ?_
          rintro σ' ⟨z1, z2⟩
          rw [w3] at z1
          have wa : σ' (s + 3 + 3 * i) 7 = D 3 i := by rw [(z1.2.2.1 i hi.1 hi.2).2.2.1.2.2, mwork_k (by omega)]
          refine y_aload rfl rfl rfl ?_
          refine y_dup rfl rfl ?_
          refine y_gfi (v := (σ' ((s + 3) + 3 * i) 7)) rfl (yN_c (yS_n (s := s) (i := i) hs (by omega))) (by have := yN_0 (yS_n (s := s) (i := i) hs (by omega)); omega) rfl (by decide) rfl rfl ?_
          refine y_push rfl ?_
          refine y_iadd (v := ((σ' ((s + 3) + 3 * i) 7) + 1)) rfl rfl (by omega) ?_
          refine y_pfi (j := 7) rfl (yN_c (yS_n (s := s) (i := i) hs (by omega))) (by have := yN_0 (yS_n (s := s) (i := i) hs (by omega)); omega) rfl rfl rfl rfl rfl ?_
          refine y_ret rfl rfl ⟨rfl, ?_⟩
          exact ⟨by unfold mact; rw [if_neg (by omega), if_neg (by omega), if_neg (by omega), if_neg wn, wa]; exact rep_man z1 hi (by omega), afr_set z2 (by omega)⟩
        · skip
          refine y_aload rfl rfl rfl ?_
          refine y_gfi (v := (σ ((s + 3) + 3 * i) 4)) rfl (yN_c (yS_n (s := s) (i := i) hs (by omega))) (by have := yN_0 (yS_n (s := s) (i := i) hs (by omega)); omega) rfl (by decide) rfl rfl ?_
          refine y_push rfl ?_
          refine y_iceq rfl (fun q119 => ?_) (fun q119 => ?_)
          · skip
            have wn : ¬ (msg E i (D 3 i) = 6 ∧ E 2 i ≠ 3 ∧ malone E D i) := fun z => z.2.1 (by omega)
            refine y_aload rfl rfl rfl ?_
            refine y_aload rfl rfl rfl ?_
            refine y_iload rfl rfl ?_
            refine y_vu (as := [(2, s), (2, ((s + 3) + 3 * i)), (0, (σ (((s + 3) + 3 * i) + 1) (σ ((s + 3) + 3 * i) 7)))]) (S := []) rfl rfl rfl rfl rfl rfl (yS_0 hs).1 (yS_c hs) (d_work hs hr he hd hn hi) ?_
            rintro σ' ⟨z1, z2⟩
            rw [w3] at z1
            have wa : σ' (s + 3 + 3 * i) 7 = D 3 i := by rw [(z1.2.2.1 i hi.1 hi.2).2.2.1.2.2, mwork_k (by omega)]
            refine y_aload rfl rfl rfl ?_
            refine y_dup rfl rfl ?_
            refine y_gfi (v := (σ' ((s + 3) + 3 * i) 7)) rfl (yN_c (yS_n (s := s) (i := i) hs (by omega))) (by have := yN_0 (yS_n (s := s) (i := i) hs (by omega)); omega) rfl (by decide) rfl rfl ?_
            refine y_push rfl ?_
            refine y_iadd (v := ((σ' ((s + 3) + 3 * i) 7) + 1)) rfl rfl (by omega) ?_
            refine y_pfi (j := 7) rfl (yN_c (yS_n (s := s) (i := i) hs (by omega))) (by have := yN_0 (yS_n (s := s) (i := i) hs (by omega)); omega) rfl rfl rfl rfl rfl ?_
            refine y_ret rfl rfl ⟨rfl, ?_⟩
            exact ⟨by unfold mact; rw [if_neg (by omega), if_neg (by omega), if_neg (by omega), if_neg wn, wa]; exact rep_man z1 hi (by omega), afr_set z2 (by omega)⟩
          · skip
            refine y_aload rfl rfl rfl ?_
            refine y_iload rfl rfl ?_
            refine y_vi (as := [(2, s), (0, i)]) (S := []) rfl rfl rfl rfl rfl rfl (yS_0 hs).1 (yS_c hs) (c_alone hs hr he hd hn hi) ?_
            rintro _ _ ⟨rfl, rfl⟩
            refine y_ifeq rfl (fun q127 => ?_) (fun q127 => ?_)
            · skip
              replace q127 := yb_0.mp q127
              have wn : ¬ (msg E i (D 3 i) = 6 ∧ E 2 i ≠ 3 ∧ malone E D i) := fun z => q127 z.2.2
              refine y_aload rfl rfl rfl ?_
              refine y_aload rfl rfl rfl ?_
              refine y_iload rfl rfl ?_
              refine y_vu (as := [(2, s), (2, ((s + 3) + 3 * i)), (0, (σ (((s + 3) + 3 * i) + 1) (σ ((s + 3) + 3 * i) 7)))]) (S := []) rfl rfl rfl rfl rfl rfl (yS_0 hs).1 (yS_c hs) (d_work hs hr he hd hn hi) ?_
              rintro σ' ⟨z1, z2⟩
              rw [w3] at z1
              have wa : σ' (s + 3 + 3 * i) 7 = D 3 i := by rw [(z1.2.2.1 i hi.1 hi.2).2.2.1.2.2, mwork_k (by omega)]
              refine y_aload rfl rfl rfl ?_
              refine y_dup rfl rfl ?_
              refine y_gfi (v := (σ' ((s + 3) + 3 * i) 7)) rfl (yN_c (yS_n (s := s) (i := i) hs (by omega))) (by have := yN_0 (yS_n (s := s) (i := i) hs (by omega)); omega) rfl (by decide) rfl rfl ?_
              refine y_push rfl ?_
              refine y_iadd (v := ((σ' ((s + 3) + 3 * i) 7) + 1)) rfl rfl (by omega) ?_
              refine y_pfi (j := 7) rfl (yN_c (yS_n (s := s) (i := i) hs (by omega))) (by have := yN_0 (yS_n (s := s) (i := i) hs (by omega)); omega) rfl rfl rfl rfl rfl ?_
              refine y_ret rfl rfl ⟨rfl, ?_⟩
              exact ⟨by unfold mact; rw [if_neg (by omega), if_neg (by omega), if_neg (by omega), if_neg wn, wa]; exact rep_man z1 hi (by omega), afr_set z2 (by omega)⟩
            · skip
              replace q127 := yb_1.mp q127
              refine y_aload rfl rfl rfl ?_
              refine y_dup rfl rfl ?_
              refine y_gfi (v := (σ s 7)) rfl (yS_c hs) (yS_0 hs).1 rfl (by decide) rfl rfl ?_
              refine y_push rfl ?_
              refine y_iload rfl rfl ?_
              refine y_ishl (v := (yshl 1 i)) rfl rfl ?_
              refine y_ior (v := (yor (σ s 7) (yshl 1 i))) rfl rfl ?_
              refine y_pfi (j := 7) rfl (yS_c hs) (yS_0 hs).1 rfl rfl rfl rfl rfl ?_
              refine y_goto rfl ?_
              refine y_ret rfl rfl ⟨rfl, ?_⟩
              exact ⟨by unfold mact; rw [if_neg (by omega), if_neg (by omega), if_neg (by omega), if_pos ⟨by omega, by omega, q127⟩, f4]; exact rep_wait hr, afr_set (afr_refl _ _ _) (by omega)⟩
      · skip
        have hb3 := hb.2 (by omega)
        have w7 := w4 (by omega)
        refine y_aload rfl rfl rfl ?_
        refine y_aload rfl rfl rfl ?_
        refine y_gfr (t := (((s + 3) + 3 * i) + 2)) rfl (yN_c (yS_n (s := s) (i := i) hs (by omega))) (by have := yN_0 (yS_n (s := s) (i := i) hs (by omega)); omega) rfl (by have := yN_0 (yS_n (s := s) (i := i) hs (by omega)); omega) ?_
        refine y_aload rfl rfl rfl ?_
        refine y_gfi (v := (σ ((s + 3) + 3 * i) 7)) rfl (yN_c (yS_n (s := s) (i := i) hs (by omega))) (by have := yN_0 (yS_n (s := s) (i := i) hs (by omega)); omega) rfl (by decide) rfl rfl ?_
        refine y_iald (v := (σ (((s + 3) + 3 * i) + 2) (σ ((s + 3) + 3 * i) 7))) (n := 24) rfl (yN_p (yS_n (s := s) (i := i) hs (by omega))) (by have := yN_0 (yS_n (s := s) (i := i) hs (by omega)); omega) rfl (by omega) rfl ?_
        refine y_pfi (j := 7) rfl (yN_c (yS_n (s := s) (i := i) hs (by omega))) (by have := yN_0 (yS_n (s := s) (i := i) hs (by omega)); omega) rfl rfl rfl rfl rfl ?_
        refine y_goto rfl ?_
        refine y_ret rfl rfl ⟨rfl, ?_⟩
        refine ⟨?_, afr_set (afr_refl _ _ _) (by omega)⟩
        unfold mact
        rw [if_neg (by omega)]
        rw [if_neg (by omega), if_pos (by omega), w4 (by omega)]
        exact rep_man hr hi (by omega)
    · skip
      have hb1 := hb.1 (by omega)
      have w6 : σ (s + 3 + 3 * i + 1) (σ (s + 3 + 3 * i) 7 + 1) = msg E i (D 3 i + 1) := by rw [a8]; exact b2 _ (by omega) (by omega)
      refine y_aload rfl rfl rfl ?_
      refine y_aload rfl rfl rfl ?_
      refine y_aload rfl rfl rfl ?_
      refine y_aload rfl rfl rfl ?_
      refine y_gfr (t := (((s + 3) + 3 * i) + 1)) rfl (yN_c (yS_n (s := s) (i := i) hs (by omega))) (by have := yN_0 (yS_n (s := s) (i := i) hs (by omega)); omega) rfl (by have := yN_0 (yS_n (s := s) (i := i) hs (by omega)); omega) ?_
      refine y_aload rfl rfl rfl ?_
      refine y_gfi (v := (σ ((s + 3) + 3 * i) 7)) rfl (yN_c (yS_n (s := s) (i := i) hs (by omega))) (by have := yN_0 (yS_n (s := s) (i := i) hs (by omega)); omega) rfl (by decide) rfl rfl ?_
      refine y_push rfl ?_
      refine y_iadd (v := ((σ ((s + 3) + 3 * i) 7) + 1)) rfl rfl (by omega) ?_
      refine y_iald (v := (σ (((s + 3) + 3 * i) + 1) ((σ ((s + 3) + 3 * i) 7) + 1))) (n := 24) rfl (yN_s (yS_n (s := s) (i := i) hs (by omega))) (by have := yN_0 (yS_n (s := s) (i := i) hs (by omega)); omega) rfl (by omega) rfl ?_
      refine y_vi (as := [(2, s), (2, ((s + 3) + 3 * i)), (0, (σ (((s + 3) + 3 * i) + 1) ((σ ((s + 3) + 3 * i) 7) + 1)))]) (S := [(2, ((s + 3) + 3 * i))]) rfl rfl rfl rfl rfl rfl (yS_0 hs).1 (yS_c hs) (c_holds hs hr he hd hn hi) ?_
      rintro _ _ ⟨rfl, rfl⟩
      refine y_ifeq rfl (fun q57 => ?_) (fun q57 => ?_)
      · skip
        replace q57 := yb_0.mp q57
        rw [w6] at q57
        have w7 := w4 (by omega)
        refine y_aload rfl rfl rfl ?_
        refine y_gfr (t := (((s + 3) + 3 * i) + 2)) rfl (yN_c (yS_n (s := s) (i := i) hs (by omega))) (by have := yN_0 (yS_n (s := s) (i := i) hs (by omega)); omega) rfl (by have := yN_0 (yS_n (s := s) (i := i) hs (by omega)); omega) ?_
        refine y_aload rfl rfl rfl ?_
        refine y_gfi (v := (σ ((s + 3) + 3 * i) 7)) rfl (yN_c (yS_n (s := s) (i := i) hs (by omega))) (by have := yN_0 (yS_n (s := s) (i := i) hs (by omega)); omega) rfl (by decide) rfl rfl ?_
        refine y_iald (v := (σ (((s + 3) + 3 * i) + 2) (σ ((s + 3) + 3 * i) 7))) (n := 24) rfl (yN_p (yS_n (s := s) (i := i) hs (by omega))) (by have := yN_0 (yS_n (s := s) (i := i) hs (by omega)); omega) rfl (by omega) rfl ?_
        refine y_push rfl ?_
        refine y_iadd (v := ((σ (((s + 3) + 3 * i) + 2) (σ ((s + 3) + 3 * i) 7)) + 1)) rfl rfl (by omega) ?_
        refine y_pfi (j := 7) rfl (yN_c (yS_n (s := s) (i := i) hs (by omega))) (by have := yN_0 (yS_n (s := s) (i := i) hs (by omega)); omega) rfl rfl rfl rfl rfl ?_
        refine y_goto rfl ?_
        refine y_ret rfl rfl ⟨rfl, ?_⟩
        refine ⟨?_, afr_set (afr_refl _ _ _) (by omega)⟩
        unfold mact
        rw [if_neg (by omega)]
        rw [if_pos (by omega), if_neg q57, w4 (by omega)]
        exact rep_man hr hi (by omega)
      · skip
        replace q57 := yb_1.mp q57
        rw [w6] at q57
        refine y_aload rfl rfl rfl ?_
        refine y_gfi (v := (σ ((s + 3) + 3 * i) 7)) rfl (yN_c (yS_n (s := s) (i := i) hs (by omega))) (by have := yN_0 (yS_n (s := s) (i := i) hs (by omega)); omega) rfl (by decide) rfl rfl ?_
        refine y_push rfl ?_
        refine y_iadd (v := ((σ ((s + 3) + 3 * i) 7) + 2)) rfl rfl (by omega) ?_
        refine y_goto rfl ?_
        refine y_pfi (j := 7) rfl (yN_c (yS_n (s := s) (i := i) hs (by omega))) (by have := yN_0 (yS_n (s := s) (i := i) hs (by omega)); omega) rfl rfl rfl rfl rfl ?_
        refine y_goto rfl ?_
        refine y_ret rfl rfl ⟨rfl, ?_⟩
        refine ⟨?_, afr_set (afr_refl _ _ _) (by omega)⟩
        unfold mact
        rw [if_neg (by omega)]
        rw [if_pos (by omega), if_pos q57, a8]
        exact rep_man hr hi (by omega)
  · skip
    refine y_aload rfl rfl rfl ?_
    refine y_push rfl ?_
    refine y_pfz (j := 8) rfl (yN_c (yS_n (s := s) (i := i) hs (by omega))) (by have := yN_0 (yS_n (s := s) (i := i) hs (by omega)); omega) rfl rfl rfl rfl rfl (by decide) ?_
    refine y_ret rfl rfl ⟨rfl, ?_⟩
    exact ⟨by unfold mact; rw [if_pos (by omega)]; exact rep_man hr hi (by omega), afr_set (afr_refl _ _ _) (by omega)⟩
theorem dl_advance {g : Launch × XG × va_G} {σ : YS} {s : Int} {E D : YS} (hs : yS s) (he : eG E) : ∀ (nn : Nat) (τ : YS) (C : YS) (i : Int), E 1 0 - i < (nn : Int) → (0 ≤ i) → (i ≤ E 1 0) → (rep τ s E C) → (dG E C) → (C = macts E (yset D 6 0 0) i.toNat) → (yfr σ τ s (s + 11)) → (0 ≤ C 5 0 ∧ C 5 0 < 1000000) → (bfr σ τ s E) → YW g 51 7 [some (2, s), some (0, i)] [] τ (fun rv σ' => ∃ b, rv = some (0, b) ∧ (rep σ' s E (mstep E D) ∧ mgo E (mstep E D) (E 1 0).toNat = b ∧ yfr σ σ' s (s + 11) ∧ bfr σ σ' s E)) := by
  intro nn
  induction nn with
  | zero =>
    intro τ C i hn h0 h1 h2 h3 h4 h5 h6 h7
    exfalso
    omega
  | succ nn ih =>
    intro τ C i hn h0 h1 h2 h3 h4 h5 h6 h7
    have ⟨⟨f1, f2, f3, f4⟩, f5, f6, g7, g8⟩ := h2
    have f7 := mth_7 g7
    have ⟨e1, e2, e3⟩ := he
    have s0 := yS_0 hs
    refine y_iload rfl rfl ?_
    refine y_aload rfl rfl rfl ?_
    refine y_gfi (v := (τ s 5)) rfl (yS_c hs) (yS_0 hs).1 rfl (by decide) rfl rfl ?_
    refine y_icge rfl (fun q12 => ?_) (fun q12 => ?_)
    · skip
      refine y_aload rfl rfl rfl ?_
      refine y_dup rfl rfl ?_
      refine y_gfi (v := (τ s 6)) rfl (yS_c hs) (yS_0 hs).1 rfl (by decide) rfl rfl ?_
      refine y_push rfl ?_
      refine y_iadd (v := ((τ s 6) + 1)) rfl rfl (by omega) ?_
      refine y_pfi (j := 6) rfl (yS_c hs) (yS_0 hs).1 rfl rfl rfl rfl rfl ?_
      refine y_aload rfl rfl rfl ?_
      refine y_vi (as := [(2, s)]) (S := []) rfl rfl rfl rfl rfl rfl (yS_0 hs).1 (yS_c hs) (c_awake hs (by rw [yne (by omega) rfl]; omega)) ?_
      rintro _ _ ⟨rfl, rfl⟩
      refine y_iret rfl rfl ⟨_, rfl, ?_⟩
      have hC : C = macts E (yset D 6 0 0) (E 1 0).toNat := by rw [h4, show (i : Int) = E 1 0 by omega]
      have hR : rep (yset τ s 6 (τ s 6 + 1)) s E (mstep E D) := by unfold mstep; rw [← hC, f3]; exact rep_num h2
      have hq : mgo E (mstep E D) (E 1 0).toNat = maw (yset τ s 6 (τ s 6 + 1)) s (yset τ s 6 (τ s 6 + 1) s 5).toNat := by rw [hR.1.2.1]; exact (maw_go e2.2 hR _ (by omega)).symm
      exact ⟨hR, hq, yfr_set h5 (by omega), bfr_s h7⟩
    · skip
      have ⟨⟨b1, b2, b3, b4⟩, a5, ⟨a6, a7, a8⟩, a9, a10⟩ := f6 i (by omega) (by omega)
      refine y_aload rfl rfl rfl ?_
      refine y_gfr (t := (s + 2)) rfl (yS_c hs) (yS_0 hs).1 rfl (by have := yS_0 hs; omega) ?_
      refine y_iload rfl rfl ?_
      refine y_aald (v := ((s + 3) + 3 * i)) (n := 3) rfl (yS_m hs) (by have := yS_0 hs; omega) rfl (by omega) rfl ?_
      refine y_vi (as := [(2, ((s + 3) + 3 * i))]) (S := []) rfl rfl rfl rfl rfl rfl (by have := yN_0 (yS_n (s := s) (i := i) hs (by omega)); omega) (yN_c (yS_n (s := s) (i := i) hs (by omega))) (c_hasStopped (yS_n (s := s) (i := i) hs (by omega))) ?_
      rintro _ _ ⟨rfl, rfl⟩
      refine y_ifne rfl (fun q24 => ?_) (fun q24 => ?_)
      · skip
        replace q24 := yb_1.mp q24
        refine y_iinc (L' := [some (2, s), some (0, (i + 1))]) rfl rfl rfl rfl rfl (by omega) ?_
        refine y_goto rfl ?_
        exact ih τ C (i + 1) (by omega) (by omega) (by omega) h2 h3 (by rw [macts_s h0, ← h4, if_neg (fun y => a9.mp y.1 q24)]) h5 h6 h7
      · skip
        replace q24 := yb_0.mp q24
        refine y_aload rfl rfl rfl ?_
        refine y_iload rfl rfl ?_
        refine y_vu (as := [(2, s), (0, i)]) (S := []) rfl rfl rfl rfl rfl rfl (yS_0 hs).1 (yS_c hs) (d_act hs h2 he h3 h6 ⟨by omega, by omega⟩ (a9.mpr q24)) ?_
        rintro σ' ⟨z1, z2⟩
        refine y_iinc (L' := [some (2, s), some (0, (i + 1))]) rfl rfl rfl rfl rfl (by omega) ?_
        refine y_goto rfl ?_
        have dz := (h3.2 i (by omega) (by omega)).2.2.2
        have cz := a9.mpr q24
        exact ih σ' (mact E C i) (i + 1) (by omega) (by omega) (by omega) z1 (dG_act h3 he ⟨by omega, by omega⟩ (a9.mpr q24)) (by rw [macts_s h0, ← h4, if_pos ⟨a9.mpr q24, f7 i (by omega) (by omega)⟩]) (yfr_trans h5 (afr_y z2 (by omega))) (by rw [mact_k (by omega)]; exact h6) (bfr_act h7 z2 (by omega))
theorem d_advance {g : Launch × XG × va_G} {σ : YS} {s : Int} {E D : YS} (hs : yS s) (hr : rep σ s E D) (he : eG E) (hd : dG E D) (hn : 0 ≤ D 5 0 ∧ D 5 0 < 1000000) : YI g 51 [(2, s)] σ (fun b σ' => rep σ' s E (mstep E D) ∧ mgo E (mstep E D) (E 1 0).toNat = b ∧ yfr σ σ' s (s + 11) ∧ bfr σ σ' s E) := by
  refine y_start rfl rfl rfl ?_
  have ⟨⟨f1, f2, f3, f4⟩, f5, f6, g7, g8⟩ := hr
  have f7 := mth_7 g7
  have ⟨e1, e2, e3⟩ := he
  have s0 := yS_0 hs
  refine y_aload rfl rfl rfl ?_
  refine y_push rfl ?_
  refine y_pfi (j := 7) rfl (yS_c hs) (yS_0 hs).1 rfl rfl rfl rfl rfl ?_
  refine y_push rfl ?_
  refine y_istore (L' := [some (2, s), some (0, 0)]) rfl rfl rfl rfl ?_
  exact dl_advance hs he 4 _ (yset D 6 0 0) 0 (by omega) (by omega) (by omega) (rep_wait hr) (dG_x hd (by omega)) rfl (yfr_set (yfr_refl _ _ _) (by omega)) (by rw [yne (by omega) rfl]; exact hn) (bfr_s (bfr_0 _ _ _))
theorem dl_save2 {g : Launch × XG × va_G} {σ : YS} {s r : Int} {E D : YS} (hs : yS s) (hy : yR r) (hrs : r < s ∨ s + 12 < r) (hr : rep σ s E D) (he : eG E) : ∀ (nn : Nat) (τ : YS) (k : Int), 21 - k < (nn : Int) → (9 + 4 * E 1 0 ≤ k ∧ k ≤ 21) → (∀ c, 0 ≤ c → c < 9 → τ r c = D 0 c) → (∀ q, 0 ≤ q → q < E 1 0 → rowci τ r E D q) → (∀ c, 9 + 4 * E 1 0 ≤ c → c < k → τ r c = 0) → (yfr σ τ r r) → (∀ q, 0 ≤ q → q < E 1 0 → τ r (9 + 4 * q + 3) = σ (s + 3 + 3 * q) 8) → YW g 50 99 [some (2, s), some (2, r), some (0, k), none, none] [] τ (fun rv σ' => rv = none ∧ ((rowc σ' r E D ∧ ∀ q, 0 ≤ q → q < E 1 0 → σ' r (9 + 4 * q + 3) = σ (s + 3 + 3 * q) 8) ∧ yfr σ σ' r r)) := by
  intro nn
  induction nn with
  | zero =>
    intro τ k hn h0 h1 h2 h3 h4 h5
    exfalso
    omega
  | succ nn ih =>
    intro τ k hn h0 h1 h2 h3 h4 h5
    have s0 := yS_0 hs
    have ⟨⟨f1, f2, f3, f4⟩, f5, f6, f7, f8⟩ := hr
    have ⟨e1, e2, e3⟩ := he
    have y0 := hy.1
    refine y_iload rfl rfl ?_
    refine y_push rfl ?_
    refine y_icge rfl (fun q102 => ?_) (fun q102 => ?_)
    · skip
      refine y_aload rfl rfl rfl ?_
      refine y_push rfl ?_
      refine y_aload rfl rfl rfl ?_
      refine y_gfi (v := (τ s 6)) rfl (yS_c hs) (yS_0 hs).1 rfl (by decide) rfl rfl ?_
      refine y_iast (n := 22) rfl hy.2 hy.1 rfl (by decide) ?_
      refine y_ret rfl rfl ⟨rfl, ?_⟩
      refine ⟨⟨⟨fun c x y => by rw [yne (by omega) rfl]; exact h1 c x y, fun q x y => rowci_cong (h2 q x y) (fun k x y => yne (by omega) rfl), fun c x y => by rw [yne (by omega) rfl]; exact h3 c x (by omega), by rw [yeq, h4 _ _ (by omega)]; exact f3⟩, fun q x y => by rw [yne (by omega) rfl]; exact h5 q x y⟩, yfr_set h4 (by omega)⟩
    · skip
      refine y_aload rfl rfl rfl ?_
      refine y_iload rfl rfl ?_
      refine y_push rfl ?_
      refine y_iast (n := 22) rfl hy.2 hy.1 rfl (by omega) ?_
      refine y_iinc (L' := [some (2, s), some (2, r), some (0, (k + 1)), none, none]) rfl rfl rfl rfl rfl (by omega) ?_
      refine y_goto rfl ?_
      refine ih (yset τ r k 0) (k + 1) (by omega) (by omega) (fun c x y => by rw [yne (by omega) rfl]; exact h1 c x y) (fun q x y => rowci_cong (h2 q x y) (fun k x y => yne (by omega) rfl)) (fun c x y => ?_) (yfr_set h4 (by omega)) (fun q x y => by rw [yne (by omega) rfl]; exact h5 q x y)
      by_cases e : c = k
      · subst e; rw [yeq]
      · rw [yne (by omega) rfl]; exact h3 c x (by omega)
theorem dl_save1 {g : Launch × XG × va_G} {σ : YS} {s r : Int} {E D : YS} (hs : yS s) (hy : yR r) (hrs : r < s ∨ s + 12 < r) (hr : rep σ s E D) (he : eG E) : ∀ (nn : Nat) (τ : YS) (i : Int), E 1 0 - i < (nn : Int) → (0 ≤ i ∧ i ≤ E 1 0) → (∀ c, 0 ≤ c → c < 9 → τ r c = D 0 c) → (∀ q, 0 ≤ q → q < i → rowci τ r E D q) → (yfr σ τ r r) → (∀ q, 0 ≤ q → q < i → τ r (9 + 4 * q + 3) = σ (s + 3 + 3 * q) 8) → YW g 50 14 [some (2, s), some (2, r), some (0, i), none, none] [] τ (fun rv σ' => rv = none ∧ ((rowc σ' r E D ∧ ∀ q, 0 ≤ q → q < E 1 0 → σ' r (9 + 4 * q + 3) = σ (s + 3 + 3 * q) 8) ∧ yfr σ σ' r r)) := by
  intro nn
  induction nn with
  | zero =>
    intro τ i hn h0 h1 h2 h3 h4
    exfalso
    omega
  | succ nn ih =>
    intro τ i hn h0 h1 h2 h3 h4
    have s0 := yS_0 hs
    have ⟨⟨f1, f2, f3, f4⟩, f5, f6, f7, f8⟩ := hr
    have ⟨e1, e2, e3⟩ := he
    have y0 := hy.1
    have h5 : τ s 5 = σ s 5 := h3 _ _ (by omega)
    have hb4 := h4
    refine y_iload rfl rfl ?_
    refine y_aload rfl rfl rfl ?_
    refine y_gfi (v := (τ s 5)) rfl (yS_c hs) (yS_0 hs).1 rfl (by decide) rfl rfl ?_
    refine y_icge rfl (fun q19 => ?_) (fun q19 => ?_)
    · skip
      refine y_push rfl ?_
      refine y_push rfl ?_
      refine y_aload rfl rfl rfl ?_
      refine y_gfi (v := (τ s 5)) rfl (yS_c hs) (yS_0 hs).1 rfl (by decide) rfl rfl ?_
      refine y_imul (v := (4 * (τ s 5))) rfl rfl (by omega) ?_
      refine y_iadd (v := (9 + (4 * (τ s 5)))) rfl rfl (by omega) ?_
      refine y_istore (L' := [some (2, s), some (2, r), some (0, (9 + (4 * (τ s 5)))), none, none]) rfl rfl rfl rfl ?_
      refine dl_save2 hs hy hrs hr he 22 τ (9 + (4 * (τ s 5))) (by omega) (by omega) h1 (fun q x y => h2 q x (by omega)) (fun c x y => by omega) h3 (fun q x y => hb4 q x (by omega))
    · skip
      have hq := repm_cong (σ' := τ) (f6 i (by omega) (by omega)) (fun x y x1 x2 => h3 x y (by omega))
      have hq8 := hq.2.2.2.2
      have t8 : τ (s + 3 + 3 * i) 8 = σ (s + 3 + 3 * i) 8 := h3 _ _ (by omega)
      refine y_aload rfl rfl rfl ?_
      refine y_gfr (t := (s + 2)) rfl (yS_c hs) (yS_0 hs).1 rfl (by have := yS_0 hs; omega) ?_
      refine y_iload rfl rfl ?_
      refine y_aald (v := ((s + 3) + 3 * i)) (n := 3) rfl (yS_m hs) (by have := yS_0 hs; omega) rfl (by omega) rfl ?_
      refine y_astore (L' := [some (2, s), some (2, r), some (0, i), some (2, ((s + 3) + 3 * i)), none]) rfl rfl rfl rfl rfl ?_
      refine y_push rfl ?_
      refine y_push rfl ?_
      refine y_iload rfl rfl ?_
      refine y_imul (v := (4 * i)) rfl rfl (by omega) ?_
      refine y_iadd (v := (9 + (4 * i))) rfl rfl (by omega) ?_
      refine y_istore (L' := [some (2, s), some (2, r), some (0, i), some (2, ((s + 3) + 3 * i)), some (0, (9 + (4 * i)))]) rfl rfl rfl rfl ?_
      refine y_aload rfl rfl rfl ?_
      refine y_iload rfl rfl ?_
      refine y_aload rfl rfl rfl ?_
      refine y_gfi (v := (τ ((s + 3) + 3 * i) 5)) rfl (yN_c (yS_n (s := s) (i := i) hs (by omega))) (by have := yN_0 (yS_n (s := s) (i := i) hs (by omega)); omega) rfl (by decide) rfl rfl ?_
      refine y_iast (n := 22) rfl hy.2 hy.1 rfl (by omega) ?_
      refine y_aload rfl rfl rfl ?_
      refine y_iload rfl rfl ?_
      refine y_push rfl ?_
      refine y_iadd (v := ((9 + (4 * i)) + 1)) rfl rfl (by omega) ?_
      refine y_aload rfl rfl rfl ?_
      refine y_gfi (v := (τ ((s + 3) + 3 * i) 6)) rfl (yN_c (yS_n (s := s) (i := i) hs (by omega))) (by have := yN_0 (yS_n (s := s) (i := i) hs (by omega)); omega) rfl (by decide) rfl (yne (by omega) rfl) ?_
      refine y_iast (n := 22) rfl hy.2 hy.1 rfl (by omega) ?_
      refine y_aload rfl rfl rfl ?_
      refine y_iload rfl rfl ?_
      refine y_push rfl ?_
      refine y_iadd (v := ((9 + (4 * i)) + 2)) rfl rfl (by omega) ?_
      refine y_aload rfl rfl rfl ?_
      refine y_gfi (v := (τ ((s + 3) + 3 * i) 7)) rfl (yN_c (yS_n (s := s) (i := i) hs (by omega))) (by have := yN_0 (yS_n (s := s) (i := i) hs (by omega)); omega) rfl (by decide) rfl (yne (by omega) (yne (by omega) rfl)) ?_
      refine y_iast (n := 22) rfl hy.2 hy.1 rfl (by omega) ?_
      refine y_aload rfl rfl rfl ?_
      refine y_iload rfl rfl ?_
      refine y_push rfl ?_
      refine y_iadd (v := ((9 + (4 * i)) + 3)) rfl rfl (by omega) ?_
      refine y_aload rfl rfl rfl ?_
      refine y_gfi (v := (τ ((s + 3) + 3 * i) 8)) rfl (yN_c (yS_n (s := s) (i := i) hs (by omega))) (by have := yN_0 (yS_n (s := s) (i := i) hs (by omega)); omega) rfl (by decide) rfl (yne (by omega) (yne (by omega) (yne (by omega) rfl))) ?_
      refine y_ifeq rfl (fun q74 => ?_) (fun q74 => ?_)
      · skip
        refine y_push rfl ?_
        refine y_iast (n := 22) rfl hy.2 hy.1 rfl (by omega) ?_
        refine y_iinc (L' := [some (2, s), some (2, r), some (0, (i + 1)), some (2, ((s + 3) + 3 * i)), some (0, (9 + (4 * i)))]) rfl rfl rfl rfl rfl (by omega) ?_
        refine y_goto rfl ?_
        refine y_forget (M := [some (2, s), some (2, r), some (0, (i + 1)), none, none]) ⟨Or.inr rfl, ⟨Or.inr rfl, ⟨Or.inr rfl, ⟨Or.inl rfl, ⟨Or.inl rfl, trivial⟩⟩⟩⟩⟩ ?_
        refine ih (yset (yset (yset (yset τ r (9 + (4 * i)) (τ ((s + 3) + 3 * i) 5)) r ((9 + (4 * i)) + 1) (τ ((s + 3) + 3 * i) 6)) r ((9 + (4 * i)) + 2) (τ ((s + 3) + 3 * i) 7)) r ((9 + (4 * i)) + 3) 0) (i + 1) (by omega) (by omega) (fun c x y => by rw [yne (by omega) rfl, yne (by omega) rfl, yne (by omega) rfl, yne (by omega) rfl]; exact h1 c x y) (fun q x y => ?_) (yfr_set (yfr_set (yfr_set (yfr_set h3 (by omega)) (by omega)) (by omega)) (by omega)) (fun q x y => ?_)
        · by_cases e : q = i
          · subst e; exact rowci_sv hq (by unfold yb; split <;> omega)
          · exact rowci_cong (h2 q x (by omega)) (fun k x y => by rw [yne (by omega) rfl, yne (by omega) rfl, yne (by omega) rfl, yne (by omega) rfl])
        · by_cases e : q = i
          · subst e
            rw [yeq, ← t8]
            omega
          · rw [yne (by omega) rfl, yne (by omega) rfl, yne (by omega) rfl, yne (by omega) rfl]; exact hb4 q x (by omega)
      · skip
        refine y_push rfl ?_
        refine y_goto rfl ?_
        refine y_iast (n := 22) rfl hy.2 hy.1 rfl (by omega) ?_
        refine y_iinc (L' := [some (2, s), some (2, r), some (0, (i + 1)), some (2, ((s + 3) + 3 * i)), some (0, (9 + (4 * i)))]) rfl rfl rfl rfl rfl (by omega) ?_
        refine y_goto rfl ?_
        refine y_forget (M := [some (2, s), some (2, r), some (0, (i + 1)), none, none]) ⟨Or.inr rfl, ⟨Or.inr rfl, ⟨Or.inr rfl, ⟨Or.inl rfl, ⟨Or.inl rfl, trivial⟩⟩⟩⟩⟩ ?_
        refine ih (yset (yset (yset (yset τ r (9 + (4 * i)) (τ ((s + 3) + 3 * i) 5)) r ((9 + (4 * i)) + 1) (τ ((s + 3) + 3 * i) 6)) r ((9 + (4 * i)) + 2) (τ ((s + 3) + 3 * i) 7)) r ((9 + (4 * i)) + 3) 1) (i + 1) (by omega) (by omega) (fun c x y => by rw [yne (by omega) rfl, yne (by omega) rfl, yne (by omega) rfl, yne (by omega) rfl]; exact h1 c x y) (fun q x y => ?_) (yfr_set (yfr_set (yfr_set (yfr_set h3 (by omega)) (by omega)) (by omega)) (by omega)) (fun q x y => ?_)
        · by_cases e : q = i
          · subst e; exact rowci_sv hq (by unfold yb; split <;> omega)
          · exact rowci_cong (h2 q x (by omega)) (fun k x y => by rw [yne (by omega) rfl, yne (by omega) rfl, yne (by omega) rfl, yne (by omega) rfl])
        · by_cases e : q = i
          · subst e
            rw [yeq, ← t8]
            omega
          · rw [yne (by omega) rfl, yne (by omega) rfl, yne (by omega) rfl, yne (by omega) rfl]; exact hb4 q x (by omega)
theorem d_save {g : Launch × XG × va_G} {σ : YS} {s r : Int} {E D : YS} (hs : yS s) (hy : yR r) (hrs : r < s ∨ s + 12 < r) (hr : rep σ s E D) (he : eG E) : YU g 50 [(2, s), (2, r)] σ (fun σ' => (rowc σ' r E D ∧ ∀ q, 0 ≤ q → q < E 1 0 → σ' r (9 + 4 * q + 3) = σ (s + 3 + 3 * q) 8) ∧ yfr σ σ' r r) := by
  refine y_start rfl rfl rfl ?_
  have s0 := yS_0 hs
  have ⟨⟨f1, f2, f3, f4⟩, f5, f6, f7, f8⟩ := hr
  have ⟨e1, e2, e3⟩ := he
  have y0 := hy.1
  refine y_aload rfl rfl rfl ?_
  refine y_gfr (t := (s + 1)) rfl (yS_c hs) (yS_0 hs).1 rfl (by have := yS_0 hs; omega) ?_
  refine y_push rfl ?_
  refine y_aload rfl rfl rfl ?_
  refine y_push rfl ?_
  refine y_push rfl ?_
  refine y_acopy (v := 9) (w := 22) rfl (yS_w hs) hy.2 ⟨(by have := yS_0 hs; omega), hy.1⟩ rfl rfl (by omega) rfl ?_
  refine y_push rfl ?_
  refine y_istore (L' := [some (2, s), some (2, r), some (0, 0), none, none]) rfl rfl rfl rfl ?_
  refine dl_save1 hs hy hrs hr he 4 (ycopy σ (s + 1) 0 r 0 9) 0 (by omega) (by omega) (fun c x y => ?_) (fun q x y => by omega) (yfr_cp (yfr_refl _ _ _) (by omega)) (fun q x y => by omega)
  unfold ycopy; rw [if_pos (by omega), Int.sub_zero, Int.add_zero]; exact f5 c x y
