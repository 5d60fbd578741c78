theorem l_going {g : Launch × XG × va_G} {σ : YS} {E D : YS}  (hr : rm σ E D) (he : eG E) : ∀ (nn : Nat) (i : Int) (c : Int), E 1 0 - i < (nn : Int) → (0 ≤ i ∧ i ≤ E 1 0) → (c = mgo E D i.toNat) → YW g 59 4 [some (2, 547), some (0, c), some (0, i)] [] σ (fun rv σ' => ∃ b, rv = some (0, b) ∧ (σ = σ' ∧ mgo E D (E 1 0).toNat = b)) := by
  intro nn
  induction nn with
  | zero =>
    intro i c hn h0 h1
    exfalso
    omega
  | succ nn ih =>
    intro i c hn h0 h1
    have ⟨⟨f1, f2, f3⟩, f4, f5, f6⟩ := hr
    have ⟨e1, e2, e3⟩ := he
    refine y_iload rfl rfl ?_
    refine y_aload rfl rfl rfl ?_
    refine y_gfr (t := 548) rfl rfl (by decide) rfl (by decide) ?_
    refine y_push rfl ?_
    refine y_iald (v := (σ 548 10)) (n := 2108) rfl rfl (by decide) rfl (by decide) rfl ?_
    refine y_icge rfl (fun q12 => ?_) (fun q12 => ?_)
    · skip
      refine y_iload rfl rfl ?_
      refine y_iret rfl rfl ⟨_, rfl, ?_⟩
      exact ⟨rfl, by rw [h1, show i = E 1 0 by omega]⟩
    · skip
      have mr : ∀ n : Nat, 0 ≤ mgo E D n ∧ mgo E D n ≤ n := fun n => by
        induction n with
        | zero => exact ⟨Int.le_refl _, Int.le_refl _⟩
        | succ n ih => unfold mgo; split <;> omega
      have mri := mr i.toNat
      refine y_iload rfl rfl ?_
      refine y_aload rfl rfl rfl ?_
      refine y_gfi (v := (σ 547 19)) rfl rfl (by decide) rfl (by decide) rfl rfl ?_
      refine y_iload rfl rfl ?_
      refine y_si (as := [(0, (σ 547 19)), (0, i)]) (S := [(0, c)]) rfl rfl rfl rfl rfl rfl m_has ?_
      rintro _ _ ⟨rfl, rfl⟩
      refine y_ifeq rfl (fun q24 => ?_) (fun q24 => ?_)
      · skip
        replace q24 := yb_0.mp q24
        refine y_push rfl ?_
        refine y_iadd (v := (c + 0)) rfl rfl (by omega) ?_
        refine y_istore (L' := [some (2, 547), some (0, (c + 0)), some (0, i)]) rfl rfl rfl rfl ?_
        refine y_iinc (L' := [some (2, 547), some (0, (c + 0)), some (0, (i + 1))]) rfl rfl rfl rfl rfl (by omega) ?_
        refine y_goto rfl ?_
        refine ih (i + 1) (c + 0) (by omega) (by omega) ?_
        rw [show (i + 1).toNat = i.toNat + 1 by omega]
        show (c + 0) = mgo E D i.toNat + (if D 4 (i.toNat : Int) = 0 ∧ mth E (i.toNat : Int) then 1 else 0)
        rw [show ((i.toNat : Nat) : Int) = i by omega, h1]
        have a4 := (f5 i (by omega) (by omega)).1.2.2.2
        rw [if_neg (by first | exact fun z => q24 ((f6 i (by omega) (by omega)).mpr z.2) | exact fun z => q33 (by omega))]
      · skip
        replace q24 := yb_1.mp q24
        refine y_aload rfl rfl rfl ?_
        refine y_gfr (t := 558) rfl rfl (by decide) rfl (by decide) ?_
        refine y_iload rfl rfl ?_
        refine y_iald (v := (σ 558 i)) (n := 3) rfl rfl (by decide) rfl (by omega) rfl ?_
        refine y_ifne rfl (fun q33 => ?_) (fun q33 => ?_)
        · skip
          refine y_push rfl ?_
          refine y_iadd (v := (c + 0)) rfl rfl (by omega) ?_
          refine y_istore (L' := [some (2, 547), some (0, (c + 0)), some (0, i)]) rfl rfl rfl rfl ?_
          refine y_iinc (L' := [some (2, 547), some (0, (c + 0)), some (0, (i + 1))]) rfl rfl rfl rfl rfl (by omega) ?_
          refine y_goto rfl ?_
          refine ih (i + 1) (c + 0) (by omega) (by omega) ?_
          rw [show (i + 1).toNat = i.toNat + 1 by omega]
          show (c + 0) = mgo E D i.toNat + (if D 4 (i.toNat : Int) = 0 ∧ mth E (i.toNat : Int) then 1 else 0)
          rw [show ((i.toNat : Nat) : Int) = i by omega, h1]
          have a4 := (f5 i (by omega) (by omega)).1.2.2.2
          rw [if_neg (by first | exact fun z => q24 ((f6 i (by omega) (by omega)).mpr z.2) | exact fun z => q33 (by omega))]
        · skip
          refine y_push rfl ?_
          refine y_goto rfl ?_
          refine y_iadd (v := (c + 1)) rfl rfl (by omega) ?_
          refine y_istore (L' := [some (2, 547), some (0, (c + 1)), some (0, i)]) rfl rfl rfl rfl ?_
          refine y_iinc (L' := [some (2, 547), some (0, (c + 1)), some (0, (i + 1))]) rfl rfl rfl rfl rfl (by omega) ?_
          refine y_goto rfl ?_
          refine ih (i + 1) (c + 1) (by omega) (by omega) ?_
          rw [show (i + 1).toNat = i.toNat + 1 by omega]
          show (c + 1) = mgo E D i.toNat + (if D 4 (i.toNat : Int) = 0 ∧ mth E (i.toNat : Int) then 1 else 0)
          rw [show ((i.toNat : Nat) : Int) = i by omega, h1]
          have a4 := (f5 i (by omega) (by omega)).1.2.2.2
          rw [if_pos ⟨by omega, (f6 i (by omega) (by omega)).mp q24⟩]
theorem m_going {g : Launch × XG × va_G} {σ : YS} {E D : YS}  (hr : rm σ E D) (he : eG E) : YI g 59 [(2, 547)] σ (fun b σ' => σ = σ' ∧ mgo E D (E 1 0).toNat = b) := by
  refine y_start rfl rfl rfl ?_
  refine y_push rfl ?_
  refine y_istore (L' := [some (2, 547), some (0, 0), none]) rfl rfl rfl rfl ?_
  refine y_push rfl ?_
  refine y_istore (L' := [some (2, 547), some (0, 0), some (0, 0)]) rfl rfl rfl rfl ?_
  have e2 := he.2.1
  exact l_going hr he 4 0 0 (by omega) (by omega) rfl
theorem l_goToStop {g : Launch × XG × va_G} {σ : YS} {E D : YS}  (he : eG E) (hd : dG E D) (hn : 0 ≤ D 5 0 ∧ D 5 0 < 900000) : ∀ (nn : Nat) (τ : YS) (t : Int), 401 - t < (nn : Int) → (0 ≤ t ∧ t ≤ 401) → (rm τ E (msteps E D t.toNat)) → (∀ u : Nat, (u : Int) < t → mgo E (msteps E D u) (E 1 0).toNat ≠ 0) → (rfr σ τ) → YW g 70 2 [some (2, 547), some (0, t)] [] τ (fun rv σ' => ∃ b, rv = some (0, b) ∧ (sets E D b ∧ (b ≠ -1 → rm σ' E (msteps E D b.toNat)) ∧ rfr σ σ' ∧ ∃ n : Nat, n ≤ 401 ∧ rm σ' E (msteps E D n))) := by
  intro nn
  induction nn with
  | zero =>
    intro τ t hn h0 h1 h2 h3
    exfalso
    omega
  | succ nn ih =>
    intro τ t hn h0 h1 h2 h3
    refine y_iload rfl rfl ?_
    refine y_push rfl ?_
    refine y_icgt rfl (fun q6 => ?_) (fun q6 => ?_)
    · skip
      refine y_push rfl ?_
      refine y_iret rfl rfl ⟨_, rfl, ?_⟩
      exact ⟨Or.inr ⟨rfl, fun u _ => h2 u (by omega)⟩, fun z => absurd rfl z, h3, t.toNat, by omega, h1⟩
    · skip
      refine y_aload rfl rfl rfl ?_
      refine y_vi (as := [(2, 547)]) (S := []) rfl rfl rfl rfl rfl rfl (by decide) rfl (m_going h1 he) ?_
      rintro _ _ ⟨rfl, rfl⟩
      refine y_ifne rfl (fun q13 => ?_) (fun q13 => ?_)
      · skip
        refine y_aload rfl rfl rfl ?_
        refine y_vi (as := [(2, 547)]) (S := []) rfl rfl rfl rfl rfl rfl (by decide) rfl (m_goStep h1 he (dG_steps hd he _) (by rw [msteps_5]; omega)) ?_
        rintro _ σ1 ⟨y1, rfl, y2⟩
        refine y_pop rfl rfl ?_
        refine y_iinc (L' := [some (2, 547), some (0, (t + 1))]) rfl rfl rfl rfl rfl (by omega) ?_
        refine y_goto rfl ?_
        refine ih σ1 (t + 1) (by omega) (by omega) (by rw [show (t + 1).toNat = t.toNat + 1 by omega]; exact y1) (fun u hu => ?_) (rfr_t h3 y2)
        rcases (by omega : (u : Int) < t ∨ u = t.toNat) with z | rfl
        · exact h2 u z
        · exact q13
      · skip
        refine y_iload rfl rfl ?_
        refine y_iret rfl rfl ⟨_, rfl, ?_⟩
        exact ⟨sets_at ⟨by omega, by omega⟩ q13 h2, fun _ => h1, h3, t.toNat, by omega, h1⟩
theorem m_goToStop {g : Launch × XG × va_G} {σ : YS} {E D : YS}  (hr : rm σ E D) (he : eG E) (hd : dG E D) (hn : 0 ≤ D 5 0 ∧ D 5 0 < 900000) : YI g 70 [(2, 547)] σ (fun b σ' => sets E D b ∧ (b ≠ -1 → rm σ' E (msteps E D b.toNat)) ∧ rfr σ σ' ∧ ∃ n : Nat, n ≤ 401 ∧ rm σ' E (msteps E D n)) := by
  refine y_start rfl rfl rfl ?_
  refine y_push rfl ?_
  refine y_istore (L' := [some (2, 547), some (0, 0)]) rfl rfl rfl rfl ?_
  exact l_goToStop he hd hn 402 σ 0 (by omega) (by omega) hr (fun u hu => by omega) (rfr_0 _)
def ainv (τ : YS) (B : Int) (f : Int → Int) (k : Nat) : Prop := (∀ d, 0 ≤ d → d < bo f k → τ 562 d = bs f k d) ∧ ∀ j, bc f k j → τ 561 (B + j) = bp f k j
theorem ainv_0 {τ : YS} {B : Int} {f : Int → Int} : ainv τ B f 0 := ⟨fun d h1 h2 => by have : bo f 0 = 0 := rfl; omega, fun j h => by have := h.1; have := h.2.1; omega⟩
theorem ainv_n {τ : YS} {B : Int} {f : Int → Int} {k : Nat} (h : ainv τ B f k) (h7 : f k ≠ 7) (h8 : f k ≠ 8) : ainv τ B f (k + 1) := by
  have e : ∀ d, bs f (k + 1) d = bs f k d := fun d => bs_n (by omega)
  unfold ainv
  rw [bo_n h7 h8]
  refine ⟨fun d a b => by rw [e]; exact h.1 d a b, fun j hj => ?_⟩
  obtain ⟨j1, j2, j3, j4⟩ := hj
  rw [bo_n h7 h8] at j4
  have ek : j ≠ k := fun e => by subst e; omega
  rw [bp_n h8]
  exact h.2 j ⟨j1, by omega, j3, fun d hd1 hd2 => by have := j4 d hd1 hd2; rw [e] at this; exact this⟩
theorem ainv_7 {τ : YS} {B : Int} {f : Int → Int} {k : Nat} (h : ainv τ B f k) (h7 : f k = 7) (hw : bw f k = -1) : ainv (yset τ 562 (bo f k) k) B f (k + 1) := by
  have ⟨⟨g1, g2⟩, g3, g4, g5⟩ := bgood f k hw
  unfold ainv
  rw [bo_7 h7]
  refine ⟨fun d a b => ?_, fun j hj => ?_⟩
  · by_cases e : d = bo f k
    · subst e; rw [bs_7 h7, yeq]
    · rw [bs_n (by omega), yne (by omega) rfl]; exact h.1 d a (by omega)
  · obtain ⟨j1, j2, j3, j4⟩ := hj
    rw [bo_7 h7] at j4
    have ek : j ≠ k := fun e => j4 (bo f k) (by omega) (by omega) (by rw [bs_7 h7, e])
    rw [bp_n (by omega), yne (by omega) rfl]
    exact h.2 j ⟨j1, by omega, j3, fun d hd1 hd2 => by have := j4 d hd1 (by omega); rw [bs_n (by omega)] at this; exact this⟩
theorem ainv_8 {τ : YS} {B t : Int} {f : Int → Int} {k : Nat} (h : ainv τ B f k) (h8 : f k = 8) (hw : bw f k = -1) (hb : bo f k ≠ 0) (ht : t = τ 562 (bo f k - 1)) : ainv (yset (yset τ 561 (B + k) t) 561 (B + t) k) B f (k + 1) := by
  have ⟨⟨g1, g2⟩, g3, g4, g5⟩ := bgood f k hw
  have gt := g3 (bo f k - 1) (by omega) (by omega)
  have h1 : t = bs f k (bo f k - 1) := by rw [ht]; exact h.1 _ (by omega) (by omega)
  rw [← h1] at gt
  have e : ∀ d, bs f (k + 1) d = bs f k d := fun d => bs_n (by omega)
  unfold ainv
  rw [bo_8 h8]
  refine ⟨fun d a b => ?_, fun j hj => ?_⟩
  · rw [e, yne (by omega) rfl, yne (by omega) rfl]; exact h.1 d a (by omega)
  · obtain ⟨j1, j2, j3, j4⟩ := hj
    rw [bo_8 h8] at j4
    by_cases ek : j = k
    · subst ek
      rw [bp_k h8, yne (by omega) rfl, yeq, h1]
    · by_cases et : j = t
      · subst et
        rw [yeq, bp_t h8 ek h1]
      · rw [bp_o h8 ek (by rw [← h1]; exact et), yne (by omega) rfl, yne (by omega) rfl]
        refine h.2 j ⟨j1, by omega, j3, fun d hd1 hd2 => ?_⟩
        by_cases ed : d = bo f k - 1
        · rw [ed, ← h1]; exact fun z => et z.symm
        · have := j4 d hd1 (by omega); rw [e] at this; exact this
theorem l_layAgainst {g : Launch × XG × va_G} {σ : YS} {m n : Int} {f : Int → Int} (hm : 0 ≤ m ∧ m < 3) (hs : σ 559 m = n) (hn : 0 ≤ n ∧ n ≤ 24) (hf : ∀ k, 0 ≤ k → k < n → σ 560 (25 * m + k) = f k) : ∀ (nn : Nat) (τ : YS) (κ : Nat) (op : Int) (lt : Int), n - κ < (nn : Int) → ((κ : Int) ≤ n) → (bw f κ = -1) → (op = bo f κ) → (lt = bl f κ) → (ainv τ (25 * m) f κ) → (∀ x y, x ≠ 562 → (x ≠ 561 ∨ y < 25 * m ∨ 25 * m + 24 < y) → τ x y = σ x y) → YW g 57 7 [some (2, 547), some (0, m), some (0, op), some (0, lt), some (0, (κ : Int)), none] [] τ (fun rv σ' => ∃ b, rv = some (0, b) ∧ (((b = 1 ∧ bflaw f n.toNat = -1 ∧ ∀ k, 0 ≤ k → k < n → f k = 7 ∨ f k = 8 → σ' 561 (25 * m + k) = bp f n.toNat k) ∨ (b = 0 ∧ bflaw f n.toNat ≠ -1)) ∧ (∀ x y, x ≠ 562 → (x ≠ 561 ∨ y < 25 * m ∨ 25 * m + 24 < y) → σ' x y = σ x y))) := by
  intro nn
  induction nn with
  | zero =>
    intro τ κ op lt hn h0 h1 h2 h3 h4 h5
    exfalso
    omega
  | succ nn ih =>
    intro τ κ op lt hn h0 h1 h2 h3 h4 h5
    have hs9 : τ 559 m = n := by rw [h5 _ _ (by omega) (by omega)]; exact hs
    refine y_iload rfl rfl ?_
    refine y_aload rfl rfl rfl ?_
    refine y_gfr (t := 559) rfl rfl (by decide) rfl (by decide) ?_
    refine y_iload rfl rfl ?_
    refine y_iald (v := (τ 559 m)) (n := 3) rfl rfl (by decide) rfl (by omega) rfl ?_
    refine y_icge rfl (fun q15 => ?_) (fun q15 => ?_)
    · skip
      refine y_iload rfl rfl ?_
      refine y_ifne rfl (fun q145 => ?_) (fun q145 => ?_)
      · skip
        refine y_push rfl ?_
        refine y_zret rfl rfl (by decide) ⟨_, rfl, ?_⟩
        have hK : κ = n.toNat := by omega
        subst hK
        have gd := (bgood f _ h1).1
        exact ⟨Or.inr ⟨rfl, by unfold bflaw; rw [if_neg (by omega), if_pos (by omega)]; omega⟩, h5⟩
      · skip
        refine y_push rfl ?_
        refine y_goto rfl ?_
        refine y_zret rfl rfl (by decide) ⟨_, rfl, ?_⟩
        have hK : κ = n.toNat := by omega
        subst hK
        exact ⟨Or.inl ⟨rfl, by unfold bflaw; rw [if_neg (by omega), if_neg (by omega)], fun k a b c => h4.2 k ⟨a, by omega, c, fun d d1 d2 => by omega⟩⟩, h5⟩
    · skip
      have w1 : τ 560 (25 * m + κ) = f κ := by rw [h5 _ _ (by omega) (by omega)]; exact hf κ (by omega) (by omega)
      have hbl := bl_01 f κ
      have gd := bgood f κ h1
      have gd1 := gd.1
      have gd2 := gd.2.1 (bo f κ - 1)
      refine y_aload rfl rfl rfl ?_
      refine y_gfr (t := 560) rfl rfl (by decide) rfl (by decide) ?_
      refine y_push rfl ?_
      refine y_iload rfl rfl ?_
      refine y_imul (v := (25 * m)) rfl rfl (by omega) ?_
      refine y_iload rfl rfl ?_
      refine y_iadd (v := ((25 * m) + (κ : Int))) rfl rfl (by omega) ?_
      refine y_iald (v := (τ 560 ((25 * m) + (κ : Int)))) (n := 75) rfl rfl (by decide) rfl (by omega) rfl ?_
      refine y_istore (L' := [some (2, 547), some (0, m), some (0, op), some (0, lt), some (0, (κ : Int)), some (0, (τ 560 ((25 * m) + (κ : Int))))]) rfl rfl rfl rfl ?_
      refine y_iload rfl rfl ?_
      refine y_iload rfl rfl ?_
      refine y_push rfl ?_
      refine y_icle rfl (fun q37 => ?_) (fun q37 => ?_)
      · skip
        refine y_push rfl ?_
        refine y_icne rfl (fun q45 => ?_) (fun q45 => ?_)
        · skip
          refine y_push rfl ?_
          refine y_zret rfl rfl (by decide) ⟨_, rfl, ?_⟩
          have hb : bbad f κ := by unfold bbad; omega
          have h9 := bw_bad h1 hb
          have hw := bw_stay (f := f) (k := κ + 1) (by omega) n.toNat (by omega)
          exact ⟨Or.inr ⟨rfl, by unfold bflaw; rw [if_pos (by omega)]; omega⟩, h5⟩
        · skip
          refine y_iload rfl rfl ?_
          refine y_push rfl ?_
          refine y_icne rfl (fun q52 => ?_) (fun q52 => ?_)
          · skip
            refine y_iload rfl rfl ?_
            refine y_push rfl ?_
            refine y_icne rfl (fun q65 => ?_) (fun q65 => ?_)
            · skip
              refine y_iload rfl rfl ?_
              refine y_push rfl ?_
              refine y_icne rfl (fun q83 => ?_) (fun q83 => ?_)
              · skip
                refine y_iload rfl rfl ?_
                refine y_push rfl ?_
                refine y_icne rfl (fun q129 => ?_) (fun q129 => ?_)
                · skip
                  refine y_push rfl ?_
                  refine y_istore (L' := [some (2, 547), some (0, m), some (0, op), some (0, 0), some (0, (κ : Int)), some (0, (τ 560 ((25 * m) + (κ : Int))))]) rfl rfl rfl rfl ?_
                  refine y_iinc (L' := [some (2, 547), some (0, m), some (0, op), some (0, 0), some (0, ((κ : Int) + 1)), some (0, (τ 560 ((25 * m) + (κ : Int))))]) rfl rfl rfl rfl rfl (by omega) ?_
                  refine y_goto rfl ?_
                  refine y_forget (M := [some (2, 547), some (0, m), some (0, op), some (0, 0), some (0, ((κ : Int) + 1)), none]) ⟨Or.inr rfl, ⟨Or.inr rfl, ⟨Or.inr rfl, ⟨Or.inr rfl, ⟨Or.inr rfl, ⟨Or.inl rfl, trivial⟩⟩⟩⟩⟩⟩ ?_
                  have hb : ¬ bbad f κ := by unfold bbad; omega
                  have hw := bw_up h1 hb
                  exact ih τ (κ + 1) op 0 (by omega) (by omega) hw (by rw [bo_n (by omega) (by omega)]; exact h2) (bl_n (by omega)).symm (ainv_n h4 (by omega) (by omega)) h5
                · exfalso; omega
              · skip
                have w8 : τ 560 (25 * m + κ) = 8 := by omega
                have gd3 := gd2 (by omega) (by omega)
                have w9 : τ 562 (op + -1) = bs f κ (bo f κ - 1) := by rw [h2]; exact h4.1 (bo f κ - 1) (by omega) (by omega)
                refine y_iinc (L' := [some (2, 547), some (0, m), some (0, (op + (-1))), some (0, lt), some (0, (κ : Int)), some (0, (τ 560 ((25 * m) + (κ : Int))))]) rfl rfl rfl rfl rfl (by omega) ?_
                refine y_aload rfl rfl rfl ?_
                refine y_gfr (t := 561) rfl rfl (by decide) rfl (by decide) ?_
                refine y_push rfl ?_
                refine y_iload rfl rfl ?_
                refine y_imul (v := (25 * m)) rfl rfl (by omega) ?_
                refine y_iload rfl rfl ?_
                refine y_iadd (v := ((25 * m) + (κ : Int))) rfl rfl (by omega) ?_
                refine y_aload rfl rfl rfl ?_
                refine y_gfr (t := 562) rfl rfl (by decide) rfl (by decide) ?_
                refine y_iload rfl rfl ?_
                refine y_iald (v := (τ 562 (op + (-1)))) (n := 25) rfl rfl (by decide) rfl (by omega) rfl ?_
                refine y_iast (n := 75) rfl rfl (by decide) rfl (by omega) ?_
                refine y_aload rfl rfl rfl ?_
                refine y_gfr (t := 561) rfl rfl (by decide) rfl (by decide) ?_
                refine y_push rfl ?_
                refine y_iload rfl rfl ?_
                refine y_imul (v := (25 * m)) rfl rfl (by omega) ?_
                refine y_aload rfl rfl rfl ?_
                refine y_gfr (t := 562) rfl rfl (by decide) rfl (by decide) ?_
                refine y_iload rfl rfl ?_
                refine y_iald (v := (τ 562 (op + (-1)))) (n := 25) rfl rfl (by decide) rfl (by omega) (yne (by omega) rfl) ?_
                refine y_iadd (v := ((25 * m) + (τ 562 (op + (-1))))) rfl rfl (by omega) ?_
                refine y_iload rfl rfl ?_
                refine y_iast (n := 75) rfl rfl (by decide) rfl (by omega) ?_
                refine y_iload rfl rfl ?_
                refine y_push rfl ?_
                refine y_icne rfl (fun q129 => ?_) (fun q129 => ?_)
                · skip
                  refine y_push rfl ?_
                  refine y_istore (L' := [some (2, 547), some (0, m), some (0, (op + (-1))), some (0, 0), some (0, (κ : Int)), some (0, (τ 560 ((25 * m) + (κ : Int))))]) rfl rfl rfl rfl ?_
                  refine y_iinc (L' := [some (2, 547), some (0, m), some (0, (op + (-1))), some (0, 0), some (0, ((κ : Int) + 1)), some (0, (τ 560 ((25 * m) + (κ : Int))))]) rfl rfl rfl rfl rfl (by omega) ?_
                  refine y_goto rfl ?_
                  refine y_forget (M := [some (2, 547), some (0, m), some (0, (op + (-1))), some (0, 0), some (0, ((κ : Int) + 1)), none]) ⟨Or.inr rfl, ⟨Or.inr rfl, ⟨Or.inr rfl, ⟨Or.inr rfl, ⟨Or.inr rfl, ⟨Or.inl rfl, trivial⟩⟩⟩⟩⟩⟩ ?_
                  have hb : ¬ bbad f κ := by unfold bbad; omega
                  have hw := bw_up h1 hb
                  refine ih (yset (yset τ 561 ((25 * m) + (κ : Int)) (τ 562 (op + (-1)))) 561 ((25 * m) + (τ 562 (op + (-1)))) (κ : Int)) (κ + 1) (op + -1) 0 (by omega) (by omega) hw (by rw [bo_8 (by omega)]; omega) (bl_n (by omega)).symm (ainv_8 h4 (by omega) h1 (by omega) (by rw [h2]; rfl)) (fun x y a b => ?_)
                  rw [yne (by omega) rfl, yne (by omega) rfl]; exact h5 x y a b
                · exfalso; omega
            · skip
              refine y_aload rfl rfl rfl ?_
              refine y_gfr (t := 562) rfl rfl (by decide) rfl (by decide) ?_
              refine y_iload rfl rfl ?_
              refine y_iload rfl rfl ?_
              refine y_iast (n := 25) rfl rfl (by decide) rfl (by omega) ?_
              refine y_iinc (L' := [some (2, 547), some (0, m), some (0, (op + 1)), some (0, lt), some (0, (κ : Int)), some (0, (τ 560 ((25 * m) + (κ : Int))))]) rfl rfl rfl rfl rfl (by omega) ?_
              refine y_iload rfl rfl ?_
              refine y_push rfl ?_
              refine y_icne rfl (fun q83 => ?_) (fun q83 => ?_)
              · skip
                refine y_iload rfl rfl ?_
                refine y_push rfl ?_
                refine y_icne rfl (fun q129 => ?_) (fun q129 => ?_)
                · exfalso; omega
                · skip
                  refine y_push rfl ?_
                  refine y_goto rfl ?_
                  refine y_istore (L' := [some (2, 547), some (0, m), some (0, (op + 1)), some (0, 1), some (0, (κ : Int)), some (0, (τ 560 ((25 * m) + (κ : Int))))]) rfl rfl rfl rfl ?_
                  refine y_iinc (L' := [some (2, 547), some (0, m), some (0, (op + 1)), some (0, 1), some (0, ((κ : Int) + 1)), some (0, (τ 560 ((25 * m) + (κ : Int))))]) rfl rfl rfl rfl rfl (by omega) ?_
                  refine y_goto rfl ?_
                  refine y_forget (M := [some (2, 547), some (0, m), some (0, (op + 1)), some (0, 1), some (0, ((κ : Int) + 1)), none]) ⟨Or.inr rfl, ⟨Or.inr rfl, ⟨Or.inr rfl, ⟨Or.inr rfl, ⟨Or.inr rfl, ⟨Or.inl rfl, trivial⟩⟩⟩⟩⟩⟩ ?_
                  have hb : ¬ bbad f κ := by unfold bbad; omega
                  have hw := bw_up h1 hb
                  exact ih (yset τ 562 op (κ : Int)) (κ + 1) (op + 1) 1 (by omega) (by omega) hw (by rw [bo_7 (by omega)]; omega) (bl_7 (by omega)).symm (by rw [h2]; exact ainv_7 h4 (by omega) h1) (fun x y a b => by rw [yne (by omega) rfl]; exact h5 x y a b)
              · exfalso; omega
          · skip
            refine y_iload rfl rfl ?_
            refine y_ifne rfl (fun q56 => ?_) (fun q56 => ?_)
            · skip
              refine y_iload rfl rfl ?_
              refine y_push rfl ?_
              refine y_icne rfl (fun q65 => ?_) (fun q65 => ?_)
              · skip
                refine y_iload rfl rfl ?_
                refine y_push rfl ?_
                refine y_icne rfl (fun q83 => ?_) (fun q83 => ?_)
                · skip
                  refine y_iload rfl rfl ?_
                  refine y_push rfl ?_
                  refine y_icne rfl (fun q129 => ?_) (fun q129 => ?_)
                  · skip
                    refine y_push rfl ?_
                    refine y_istore (L' := [some (2, 547), some (0, m), some (0, op), some (0, 0), some (0, (κ : Int)), some (0, (τ 560 ((25 * m) + (κ : Int))))]) rfl rfl rfl rfl ?_
                    refine y_iinc (L' := [some (2, 547), some (0, m), some (0, op), some (0, 0), some (0, ((κ : Int) + 1)), some (0, (τ 560 ((25 * m) + (κ : Int))))]) rfl rfl rfl rfl rfl (by omega) ?_
                    refine y_goto rfl ?_
                    refine y_forget (M := [some (2, 547), some (0, m), some (0, op), some (0, 0), some (0, ((κ : Int) + 1)), none]) ⟨Or.inr rfl, ⟨Or.inr rfl, ⟨Or.inr rfl, ⟨Or.inr rfl, ⟨Or.inr rfl, ⟨Or.inl rfl, trivial⟩⟩⟩⟩⟩⟩ ?_
                    have hb : ¬ bbad f κ := by unfold bbad; omega
                    have hw := bw_up h1 hb
                    exact ih τ (κ + 1) op 0 (by omega) (by omega) hw (by rw [bo_n (by omega) (by omega)]; exact h2) (bl_n (by omega)).symm (ainv_n h4 (by omega) (by omega)) h5
                  · exfalso; omega
                · skip
                  have w8 : τ 560 (25 * m + κ) = 8 := by omega
                  have gd3 := gd2 (by omega) (by omega)
                  have w9 : τ 562 (op + -1) = bs f κ (bo f κ - 1) := by rw [h2]; exact h4.1 (bo f κ - 1) (by omega) (by omega)
                  refine y_iinc (L' := [some (2, 547), some (0, m), some (0, (op + (-1))), some (0, lt), some (0, (κ : Int)), some (0, (τ 560 ((25 * m) + (κ : Int))))]) rfl rfl rfl rfl rfl (by omega) ?_
                  refine y_aload rfl rfl rfl ?_
                  refine y_gfr (t := 561) rfl rfl (by decide) rfl (by decide) ?_
                  refine y_push rfl ?_
                  refine y_iload rfl rfl ?_
                  refine y_imul (v := (25 * m)) rfl rfl (by omega) ?_
                  refine y_iload rfl rfl ?_
                  refine y_iadd (v := ((25 * m) + (κ : Int))) rfl rfl (by omega) ?_
                  refine y_aload rfl rfl rfl ?_
                  refine y_gfr (t := 562) rfl rfl (by decide) rfl (by decide) ?_
                  refine y_iload rfl rfl ?_
                  refine y_iald (v := (τ 562 (op + (-1)))) (n := 25) rfl rfl (by decide) rfl (by omega) rfl ?_
                  refine y_iast (n := 75) rfl rfl (by decide) rfl (by omega) ?_
                  refine y_aload rfl rfl rfl ?_
                  refine y_gfr (t := 561) rfl rfl (by decide) rfl (by decide) ?_
                  refine y_push rfl ?_
                  refine y_iload rfl rfl ?_
                  refine y_imul (v := (25 * m)) rfl rfl (by omega) ?_
                  refine y_aload rfl rfl rfl ?_
                  refine y_gfr (t := 562) rfl rfl (by decide) rfl (by decide) ?_
                  refine y_iload rfl rfl ?_
                  refine y_iald (v := (τ 562 (op + (-1)))) (n := 25) rfl rfl (by decide) rfl (by omega) (yne (by omega) rfl) ?_
                  refine y_iadd (v := ((25 * m) + (τ 562 (op + (-1))))) rfl rfl (by omega) ?_
                  refine y_iload rfl rfl ?_
                  refine y_iast (n := 75) rfl rfl (by decide) rfl (by omega) ?_
                  refine y_iload rfl rfl ?_
                  refine y_push rfl ?_
                  refine y_icne rfl (fun q129 => ?_) (fun q129 => ?_)
                  · skip
                    refine y_push rfl ?_
                    refine y_istore (L' := [some (2, 547), some (0, m), some (0, (op + (-1))), some (0, 0), some (0, (κ : Int)), some (0, (τ 560 ((25 * m) + (κ : Int))))]) rfl rfl rfl rfl ?_
                    refine y_iinc (L' := [some (2, 547), some (0, m), some (0, (op + (-1))), some (0, 0), some (0, ((κ : Int) + 1)), some (0, (τ 560 ((25 * m) + (κ : Int))))]) rfl rfl rfl rfl rfl (by omega) ?_
                    refine y_goto rfl ?_
                    refine y_forget (M := [some (2, 547), some (0, m), some (0, (op + (-1))), some (0, 0), some (0, ((κ : Int) + 1)), none]) ⟨Or.inr rfl, ⟨Or.inr rfl, ⟨Or.inr rfl, ⟨Or.inr rfl, ⟨Or.inr rfl, ⟨Or.inl rfl, trivial⟩⟩⟩⟩⟩⟩ ?_
                    have hb : ¬ bbad f κ := by unfold bbad; omega
                    have hw := bw_up h1 hb
                    refine ih (yset (yset τ 561 ((25 * m) + (κ : Int)) (τ 562 (op + (-1)))) 561 ((25 * m) + (τ 562 (op + (-1)))) (κ : Int)) (κ + 1) (op + -1) 0 (by omega) (by omega) hw (by rw [bo_8 (by omega)]; omega) (bl_n (by omega)).symm (ainv_8 h4 (by omega) h1 (by omega) (by rw [h2]; rfl)) (fun x y a b => ?_)
                    rw [yne (by omega) rfl, yne (by omega) rfl]; exact h5 x y a b
                  · exfalso; omega
              · skip
                refine y_aload rfl rfl rfl ?_
                refine y_gfr (t := 562) rfl rfl (by decide) rfl (by decide) ?_
                refine y_iload rfl rfl ?_
                refine y_iload rfl rfl ?_
                refine y_iast (n := 25) rfl rfl (by decide) rfl (by omega) ?_
                refine y_iinc (L' := [some (2, 547), some (0, m), some (0, (op + 1)), some (0, lt), some (0, (κ : Int)), some (0, (τ 560 ((25 * m) + (κ : Int))))]) rfl rfl rfl rfl rfl (by omega) ?_
                refine y_iload rfl rfl ?_
                refine y_push rfl ?_
                refine y_icne rfl (fun q83 => ?_) (fun q83 => ?_)
                · skip
                  refine y_iload rfl rfl ?_
                  refine y_push rfl ?_
                  refine y_icne rfl (fun q129 => ?_) (fun q129 => ?_)
                  · exfalso; omega
                  · skip
                    refine y_push rfl ?_
                    refine y_goto rfl ?_
                    refine y_istore (L' := [some (2, 547), some (0, m), some (0, (op + 1)), some (0, 1), some (0, (κ : Int)), some (0, (τ 560 ((25 * m) + (κ : Int))))]) rfl rfl rfl rfl ?_
                    refine y_iinc (L' := [some (2, 547), some (0, m), some (0, (op + 1)), some (0, 1), some (0, ((κ : Int) + 1)), some (0, (τ 560 ((25 * m) + (κ : Int))))]) rfl rfl rfl rfl rfl (by omega) ?_
                    refine y_goto rfl ?_
                    refine y_forget (M := [some (2, 547), some (0, m), some (0, (op + 1)), some (0, 1), some (0, ((κ : Int) + 1)), none]) ⟨Or.inr rfl, ⟨Or.inr rfl, ⟨Or.inr rfl, ⟨Or.inr rfl, ⟨Or.inr rfl, ⟨Or.inl rfl, trivial⟩⟩⟩⟩⟩⟩ ?_
                    have hb : ¬ bbad f κ := by unfold bbad; omega
                    have hw := bw_up h1 hb
                    exact ih (yset τ 562 op (κ : Int)) (κ + 1) (op + 1) 1 (by omega) (by omega) hw (by rw [bo_7 (by omega)]; omega) (bl_7 (by omega)).symm (by rw [h2]; exact ainv_7 h4 (by omega) h1) (fun x y a b => by rw [yne (by omega) rfl]; exact h5 x y a b)
                · exfalso; omega
            · skip
              refine y_push rfl ?_
              refine y_zret rfl rfl (by decide) ⟨_, rfl, ?_⟩
              have hb : bbad f κ := by unfold bbad; omega
              have h9 := bw_bad h1 hb
              have hw := bw_stay (f := f) (k := κ + 1) (by omega) n.toNat (by omega)
              exact ⟨Or.inr ⟨rfl, by unfold bflaw; rw [if_pos (by omega)]; omega⟩, h5⟩
      · skip
        refine y_push rfl ?_
        refine y_goto rfl ?_
        refine y_icne rfl (fun q45 => ?_) (fun q45 => ?_)
        · skip
          refine y_push rfl ?_
          refine y_zret rfl rfl (by decide) ⟨_, rfl, ?_⟩
          have hb : bbad f κ := by unfold bbad; omega
          have h9 := bw_bad h1 hb
          have hw := bw_stay (f := f) (k := κ + 1) (by omega) n.toNat (by omega)
          exact ⟨Or.inr ⟨rfl, by unfold bflaw; rw [if_pos (by omega)]; omega⟩, h5⟩
        · skip
          refine y_iload rfl rfl ?_
          refine y_push rfl ?_
          refine y_icne rfl (fun q52 => ?_) (fun q52 => ?_)
          · skip
            refine y_iload rfl rfl ?_
            refine y_push rfl ?_
            refine y_icne rfl (fun q65 => ?_) (fun q65 => ?_)
            · skip
              refine y_iload rfl rfl ?_
              refine y_push rfl ?_
              refine y_icne rfl (fun q83 => ?_) (fun q83 => ?_)
              · skip
                refine y_iload rfl rfl ?_
                refine y_push rfl ?_
                refine y_icne rfl (fun q129 => ?_) (fun q129 => ?_)
                · skip
                  refine y_push rfl ?_
                  refine y_istore (L' := [some (2, 547), some (0, m), some (0, op), some (0, 0), some (0, (κ : Int)), some (0, (τ 560 ((25 * m) + (κ : Int))))]) rfl rfl rfl rfl ?_
                  refine y_iinc (L' := [some (2, 547), some (0, m), some (0, op), some (0, 0), some (0, ((κ : Int) + 1)), some (0, (τ 560 ((25 * m) + (κ : Int))))]) rfl rfl rfl rfl rfl (by omega) ?_
                  refine y_goto rfl ?_
                  refine y_forget (M := [some (2, 547), some (0, m), some (0, op), some (0, 0), some (0, ((κ : Int) + 1)), none]) ⟨Or.inr rfl, ⟨Or.inr rfl, ⟨Or.inr rfl, ⟨Or.inr rfl, ⟨Or.inr rfl, ⟨Or.inl rfl, trivial⟩⟩⟩⟩⟩⟩ ?_
                  have hb : ¬ bbad f κ := by unfold bbad; omega
                  have hw := bw_up h1 hb
                  exact ih τ (κ + 1) op 0 (by omega) (by omega) hw (by rw [bo_n (by omega) (by omega)]; exact h2) (bl_n (by omega)).symm (ainv_n h4 (by omega) (by omega)) h5
                · exfalso; omega
              · skip
                have w8 : τ 560 (25 * m + κ) = 8 := by omega
                have gd3 := gd2 (by omega) (by omega)
                have w9 : τ 562 (op + -1) = bs f κ (bo f κ - 1) := by rw [h2]; exact h4.1 (bo f κ - 1) (by omega) (by omega)
                refine y_iinc (L' := [some (2, 547), some (0, m), some (0, (op + (-1))), some (0, lt), some (0, (κ : Int)), some (0, (τ 560 ((25 * m) + (κ : Int))))]) rfl rfl rfl rfl rfl (by omega) ?_
                refine y_aload rfl rfl rfl ?_
                refine y_gfr (t := 561) rfl rfl (by decide) rfl (by decide) ?_
                refine y_push rfl ?_
                refine y_iload rfl rfl ?_
                refine y_imul (v := (25 * m)) rfl rfl (by omega) ?_
                refine y_iload rfl rfl ?_
                refine y_iadd (v := ((25 * m) + (κ : Int))) rfl rfl (by omega) ?_
                refine y_aload rfl rfl rfl ?_
                refine y_gfr (t := 562) rfl rfl (by decide) rfl (by decide) ?_
                refine y_iload rfl rfl ?_
                refine y_iald (v := (τ 562 (op + (-1)))) (n := 25) rfl rfl (by decide) rfl (by omega) rfl ?_
                refine y_iast (n := 75) rfl rfl (by decide) rfl (by omega) ?_
                refine y_aload rfl rfl rfl ?_
                refine y_gfr (t := 561) rfl rfl (by decide) rfl (by decide) ?_
                refine y_push rfl ?_
                refine y_iload rfl rfl ?_
                refine y_imul (v := (25 * m)) rfl rfl (by omega) ?_
                refine y_aload rfl rfl rfl ?_
                refine y_gfr (t := 562) rfl rfl (by decide) rfl (by decide) ?_
                refine y_iload rfl rfl ?_
                refine y_iald (v := (τ 562 (op + (-1)))) (n := 25) rfl rfl (by decide) rfl (by omega) (yne (by omega) rfl) ?_
                refine y_iadd (v := ((25 * m) + (τ 562 (op + (-1))))) rfl rfl (by omega) ?_
                refine y_iload rfl rfl ?_
                refine y_iast (n := 75) rfl rfl (by decide) rfl (by omega) ?_
                refine y_iload rfl rfl ?_
                refine y_push rfl ?_
                refine y_icne rfl (fun q129 => ?_) (fun q129 => ?_)
                · skip
                  refine y_push rfl ?_
                  refine y_istore (L' := [some (2, 547), some (0, m), some (0, (op + (-1))), some (0, 0), some (0, (κ : Int)), some (0, (τ 560 ((25 * m) + (κ : Int))))]) rfl rfl rfl rfl ?_
                  refine y_iinc (L' := [some (2, 547), some (0, m), some (0, (op + (-1))), some (0, 0), some (0, ((κ : Int) + 1)), some (0, (τ 560 ((25 * m) + (κ : Int))))]) rfl rfl rfl rfl rfl (by omega) ?_
                  refine y_goto rfl ?_
                  refine y_forget (M := [some (2, 547), some (0, m), some (0, (op + (-1))), some (0, 0), some (0, ((κ : Int) + 1)), none]) ⟨Or.inr rfl, ⟨Or.inr rfl, ⟨Or.inr rfl, ⟨Or.inr rfl, ⟨Or.inr rfl, ⟨Or.inl rfl, trivial⟩⟩⟩⟩⟩⟩ ?_
                  have hb : ¬ bbad f κ := by unfold bbad; omega
                  have hw := bw_up h1 hb
                  refine ih (yset (yset τ 561 ((25 * m) + (κ : Int)) (τ 562 (op + (-1)))) 561 ((25 * m) + (τ 562 (op + (-1)))) (κ : Int)) (κ + 1) (op + -1) 0 (by omega) (by omega) hw (by rw [bo_8 (by omega)]; omega) (bl_n (by omega)).symm (ainv_8 h4 (by omega) h1 (by omega) (by rw [h2]; rfl)) (fun x y a b => ?_)
                  rw [yne (by omega) rfl, yne (by omega) rfl]; exact h5 x y a b
                · exfalso; omega
            · skip
              refine y_aload rfl rfl rfl ?_
              refine y_gfr (t := 562) rfl rfl (by decide) rfl (by decide) ?_
              refine y_iload rfl rfl ?_
              refine y_iload rfl rfl ?_
              refine y_iast (n := 25) rfl rfl (by decide) rfl (by omega) ?_
              refine y_iinc (L' := [some (2, 547), some (0, m), some (0, (op + 1)), some (0, lt), some (0, (κ : Int)), some (0, (τ 560 ((25 * m) + (κ : Int))))]) rfl rfl rfl rfl rfl (by omega) ?_
              refine y_iload rfl rfl ?_
              refine y_push rfl ?_
              refine y_icne rfl (fun q83 => ?_) (fun q83 => ?_)
              · skip
                refine y_iload rfl rfl ?_
                refine y_push rfl ?_
                refine y_icne rfl (fun q129 => ?_) (fun q129 => ?_)
                · exfalso; omega
                · skip
                  refine y_push rfl ?_
                  refine y_goto rfl ?_
                  refine y_istore (L' := [some (2, 547), some (0, m), some (0, (op + 1)), some (0, 1), some (0, (κ : Int)), some (0, (τ 560 ((25 * m) + (κ : Int))))]) rfl rfl rfl rfl ?_
                  refine y_iinc (L' := [some (2, 547), some (0, m), some (0, (op + 1)), some (0, 1), some (0, ((κ : Int) + 1)), some (0, (τ 560 ((25 * m) + (κ : Int))))]) rfl rfl rfl rfl rfl (by omega) ?_
                  refine y_goto rfl ?_
                  refine y_forget (M := [some (2, 547), some (0, m), some (0, (op + 1)), some (0, 1), some (0, ((κ : Int) + 1)), none]) ⟨Or.inr rfl, ⟨Or.inr rfl, ⟨Or.inr rfl, ⟨Or.inr rfl, ⟨Or.inr rfl, ⟨Or.inl rfl, trivial⟩⟩⟩⟩⟩⟩ ?_
                  have hb : ¬ bbad f κ := by unfold bbad; omega
                  have hw := bw_up h1 hb
                  exact ih (yset τ 562 op (κ : Int)) (κ + 1) (op + 1) 1 (by omega) (by omega) hw (by rw [bo_7 (by omega)]; omega) (bl_7 (by omega)).symm (by rw [h2]; exact ainv_7 h4 (by omega) h1) (fun x y a b => by rw [yne (by omega) rfl]; exact h5 x y a b)
              · exfalso; omega
          · skip
            refine y_iload rfl rfl ?_
            refine y_ifne rfl (fun q56 => ?_) (fun q56 => ?_)
            · skip
              refine y_iload rfl rfl ?_
              refine y_push rfl ?_
              refine y_icne rfl (fun q65 => ?_) (fun q65 => ?_)
              · skip
                refine y_iload rfl rfl ?_
                refine y_push rfl ?_
                refine y_icne rfl (fun q83 => ?_) (fun q83 => ?_)
                · skip
                  refine y_iload rfl rfl ?_
                  refine y_push rfl ?_
                  refine y_icne rfl (fun q129 => ?_) (fun q129 => ?_)
                  · skip
                    refine y_push rfl ?_
                    refine y_istore (L' := [some (2, 547), some (0, m), some (0, op), some (0, 0), some (0, (κ : Int)), some (0, (τ 560 ((25 * m) + (κ : Int))))]) rfl rfl rfl rfl ?_
                    refine y_iinc (L' := [some (2, 547), some (0, m), some (0, op), some (0, 0), some (0, ((κ : Int) + 1)), some (0, (τ 560 ((25 * m) + (κ : Int))))]) rfl rfl rfl rfl rfl (by omega) ?_
                    refine y_goto rfl ?_
                    refine y_forget (M := [some (2, 547), some (0, m), some (0, op), some (0, 0), some (0, ((κ : Int) + 1)), none]) ⟨Or.inr rfl, ⟨Or.inr rfl, ⟨Or.inr rfl, ⟨Or.inr rfl, ⟨Or.inr rfl, ⟨Or.inl rfl, trivial⟩⟩⟩⟩⟩⟩ ?_
                    have hb : ¬ bbad f κ := by unfold bbad; omega
                    have hw := bw_up h1 hb
                    exact ih τ (κ + 1) op 0 (by omega) (by omega) hw (by rw [bo_n (by omega) (by omega)]; exact h2) (bl_n (by omega)).symm (ainv_n h4 (by omega) (by omega)) h5
                  · exfalso; omega
                · skip
                  have w8 : τ 560 (25 * m + κ) = 8 := by omega
                  have gd3 := gd2 (by omega) (by omega)
                  have w9 : τ 562 (op + -1) = bs f κ (bo f κ - 1) := by rw [h2]; exact h4.1 (bo f κ - 1) (by omega) (by omega)
                  refine y_iinc (L' := [some (2, 547), some (0, m), some (0, (op + (-1))), some (0, lt), some (0, (κ : Int)), some (0, (τ 560 ((25 * m) + (κ : Int))))]) rfl rfl rfl rfl rfl (by omega) ?_
                  refine y_aload rfl rfl rfl ?_
                  refine y_gfr (t := 561) rfl rfl (by decide) rfl (by decide) ?_
                  refine y_push rfl ?_
                  refine y_iload rfl rfl ?_
                  refine y_imul (v := (25 * m)) rfl rfl (by omega) ?_
                  refine y_iload rfl rfl ?_
                  refine y_iadd (v := ((25 * m) + (κ : Int))) rfl rfl (by omega) ?_
                  refine y_aload rfl rfl rfl ?_
                  refine y_gfr (t := 562) rfl rfl (by decide) rfl (by decide) ?_
                  refine y_iload rfl rfl ?_
                  refine y_iald (v := (τ 562 (op + (-1)))) (n := 25) rfl rfl (by decide) rfl (by omega) rfl ?_
                  refine y_iast (n := 75) rfl rfl (by decide) rfl (by omega) ?_
                  refine y_aload rfl rfl rfl ?_
                  refine y_gfr (t := 561) rfl rfl (by decide) rfl (by decide) ?_
                  refine y_push rfl ?_
                  refine y_iload rfl rfl ?_
                  refine y_imul (v := (25 * m)) rfl rfl (by omega) ?_
                  refine y_aload rfl rfl rfl ?_
                  refine y_gfr (t := 562) rfl rfl (by decide) rfl (by decide) ?_
                  refine y_iload rfl rfl ?_
                  refine y_iald (v := (τ 562 (op + (-1)))) (n := 25) rfl rfl (by decide) rfl (by omega) (yne (by omega) rfl) ?_
                  refine y_iadd (v := ((25 * m) + (τ 562 (op + (-1))))) rfl rfl (by omega) ?_
                  refine y_iload rfl rfl ?_
                  refine y_iast (n := 75) rfl rfl (by decide) rfl (by omega) ?_
                  refine y_iload rfl rfl ?_
                  refine y_push rfl ?_
                  refine y_icne rfl (fun q129 => ?_) (fun q129 => ?_)
                  · skip
                    refine y_push rfl ?_
                    refine y_istore (L' := [some (2, 547), some (0, m), some (0, (op + (-1))), some (0, 0), some (0, (κ : Int)), some (0, (τ 560 ((25 * m) + (κ : Int))))]) rfl rfl rfl rfl ?_
                    refine y_iinc (L' := [some (2, 547), some (0, m), some (0, (op + (-1))), some (0, 0), some (0, ((κ : Int) + 1)), some (0, (τ 560 ((25 * m) + (κ : Int))))]) rfl rfl rfl rfl rfl (by omega) ?_
                    refine y_goto rfl ?_
                    refine y_forget (M := [some (2, 547), some (0, m), some (0, (op + (-1))), some (0, 0), some (0, ((κ : Int) + 1)), none]) ⟨Or.inr rfl, ⟨Or.inr rfl, ⟨Or.inr rfl, ⟨Or.inr rfl, ⟨Or.inr rfl, ⟨Or.inl rfl, trivial⟩⟩⟩⟩⟩⟩ ?_
                    have hb : ¬ bbad f κ := by unfold bbad; omega
                    have hw := bw_up h1 hb
                    refine ih (yset (yset τ 561 ((25 * m) + (κ : Int)) (τ 562 (op + (-1)))) 561 ((25 * m) + (τ 562 (op + (-1)))) (κ : Int)) (κ + 1) (op + -1) 0 (by omega) (by omega) hw (by rw [bo_8 (by omega)]; omega) (bl_n (by omega)).symm (ainv_8 h4 (by omega) h1 (by omega) (by rw [h2]; rfl)) (fun x y a b => ?_)
                    rw [yne (by omega) rfl, yne (by omega) rfl]; exact h5 x y a b
                  · exfalso; omega
              · skip
                refine y_aload rfl rfl rfl ?_
                refine y_gfr (t := 562) rfl rfl (by decide) rfl (by decide) ?_
                refine y_iload rfl rfl ?_
                refine y_iload rfl rfl ?_
                refine y_iast (n := 25) rfl rfl (by decide) rfl (by omega) ?_
                refine y_iinc (L' := [some (2, 547), some (0, m), some (0, (op + 1)), some (0, lt), some (0, (κ : Int)), some (0, (τ 560 ((25 * m) + (κ : Int))))]) rfl rfl rfl rfl rfl (by omega) ?_
                refine y_iload rfl rfl ?_
                refine y_push rfl ?_
                refine y_icne rfl (fun q83 => ?_) (fun q83 => ?_)
                · skip
                  refine y_iload rfl rfl ?_
                  refine y_push rfl ?_
                  refine y_icne rfl (fun q129 => ?_) (fun q129 => ?_)
                  · exfalso; omega
                  · skip
                    refine y_push rfl ?_
                    refine y_goto rfl ?_
                    refine y_istore (L' := [some (2, 547), some (0, m), some (0, (op + 1)), some (0, 1), some (0, (κ : Int)), some (0, (τ 560 ((25 * m) + (κ : Int))))]) rfl rfl rfl rfl ?_
                    refine y_iinc (L' := [some (2, 547), some (0, m), some (0, (op + 1)), some (0, 1), some (0, ((κ : Int) + 1)), some (0, (τ 560 ((25 * m) + (κ : Int))))]) rfl rfl rfl rfl rfl (by omega) ?_
                    refine y_goto rfl ?_
                    refine y_forget (M := [some (2, 547), some (0, m), some (0, (op + 1)), some (0, 1), some (0, ((κ : Int) + 1)), none]) ⟨Or.inr rfl, ⟨Or.inr rfl, ⟨Or.inr rfl, ⟨Or.inr rfl, ⟨Or.inr rfl, ⟨Or.inl rfl, trivial⟩⟩⟩⟩⟩⟩ ?_
                    have hb : ¬ bbad f κ := by unfold bbad; omega
                    have hw := bw_up h1 hb
                    exact ih (yset τ 562 op (κ : Int)) (κ + 1) (op + 1) 1 (by omega) (by omega) hw (by rw [bo_7 (by omega)]; omega) (bl_7 (by omega)).symm (by rw [h2]; exact ainv_7 h4 (by omega) h1) (fun x y a b => by rw [yne (by omega) rfl]; exact h5 x y a b)
                · exfalso; omega
            · skip
              refine y_push rfl ?_
              refine y_zret rfl rfl (by decide) ⟨_, rfl, ?_⟩
              have hb : bbad f κ := by unfold bbad; omega
              have h9 := bw_bad h1 hb
              have hw := bw_stay (f := f) (k := κ + 1) (by omega) n.toNat (by omega)
              exact ⟨Or.inr ⟨rfl, by unfold bflaw; rw [if_pos (by omega)]; omega⟩, h5⟩
theorem m_layAgainst {g : Launch × XG × va_G} {σ : YS} {m n : Int} {f : Int → Int} (hm : 0 ≤ m ∧ m < 3) (hs : σ 559 m = n) (hn : 0 ≤ n ∧ n ≤ 24) (hf : ∀ k, 0 ≤ k → k < n → σ 560 (25 * m + k) = f k) : YI g 57 [(2, 547), (0, m)] σ (fun b σ' => ((b = 1 ∧ bflaw f n.toNat = -1 ∧ ∀ k, 0 ≤ k → k < n → f k = 7 ∨ f k = 8 → σ' 561 (25 * m + k) = bp f n.toNat k) ∨ (b = 0 ∧ bflaw f n.toNat ≠ -1)) ∧ (∀ x y, x ≠ 562 → (x ≠ 561 ∨ y < 25 * m ∨ 25 * m + 24 < y) → σ' x y = σ x y)) := by
  refine y_start rfl rfl rfl ?_
  refine y_push rfl ?_
  refine y_istore (L' := [some (2, 547), some (0, m), some (0, 0), none, none, none]) rfl rfl rfl rfl ?_
  refine y_push rfl ?_
  refine y_istore (L' := [some (2, 547), some (0, m), some (0, 0), some (0, 0), none, none]) rfl rfl rfl rfl ?_
  refine y_push rfl ?_
  refine y_istore (L' := [some (2, 547), some (0, m), some (0, 0), some (0, 0), some (0, 0), none]) rfl rfl rfl rfl ?_
  exact l_layAgainst hm hs hn hf (n.toNat + 1) σ 0 0 0 (by omega) (by omega) rfl rfl rfl ainv_0 (fun x y _ _ => rfl)
