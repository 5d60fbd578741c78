/-- one man alone is there -/
theorem rm_there {σ : YS} {E D : YS} {v : Int} (h3 : E 1 0 ≤ 3) (h : rm σ E D) : rm (yset σ 547 19 v) (yset E 6 0 v) D := by
  obtain ⟨⟨h1, h2, h4⟩, h5, h6, h7⟩ := h
  have g : ∀ r c, r ≠ 6 → yset E 6 0 v r c = E r c := fun r c a => yne (by omega) rfl
  refine ⟨⟨by rw [yne (by omega) rfl, g _ _ (by omega)]; exact h1, by rw [yne (by omega) rfl, g _ _ (by omega)]; exact h2, by rw [yne (by omega) rfl]; exact h4⟩, fun c a b => by rw [yne (by omega) rfl]; exact h5 c a b, fun i a b => ?_, fun q a b => ?_⟩
  · rw [g _ _ (by omega)] at b
    obtain ⟨⟨g1, g2, g3, g4⟩, ⟨g5, g6⟩, g7, g8⟩ := h6 i a b
    have m1 : msg (yset E 6 0 v) i = msg E i := by funext k; exact g _ _ (by omega)
    unfold rmi mpa mlen
    rw [m1, g 3 i (by omega), g 2 i (by omega)]
    exact ⟨⟨by rw [yne (by omega) rfl]; exact g1, by rw [yne (by omega) rfl]; exact g2, by rw [yne (by omega) rfl]; exact g3, by rw [yne (by omega) rfl]; exact g4⟩, ⟨by rw [yne (by omega) rfl]; exact g5, by rw [yne (by omega) rfl]; exact g6⟩, fun k a b => by rw [yne (by omega) rfl]; exact g7 k a b, fun z k a b c => by rw [yne (by omega) rfl]; exact g8 z k a b c⟩
  · unfold mth
    rw [yeq, yeq]
theorem eG_there {E : YS} {v : Int} (h : eG E) : eG (yset E 6 0 v) := by
  have g : ∀ r c, r ≠ 6 → yset E 6 0 v r c = E r c := fun r c a => yne (by omega) rfl
  have := h.2.1
  unfold eG
  rw [g _ _ (by omega), g 1 0 (by omega)]
  exact ⟨h.1, h.2.1, fun i a b => eGm_E (h.2.2 i a b) (g _ _ (by omega)) (g _ _ (by omega)) (fun k _ _ => g _ _ (by omega))⟩
theorem dG_there {E D : YS} {v : Int} (he : eG E) (h : dG E D) : dG (yset E 6 0 v) D := by
  have g : ∀ r c, r ≠ 6 → yset E 6 0 v r c = E r c := fun r c a => yne (by omega) rfl
  have := he.2.1
  unfold dG
  rw [g 1 0 (by omega)]
  exact ⟨h.1, fun i a b => dGm_E (h.2 i a b) (by rw [g _ _ (by omega)]; omega) (g _ _ (by omega)) (fun k _ _ => g _ _ (by omega)) (fun _ _ _ => rfl)⟩
def gdf (base code n : Int) : Int → Int := fun k => gd base code (n - 1 - k).toNat % base
def sdE (E : YS) (m q code : Int) : YS := slpE (yset E 6 0 (yshl 1 m)) m (gdf 5 code q) q
def sdD (D : YS) (m : Int) : YS := slpD D m 0 0
/-- whether the slip of a code leads the man through the cells told -/
def sdk (E D : YS) (m q code : Int) : Nat → Int
  | 0 => 1
  | k + 1 => if sdk E D m q code k = 1 ∧ msteps (sdE E m q code) (sdD D m) (k + 1) 1 m = E 7 k then 1 else 0
theorem sdk_r (E D : YS) (m q code : Int) : ∀ k : Nat, sdk E D m q code k = 0 ∨ sdk E D m q code k = 1
  | 0 => Or.inr rfl
  | k + 1 => by unfold sdk; split; exact Or.inr rfl; exact Or.inl rfl
theorem sdk_0 {E D : YS} {m q code : Int} {k : Nat} (h : sdk E D m q code k = 0) : ∀ n : Nat, k ≤ n → sdk E D m q code n = 0
  | 0, hn => by have : k = 0 := by omega
                subst this; exact h
  | n + 1, hn => by
    by_cases e : k = n + 1
    · subst e; exact h
    · have := sdk_0 h n (by omega)
      show (if _ then (1 : Int) else 0) = 0
      rw [if_neg (fun z => by omega)]
def cn (f : Int → Int) : Nat → Int
  | 0 => 0
  | n + 1 => cn f n + f n
def ksaidM (Z : YZ) (M : YS) (m q : Int) : YK := if (0 ≤ m ∧ m < Z 0 1 0) ∧ (1 ≤ q ∧ q ≤ 4) then (cn (fun code => sdk (Z 0) (Z 1) m q code q.toNat) (m5 q.toNat).toNat, Z, M) else (-2, Z, bump M 0)
theorem m5_s {i : Int} (h : 0 ≤ i) : m5 (i + 1).toNat = m5 i.toNat * 5 := by
  rw [show (i + 1).toNat = i.toNat + 1 by omega]
  rfl
theorem m5_p : ∀ n : Nat, 0 < m5 n
  | 0 => by unfold m5; omega
  | n + 1 => by have := m5_p n; unfold m5; omega
theorem cn_r {f : Int → Int} (hf : ∀ k, f k = 0 ∨ f k = 1) : ∀ n : Nat, 0 ≤ cn f n ∧ cn f n ≤ n
  | 0 => by unfold cn; omega
  | n + 1 => by have := cn_r hf n; have := hf n; unfold cn; omega
theorem cn_s {f : Int → Int} {k : Int} (h : 0 ≤ k) : cn f (k + 1).toNat = cn f k.toNat + f k := by
  rw [show (k + 1).toNat = k.toNat + 1 by omega]
  show cn f k.toNat + f (k.toNat : Int) = _
  rw [show ((k.toNat : Nat) : Int) = k by omega]
theorem lm_said3 {g : Launch × XG × va_G} {σ : YS} {Z : YZ} {I : Int → YZ} {M : YS} {N : Int} {m q : Int} {code n : Int} {nn0 : Nat} (ihO : ∀ (τ : YS) (code n : Int), (m5 q.toNat) - code < (nn0 : Int) → (0 ≤ code ∧ code ≤ (m5 q.toNat)) → mfs σ τ → (n = cn (fun code => sdk (Z 0) (Z 1) m q code q.toNat) code.toNat) → YW g 90 53 [some (2, 547), some (0, m), some (0, q), some (0, (m5 q.toNat)), some (0, n), some (0, code), none, none] [] τ (fun rv σ' => ∃ b, rv = some (0, b) ∧ (b = (ksaidM Z M m q).1 ∧ mW σ' (ksaidM Z M m q).2.1 I (ksaidM Z M m q).2.2 ∧ cfr σ σ'))) (hx : mW σ Z I M) (hg : wG Z I M N) (hN : N < 100000) (hm : (0 ≤ m ∧ m < Z 0 1 0) ∧ (1 ≤ q ∧ q ≤ 4)) (hcd : 0 ≤ code ∧ code < (m5 q.toNat)) (hn0 : n = cn (fun code => sdk (Z 0) (Z 1) m q code q.toNat) code.toNat) (hnn : (m5 q.toNat) - code < (nn0 : Int) + 1) (g1 : eG (sdE (Z 0) m q code)) (g2 : dG (sdE (Z 0) m q code) (sdD (Z 1) m)) : ∀ (nn : Nat) (τ : YS) (k : Int) (is : Int), q - k < (nn : Int) → (0 ≤ k ∧ k ≤ q) → (rm τ (sdE (Z 0) m q code) (msteps (sdE (Z 0) m q code) (sdD (Z 1) m) k.toNat)) → (mfs σ τ) → (is = sdk (Z 0) (Z 1) m q code k.toNat) → (is = 0 ∨ is = 1) → YW g 90 85 [some (2, 547), some (0, m), some (0, q), some (0, (m5 q.toNat)), some (0, n), some (0, code), some (0, is), some (0, k)] [] τ (fun rv σ' => ∃ b, rv = some (0, b) ∧ (b = (ksaidM Z M m q).1 ∧ mW σ' (ksaidM Z M m q).2.1 I (ksaidM Z M m q).2.2 ∧ cfr σ σ')) := by
  intro nn
  induction nn with
  | zero =>
    intro τ k is hn h0 h1 h2 h3 h4
    exfalso
    omega
  | succ nn ih =>
    intro τ k is hn h0 h1 h2 h3 h4
    have e2 := hg.1.1.2.1
    have hn5 := hg.1.2.2.1
    have m5r := m5_r (i := q) (by omega)
    have cr := cn_r (f := (fun code => sdk (Z 0) (Z 1) m q code q.toNat)) (fun k => sdk_r _ _ _ _ _ _) code.toNat
    have e1m : (sdE (Z 0) m q code) 1 0 = Z 0 1 0 := by unfold sdE; rw [slpE_g (by omega) (by omega), yne (by omega) rfl]
    refine y_iload rfl rfl ?_
    refine y_iload rfl rfl ?_
    refine y_icge rfl (fun q88 => ?_) (fun q88 => ?_)
    · skip
      refine y_iload rfl rfl ?_
      refine y_iload rfl rfl ?_
      refine y_ifeq rfl (fun q137 => ?_) (fun q137 => ?_)
      · skip
        refine y_push rfl ?_
        refine y_iadd (v := (n + 0)) rfl rfl (by omega) ?_
        refine y_istore (L' := [some (2, 547), some (0, m), some (0, q), some (0, (m5 q.toNat)), some (0, (n + 0)), some (0, code), some (0, is), some (0, k)]) rfl rfl rfl rfl ?_
        refine y_iinc (L' := [some (2, 547), some (0, m), some (0, q), some (0, (m5 q.toNat)), some (0, (n + 0)), some (0, (code + 1)), some (0, is), some (0, k)]) rfl rfl rfl rfl rfl (by omega) ?_
        refine y_goto rfl ?_
        have hq_ : sdk (Z 0) (Z 1) m q code q.toNat = 0 := by
          first
            | (rw [show q.toNat = k.toNat by omega, ← h3]; omega)
            | exact sdk_0 (k := k.toNat) (by omega) _ (by omega)
        refine y_forget (M := [some (2, 547), some (0, m), some (0, q), some (0, (m5 q.toNat)), some (0, (n + 0)), some (0, (code + 1)), none, none]) ⟨Or.inr rfl, Or.inr rfl, Or.inr rfl, Or.inr rfl, Or.inr rfl, Or.inr rfl, Or.inl rfl, Or.inl rfl, trivial⟩ ?_
        refine ihO τ (code + 1) _ (by omega) (by omega) h2 ?_
        rw [cn_s (by omega), ← hn0, hq_]
      · skip
        refine y_push rfl ?_
        refine y_goto rfl ?_
        refine y_iadd (v := (n + 1)) rfl rfl (by omega) ?_
        refine y_istore (L' := [some (2, 547), some (0, m), some (0, q), some (0, (m5 q.toNat)), some (0, (n + 1)), some (0, code), some (0, is), some (0, k)]) rfl rfl rfl rfl ?_
        refine y_iinc (L' := [some (2, 547), some (0, m), some (0, q), some (0, (m5 q.toNat)), some (0, (n + 1)), some (0, (code + 1)), some (0, is), some (0, k)]) rfl rfl rfl rfl rfl (by omega) ?_
        refine y_goto rfl ?_
        have hq_ : sdk (Z 0) (Z 1) m q code q.toNat = 1 := by
          first
            | (rw [show q.toNat = k.toNat by omega, ← h3]; omega)
            | exact sdk_0 (k := k.toNat) (by omega) _ (by omega)
        refine y_forget (M := [some (2, 547), some (0, m), some (0, q), some (0, (m5 q.toNat)), some (0, (n + 1)), some (0, (code + 1)), none, none]) ⟨Or.inr rfl, Or.inr rfl, Or.inr rfl, Or.inr rfl, Or.inr rfl, Or.inr rfl, Or.inl rfl, Or.inl rfl, trivial⟩ ?_
        refine ihO τ (code + 1) _ (by omega) (by omega) h2 ?_
        rw [cn_s (by omega), ← hn0, hq_]
    · skip
      refine y_iload rfl rfl ?_
      refine y_ifeq rfl (fun q93 => ?_) (fun q93 => ?_)
      · skip
        refine y_iload rfl rfl ?_
        refine y_iload rfl rfl ?_
        refine y_ifeq rfl (fun q137 => ?_) (fun q137 => ?_)
        · skip
          refine y_push rfl ?_
          refine y_iadd (v := (n + 0)) rfl rfl (by omega) ?_
          refine y_istore (L' := [some (2, 547), some (0, m), some (0, q), some (0, (m5 q.toNat)), some (0, (n + 0)), some (0, code), some (0, is), some (0, k)]) rfl rfl rfl rfl ?_
          refine y_iinc (L' := [some (2, 547), some (0, m), some (0, q), some (0, (m5 q.toNat)), some (0, (n + 0)), some (0, (code + 1)), some (0, is), some (0, k)]) rfl rfl rfl rfl rfl (by omega) ?_
          refine y_goto rfl ?_
          have hq_ : sdk (Z 0) (Z 1) m q code q.toNat = 0 := by
            first
              | (rw [show q.toNat = k.toNat by omega, ← h3]; omega)
              | exact sdk_0 (k := k.toNat) (by omega) _ (by omega)
          refine y_forget (M := [some (2, 547), some (0, m), some (0, q), some (0, (m5 q.toNat)), some (0, (n + 0)), some (0, (code + 1)), none, none]) ⟨Or.inr rfl, Or.inr rfl, Or.inr rfl, Or.inr rfl, Or.inr rfl, Or.inr rfl, Or.inl rfl, Or.inl rfl, trivial⟩ ?_
          refine ihO τ (code + 1) _ (by omega) (by omega) h2 ?_
          rw [cn_s (by omega), ← hn0, hq_]
        · skip
          refine y_push rfl ?_
          refine y_goto rfl ?_
          refine y_iadd (v := (n + 1)) rfl rfl (by omega) ?_
          refine y_istore (L' := [some (2, 547), some (0, m), some (0, q), some (0, (m5 q.toNat)), some (0, (n + 1)), some (0, code), some (0, is), some (0, k)]) rfl rfl rfl rfl ?_
          refine y_iinc (L' := [some (2, 547), some (0, m), some (0, q), some (0, (m5 q.toNat)), some (0, (n + 1)), some (0, (code + 1)), some (0, is), some (0, k)]) rfl rfl rfl rfl rfl (by omega) ?_
          refine y_goto rfl ?_
          have hq_ : sdk (Z 0) (Z 1) m q code q.toNat = 1 := by
            first
              | (rw [show q.toNat = k.toNat by omega, ← h3]; omega)
              | exact sdk_0 (k := k.toNat) (by omega) _ (by omega)
          refine y_forget (M := [some (2, 547), some (0, m), some (0, q), some (0, (m5 q.toNat)), some (0, (n + 1)), some (0, (code + 1)), none, none]) ⟨Or.inr rfl, Or.inr rfl, Or.inr rfl, Or.inr rfl, Or.inr rfl, Or.inr rfl, Or.inl rfl, Or.inl rfl, trivial⟩ ?_
          refine ihO τ (code + 1) _ (by omega) (by omega) h2 ?_
          rw [cn_s (by omega), ← hn0, hq_]
      · skip
        refine y_aload rfl rfl rfl ?_
        refine y_vi (as := [(2, 547)]) (S := []) rfl rfl rfl rfl rfl rfl (by decide) rfl (m_goStep h1 g1 (dG_steps g2 g1 _) (by rw [msteps_5]; unfold sdD slpD; rw [yne (by omega) rfl, yne (by omega) rfl]; omega)) ?_
        rintro _ s1 ⟨y1, rfl, y2⟩
        refine y_pop rfl rfl ?_
        refine y_aload rfl rfl rfl ?_
        refine y_gfr (t := 555) rfl rfl (by decide) rfl (by decide) ?_
        refine y_iload rfl rfl ?_
        refine y_iald (v := (s1 555 m)) (n := 3) rfl rfl (by decide) rfl (by omega) rfl ?_
        refine y_aload rfl rfl rfl ?_
        refine y_gfr (t := 548) rfl rfl (by decide) rfl (by decide) ?_
        refine y_push rfl ?_
        refine y_iload rfl rfl ?_
        refine y_iadd (v := (101 + k)) rfl rfl (by omega) ?_
        refine y_iald (v := (s1 548 (101 + k))) (n := 2108) rfl rfl (by decide) rfl (by omega) rfl ?_
        refine y_icne rfl (fun q117 => ?_) (fun q117 => ?_)
        · skip
          refine y_push rfl ?_
          refine y_istore (L' := [some (2, 547), some (0, m), some (0, q), some (0, (m5 q.toNat)), some (0, n), some (0, code), some (0, 0), some (0, k)]) rfl rfl rfl rfl ?_
          refine y_iinc (L' := [some (2, 547), some (0, m), some (0, q), some (0, (m5 q.toNat)), some (0, n), some (0, code), some (0, 0), some (0, (k + 1))]) rfl rfl rfl rfl rfl (by omega) ?_
          refine y_goto rfl ?_
          have k1 : (k + 1).toNat = k.toNat + 1 := by omega
          have hsk : sdk (Z 0) (Z 1) m q code (k + 1).toNat = 0 := by
            rw [k1]
            show (if sdk (Z 0) (Z 1) m q code k.toNat = 1 ∧ msteps (sdE (Z 0) m q code) (sdD (Z 1) m) (k.toNat + 1) 1 m = Z 0 7 (k.toNat : Int) then (1 : Int) else 0) = 0
            have w7 : s1 548 (101 + k) = Z 0 7 k := by rw [y2 _ _ (by omega) (by omega), h2 _ _ (by omega)]; have := hx.1.1.2.2.2.2 k (by omega) (by omega); rw [show (0 : Int) + 101 + k = 101 + k by omega] at this; exact this
            have w5 : s1 555 m = msteps (sdE (Z 0) m q code) (sdD (Z 1) m) (k.toNat + 1) 1 m := (y1.2.2.1 m (by omega) (by rw [e1m]; omega)).1.1
            rw [show ((k.toNat : Nat) : Int) = k by omega, ← w5, ← w7]
            exact if_neg (fun z => q117 z.2)
          exact ih s1 (k + 1) _ (by omega) (by omega) (by rw [k1]; exact y1) (mfs_t h2 (rfr_m y2)) hsk.symm (by omega)
        · skip
          refine y_push rfl ?_
          refine y_goto rfl ?_
          refine y_istore (L' := [some (2, 547), some (0, m), some (0, q), some (0, (m5 q.toNat)), some (0, n), some (0, code), some (0, 1), some (0, k)]) rfl rfl rfl rfl ?_
          refine y_iinc (L' := [some (2, 547), some (0, m), some (0, q), some (0, (m5 q.toNat)), some (0, n), some (0, code), some (0, 1), some (0, (k + 1))]) rfl rfl rfl rfl rfl (by omega) ?_
          refine y_goto rfl ?_
          have k1 : (k + 1).toNat = k.toNat + 1 := by omega
          have hsk : sdk (Z 0) (Z 1) m q code (k + 1).toNat = 1 := by
            rw [k1]
            show (if sdk (Z 0) (Z 1) m q code k.toNat = 1 ∧ msteps (sdE (Z 0) m q code) (sdD (Z 1) m) (k.toNat + 1) 1 m = Z 0 7 (k.toNat : Int) then (1 : Int) else 0) = 1
            have w7 : s1 548 (101 + k) = Z 0 7 k := by rw [y2 _ _ (by omega) (by omega), h2 _ _ (by omega)]; have := hx.1.1.2.2.2.2 k (by omega) (by omega); rw [show (0 : Int) + 101 + k = 101 + k by omega] at this; exact this
            have w5 : s1 555 m = msteps (sdE (Z 0) m q code) (sdD (Z 1) m) (k.toNat + 1) 1 m := (y1.2.2.1 m (by omega) (by rw [e1m]; omega)).1.1
            rw [show ((k.toNat : Nat) : Int) = k by omega, ← w5, ← w7]
            exact if_pos ⟨by omega, q117⟩
          exact ih s1 (k + 1) _ (by omega) (by omega) (by rw [k1]; exact y1) (mfs_t h2 (rfr_m y2)) hsk.symm (by omega)
theorem lm_said2 {g : Launch × XG × va_G} {σ : YS} {Z : YZ} {I : Int → YZ} {M : YS} {N : Int} {m q : Int} (hx : mW σ Z I M) (hg : wG Z I M N) (hN : N < 100000) (hm : (0 ≤ m ∧ m < Z 0 1 0) ∧ (1 ≤ q ∧ q ≤ 4)) : ∀ (nn : Nat) (τ : YS) (code : Int) (n : Int), (m5 q.toNat) - code < (nn : Int) → (0 ≤ code ∧ code ≤ (m5 q.toNat)) → (mfs σ τ) → (n = cn (fun code => sdk (Z 0) (Z 1) m q code q.toNat) code.toNat) → YW g 90 53 [some (2, 547), some (0, m), some (0, q), some (0, (m5 q.toNat)), some (0, n), some (0, code), none, none] [] τ (fun rv σ' => ∃ b, rv = some (0, b) ∧ (b = (ksaidM Z M m q).1 ∧ mW σ' (ksaidM Z M m q).2.1 I (ksaidM Z M m q).2.2 ∧ cfr σ σ')) := by
  intro nn
  induction nn with
  | zero =>
    intro τ code n hn h0 h1 h2
    exfalso
    omega
  | succ nn ih =>
    intro τ code n hn h0 h1 h2
    have e2 := hg.1.1.2.1
    have hn5 := hg.1.2.2.1
    have m5r := m5_r (i := q) (by omega)
    refine y_iload rfl rfl ?_
    refine y_iload rfl rfl ?_
    refine y_icge rfl (fun q56 => ?_) (fun q56 => ?_)
    · skip
      refine y_iload rfl rfl ?_
      refine y_iret rfl rfl ⟨_, rfl, ?_⟩
      have hK : ksaidM Z M m q = (cn (fun code => sdk (Z 0) (Z 1) m q code q.toNat) (m5 q.toNat).toNat, Z, M) := if_pos hm
      rw [hK]
      exact ⟨by rw [h2, show code = m5 q.toNat by omega], mW_mfs hg hx h1, fun x y a => h1 x y (by omega)⟩
    · skip
      refine y_aload rfl rfl rfl ?_
      refine y_vu (as := [(2, 547)]) (S := []) rfl rfl rfl rfl rfl rfl (by decide) rfl (m_layNow (mzs_cong hg.1.1 hx.1.1 (fun y a b => h1 548 y (by omega))) hg.1.1 hg.1.2.1 hg.1.2.2.2.2.1.1) ?_
      rintro s1 ⟨l1, l2⟩
      refine y_aload rfl rfl rfl ?_
      refine y_push rfl ?_
      refine y_iload rfl rfl ?_
      refine y_ishl (v := (yshl 1 m)) rfl rfl ?_
      refine y_pfi (j := 19) rfl rfl (by decide) rfl rfl rfl rfl rfl ?_
      refine y_aload rfl rfl rfl ?_
      refine y_iload rfl rfl ?_
      refine y_iload rfl rfl ?_
      refine y_iload rfl rfl ?_
      refine y_push rfl ?_
      refine y_vu (as := [(2, 547), (0, m), (0, q), (0, code), (0, 5)]) (S := []) rfl rfl rfl rfl rfl rfl (by decide) rfl (m_gives (m := m) (n := q) (code := code) (base := 5) (by omega) (by omega) (by omega) (by omega)) ?_
      rintro s2 ⟨v1, v2, v3, v4, v5⟩
      have gr : ∀ k, 0 ≤ gdf 5 code q k ∧ gdf 5 code q k ≤ 4 := fun k => by unfold gdf; omega
      have r5 : rm s2 (sdE (Z 0) m q code) (sdD (Z 1) m) := rm_slp (eG_there hg.1.1) (rm_there e2.2 l1) (by rw [yne (by omega) rfl]; exact hm.1) (fun x y a b c => v5 x y b (by omega)) v2 (fun k a b => v1 k a b) v3 (by rw [v4, if_neg (by omega)]) (fun _ k a b z => by have := gr k; omega)
      have hfl : bflaw (gdf 5 code q) q.toNat = -1 := bflaw_plain (fun k x y => by have := gr k; omega)
      have g1 : eG (sdE (Z 0) m q code) := eG_slp (eG_there hg.1.1) (by rw [yne (by omega) rfl]; exact hm.1) (by omega) (fun k _ _ => by have := gr k; omega)
      have g2 : dG (sdE (Z 0) m q code) (sdD (Z 1) m) := dG_slp (dG_there hg.1.1 hg.1.2.1) (eG_there hg.1.1) (by rw [yne (by omega) rfl]; exact hm.1) (by omega) (Or.inl ⟨rfl, by omega, hfl⟩)
      have fs2 : mfs σ s2 := fun x y a => by rw [v5 x y (by omega) (by omega), yne (by omega) rfl, l2 x y a]; exact h1 x y a
      refine y_push rfl ?_
      refine y_istore (L' := [some (2, 547), some (0, m), some (0, q), some (0, (m5 q.toNat)), some (0, n), some (0, code), some (0, 1), none]) rfl rfl rfl rfl ?_
      refine y_push rfl ?_
      refine y_istore (L' := [some (2, 547), some (0, m), some (0, q), some (0, (m5 q.toNat)), some (0, n), some (0, code), some (0, 1), some (0, 0)]) rfl rfl rfl rfl ?_
      exact lm_said3 (fun τ code n => ih τ code n) hx hg hN hm (by omega) h2 (by omega) g1 g2 6 s2 0 1 (by omega) (by omega) r5 fs2 rfl (by omega)
theorem lm_said1 {g : Launch × XG × va_G} {σ : YS} {Z : YZ} {I : Int → YZ} {M : YS} {N : Int} {m q : Int} (hx : mW σ Z I M) (hg : wG Z I M N) (hN : N < 100000) (hm : (0 ≤ m ∧ m < Z 0 1 0) ∧ (1 ≤ q ∧ q ≤ 4)) : ∀ (nn : Nat) (k : Int) (cd : Int), q - k < (nn : Int) → (0 ≤ k ∧ k ≤ q) → (cd = m5 k.toNat) → YW g 90 31 [some (2, 547), some (0, m), some (0, q), some (0, cd), some (0, k), none, none, none] [] σ (fun rv σ' => ∃ b, rv = some (0, b) ∧ (b = (ksaidM Z M m q).1 ∧ mW σ' (ksaidM Z M m q).2.1 I (ksaidM Z M m q).2.2 ∧ cfr σ σ')) := by
  intro nn
  induction nn with
  | zero =>
    intro k cd hn h0 h1
    exfalso
    omega
  | succ nn ih =>
    intro k cd hn h0 h1
    have m5r := m5_r (i := k) (by omega)
    have m5p := m5_p k.toNat
    refine y_iload rfl rfl ?_
    refine y_iload rfl rfl ?_
    refine y_icge rfl (fun q34 => ?_) (fun q34 => ?_)
    · skip
      refine y_push rfl ?_
      refine y_istore (L' := [some (2, 547), some (0, m), some (0, q), some (0, cd), some (0, 0), none, none, none]) rfl rfl rfl rfl ?_
      refine y_push rfl ?_
      refine y_istore (L' := [some (2, 547), some (0, m), some (0, q), some (0, cd), some (0, 0), some (0, 0), none, none]) rfl rfl rfl rfl ?_
      rw [show cd = m5 q.toNat by rw [h1, show k = q by omega]]
      have m5r2 := m5_r (i := q) (by omega)
      have m5p2 := m5_p q.toNat
      exact lm_said2 hx hg hN hm 626 σ 0 0 (by omega) (by omega) (mfs_0 _) rfl
    · skip
      refine y_iload rfl rfl ?_
      refine y_push rfl ?_
      refine y_imul (v := (cd * 5)) rfl rfl (by omega) ?_
      refine y_istore (L' := [some (2, 547), some (0, m), some (0, q), some (0, (cd * 5)), some (0, k), none, none, none]) rfl rfl rfl rfl ?_
      refine y_iinc (L' := [some (2, 547), some (0, m), some (0, q), some (0, (cd * 5)), some (0, (k + 1)), none, none, none]) rfl rfl rfl rfl rfl (by omega) ?_
      refine y_goto rfl ?_
      exact ih (k + 1) _ (by omega) (by omega) (by rw [m5_s (by omega), h1])
theorem m_said {g : Launch × XG × va_G} {σ : YS} {Z : YZ} {I : Int → YZ} {M : YS} {N : Int} {m q : Int} (hx : mW σ Z I M) (hg : wG Z I M N) (hN : N < 100000) : YI g 90 [(2, 547), (0, m), (0, q)] σ (fun b σ' => b = (ksaidM Z M m q).1 ∧ mW σ' (ksaidM Z M m q).2.1 I (ksaidM Z M m q).2.2 ∧ cfr σ σ') := by
  refine y_start rfl rfl rfl ?_
  have ⟨⟨hz, hu, hur⟩, x2, x3, ⟨x4, x5⟩, x6, x7⟩ := hx
  have ⟨⟨he, hd, hn, hu2, h67, hk⟩, g2, g3, g4⟩ := hg
  have ⟨⟨f1, f2, f3⟩, f5, f6, f7, f8⟩ := hz
  have ⟨e1, e2, e3⟩ := he
  have x60 : σ 551 0 = M 3 0 := x6 0 (by omega) (by omega)
  have x61 : σ 551 1 = M 3 1 := x6 1 (by omega) (by omega)
  have x62 : σ 551 2 = M 3 2 := x6 2 (by omega) (by omega)
  have g40 := g4 0 (by omega) (by omega)
  have g41 := g4 1 (by omega) (by omega)
  have g42 := g4 2 (by omega) (by omega)
  have hu : σ 548 106 = Z 2 0 0 := hu
  have f1 : σ 548 (0 + 0) = Z 0 0 0 := f1
  have f10 : σ 548 0 = Z 0 0 0 := f1
  have f2 : σ 548 (0 + 10) = Z 0 1 0 := f2
  have f20 : σ 548 10 = Z 0 1 0 := f2
  have f30 : σ 548 105 = Z 1 5 0 := f3
  refine y_aload rfl rfl rfl ?_
  refine y_push rfl ?_
  refine y_iload rfl rfl ?_
  refine y_vi (as := [(2, 547), (0, 0), (0, m)]) (S := []) rfl rfl rfl rfl rfl rfl (by decide) rfl (m_isMan (r := 0) (Or.inl rfl) f2 e2) ?_
  rintro _ _ ⟨rfl, rfl⟩
  refine y_ifeq rfl (fun q6 => ?_) (fun q6 => ?_)
  · skip
    replace q6 := yb_0.mp q6
    refine y_aload rfl rfl rfl ?_
    refine y_vi (as := [(2, 547)]) (S := []) rfl rfl rfl rfl rfl rfl (by decide) rfl (m_bad (by omega)) ?_
    rintro _ _ ⟨rfl, rfl⟩
    refine y_iret rfl rfl ⟨_, rfl, ?_⟩
    have hK : ksaidM Z M m q = (_, Z, bump M 0) := if_neg (by omega)
    rw [hK]
    exact ⟨rfl, mW_bump hg hx (by omega) rfl, cfr_s (cfr_0 _) (by omega)⟩
  · skip
    replace q6 := yb_1.mp q6
    refine y_iload rfl rfl ?_
    refine y_i2l rfl ?_
    refine y_lconst (v := 1) rfl rfl ?_
    refine y_ldc2 (v := 4) rfl rfl ?_
    refine y_si (as := [(1, q), (1, 1), (1, 4)]) (S := []) rfl rfl rfl rfl rfl rfl m_lies ?_
    rintro _ _ ⟨rfl, rfl⟩
    refine y_ifne rfl (fun q18 => ?_) (fun q18 => ?_)
    · skip
      replace q18 := yb_1.mp q18
      refine y_push rfl ?_
      refine y_istore (L' := [some (2, 547), some (0, m), some (0, q), some (0, 1), none, none, none, none]) rfl rfl rfl rfl ?_
      refine y_push rfl ?_
      refine y_istore (L' := [some (2, 547), some (0, m), some (0, q), some (0, 1), some (0, 0), none, none, none]) rfl rfl rfl rfl ?_
      exact lm_said1 hx hg hN (by omega) 5 0 1 (by omega) (by omega) rfl
    · skip
      replace q18 := yb_0.mp q18
      refine y_aload rfl rfl rfl ?_
      refine y_vi (as := [(2, 547)]) (S := []) rfl rfl rfl rfl rfl rfl (by decide) rfl (m_bad (by omega)) ?_
      rintro _ _ ⟨rfl, rfl⟩
      refine y_iret rfl rfl ⟨_, rfl, ?_⟩
      have hK : ksaidM Z M m q = (_, Z, bump M 0) := if_neg (by omega)
      rw [hK]
      exact ⟨rfl, mW_bump hg hx (by omega) rfl, cfr_s (cfr_0 _) (by omega)⟩
