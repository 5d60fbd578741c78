/-- what is left of a code behind j figures -/
def gd (base code : Int) : Nat → Int
  | 0 => code
  | j + 1 => gd base code j / base
theorem gd_r {base code : Int} (hb : 0 < base) (hc : 0 ≤ code) : ∀ j : Nat, 0 ≤ gd base code j
  | 0 => hc
  | j + 1 => Int.ediv_nonneg (gd_r hb hc j) (by omega)
theorem gd_4 : ∀ c : Nat, c < 1024 → ∀ j : Nat, j < 5 → gd 4 c j % 4 = yand (yshr c (2 * j)) 3 := by decide +kernel
theorem gd_w {n code k : Int} (hn : n ≤ 5) (hk : 0 ≤ k ∧ k < n) (hc : 0 ≤ code ∧ code < 1024) : gd 4 code (n - 1 - k).toNat % 4 = wshort n code k := by
  have := gd_4 code.toNat (by omega) (n - 1 - k).toNat (by omega)
  rw [show ((code.toNat : Nat) : Int) = code by omega, show (((n - 1 - k).toNat : Nat) : Int) = n - 1 - k by omega] at this
  exact this
theorem lm_gives {g : Launch × XG × va_G} {σ : YS} {m n code base : Int} (hm : 0 ≤ m ∧ m < 3) (hn : 0 ≤ n ∧ n ≤ 5) (hc : 0 ≤ code) (hb : 0 < base ∧ base ≤ 5) : ∀ (nn : Nat) (τ : YS) (k : Int) (l : Int), k + 1 < (nn : Int) → (-1 ≤ k ∧ k ≤ n - 1) → (l = gd base code (n - 1 - k).toNat) → (∀ j, k < j → j < n → τ 560 (25 * m + j) = gd base code (n - 1 - j).toNat % base) → (∀ x y, ¬ (x = 560 ∧ 25 * m ≤ y ∧ y ≤ 25 * m + 24) → τ x y = σ x y) → YW g 135 8 [some (2, 547), some (0, m), some (0, n), some (0, code), some (0, base), some (0, l), some (0, k)] [] τ (fun rv σ' => rv = none ∧ ((∀ k, 0 ≤ k → k < n → σ' 560 (25 * m + k) = gd base code (n - 1 - k).toNat % base) ∧ σ' 559 m = n ∧ σ' 557 m = 0 ∧ σ' 558 m = (if n = 0 then 1 else 0) ∧ ∀ x y, ¬ ((x = 557 ∨ x = 558 ∨ x = 559) ∧ y = m) → ¬ (x = 560 ∧ 25 * m ≤ y ∧ y ≤ 25 * m + 24) → σ' x y = σ x y)) := by
  intro nn
  induction nn with
  | zero =>
    intro τ k l hn h0 h1 h2 h3
    exfalso
    omega
  | succ nn ih =>
    intro τ k l hn h0 h1 h2 h3
    have lr : 0 ≤ l := by rw [h1]; exact gd_r hb.1 hc _
    refine y_iload rfl rfl ?_
    refine y_iflt rfl (fun q10 => ?_) (fun q10 => ?_)
    · skip
      refine y_aload rfl rfl rfl ?_
      refine y_gfr (t := 559) rfl rfl (by decide) rfl (by decide) ?_
      refine y_iload rfl rfl ?_
      refine y_iload rfl rfl ?_
      refine y_iast (n := 3) rfl rfl (by decide) rfl (by omega) ?_
      refine y_aload rfl rfl rfl ?_
      refine y_gfr (t := 557) rfl rfl (by decide) rfl (by decide) ?_
      refine y_iload rfl rfl ?_
      refine y_push rfl ?_
      refine y_iast (n := 3) rfl rfl (by decide) rfl (by omega) ?_
      refine y_aload rfl rfl rfl ?_
      refine y_gfr (t := 558) rfl rfl (by decide) rfl (by decide) ?_
      refine y_iload rfl rfl ?_
      refine y_iload rfl rfl ?_
      refine y_ifne rfl (fun q63 => ?_) (fun q63 => ?_)
      · skip
        refine y_push rfl ?_
        refine y_iast (n := 3) rfl rfl (by decide) rfl (by omega) ?_
        refine y_ret rfl rfl ⟨rfl, ?_⟩
        refine ⟨fun j a b => by rw [yne (by omega) rfl, yne (by omega) rfl, yne (by omega) rfl]; exact h2 j (by omega) b, by rw [yne (by omega) rfl, yne (by omega) rfl, yeq], by rw [yne (by omega) rfl, yeq], by rw [yeq, if_neg (by omega)], fun x y a b => by rw [yne (by omega) rfl, yne (by omega) rfl, yne (by omega) rfl]; exact h3 x y b⟩
      · skip
        refine y_push rfl ?_
        refine y_goto rfl ?_
        refine y_iast (n := 3) rfl rfl (by decide) rfl (by omega) ?_
        refine y_ret rfl rfl ⟨rfl, ?_⟩
        refine ⟨fun j a b => by rw [yne (by omega) rfl, yne (by omega) rfl, yne (by omega) rfl]; exact h2 j (by omega) b, by rw [yne (by omega) rfl, yne (by omega) rfl, yeq], by rw [yne (by omega) rfl, yeq], by rw [yeq, if_pos (by omega)], fun x y a b => by rw [yne (by omega) rfl, yne (by omega) rfl, yne (by omega) rfl]; exact h3 x y b⟩
    · skip
      refine y_aload rfl rfl rfl ?_
      refine y_gfr (t := 560) rfl rfl (by decide) rfl (by decide) ?_
      refine y_push rfl ?_
      refine y_iload rfl rfl ?_
      refine y_imul (v := (25 * m)) rfl rfl (by omega) ?_
      refine y_iload rfl rfl ?_
      refine y_iadd (v := ((25 * m) + k)) rfl rfl (by omega) ?_
      refine y_iload rfl rfl ?_
      refine y_iload rfl rfl ?_
      refine y_irem (v := (l % base)) rfl rfl ⟨lr, hb.1⟩ ?_
      refine y_iast (n := 75) rfl rfl (by decide) rfl (by omega) ?_
      refine y_iload rfl rfl ?_
      refine y_iload rfl rfl ?_
      refine y_idiv (v := (l / base)) rfl rfl (by omega) ?_
      refine y_istore (L' := [some (2, 547), some (0, m), some (0, n), some (0, code), some (0, base), some (0, (l / base)), some (0, k)]) rfl rfl rfl rfl ?_
      refine y_iinc (L' := [some (2, 547), some (0, m), some (0, n), some (0, code), some (0, base), some (0, (l / base)), some (0, (k + (-1)))]) rfl rfl rfl rfl rfl (by omega) ?_
      refine y_goto rfl ?_
      refine ih (yset τ 560 ((25 * m) + k) (l % base)) (k + -1) _ (by omega) (by omega) ?_ (fun j a b => ?_) (fun x y a => by rw [yne (by omega) rfl]; exact h3 x y a)
      · rw [show (n - 1 - (k + -1)).toNat = (n - 1 - k).toNat + 1 by omega, h1]; rfl
      · by_cases e : j = k
        · subst e; rw [yeq, h1]
        · rw [yne (by omega) rfl]; exact h2 j (by omega) b
theorem m_gives {g : Launch × XG × va_G} {σ : YS} {m n code base : Int} (hm : 0 ≤ m ∧ m < 3) (hn : 0 ≤ n ∧ n ≤ 5) (hc : 0 ≤ code) (hb : 0 < base ∧ base ≤ 5) : YU g 135 [(2, 547), (0, m), (0, n), (0, code), (0, base)] σ (fun σ' => (∀ k, 0 ≤ k → k < n → σ' 560 (25 * m + k) = gd base code (n - 1 - k).toNat % base) ∧ σ' 559 m = n ∧ σ' 557 m = 0 ∧ σ' 558 m = (if n = 0 then 1 else 0) ∧ ∀ x y, ¬ ((x = 557 ∨ x = 558 ∨ x = 559) ∧ y = m) → ¬ (x = 560 ∧ 25 * m ≤ y ∧ y ≤ 25 * m + 24) → σ' x y = σ x y) := by
  refine y_start rfl rfl rfl ?_
  refine y_iload rfl rfl ?_
  refine y_istore (L' := [some (2, 547), some (0, m), some (0, n), some (0, code), some (0, base), some (0, code), none]) rfl rfl rfl rfl ?_
  refine y_iload rfl rfl ?_
  refine y_push rfl ?_
  refine y_isub (v := (n - 1)) rfl rfl (by omega) ?_
  refine y_istore (L' := [some (2, 547), some (0, m), some (0, n), some (0, code), some (0, base), some (0, code), some (0, (n - 1))]) rfl rfl rfl rfl ?_
  exact lm_gives hm hn hc hb 7 σ (n - 1) code (by omega) (by omega) (by rw [show n - 1 - (n - 1) = 0 by omega]; rfl) (fun j a b => by omega) (fun x y _ => rfl)
theorem lm_short2 {g : Launch × XG × va_G} {σ : YS} {Z : YZ} {I : Int → YZ} {M : YS} {N : Int} {m c v i : Int} {n : Int} {nn0 : Nat} (ihO : ∀ (τ : YS) (n : Int), 6 - n < (nn0 : Int) → (0 ≤ n ∧ n ≤ 6) → mfs σ τ → (∀ q, 0 ≤ q → q < n → ∀ k, 0 ≤ k → k < 4 ^ q.toNat → ¬ shok (Z 0) (Z 1) m c v q k) → YW g 86 47 [some (2, 547), some (0, m), some (0, c), some (0, v), some (0, i), some (0, (4 ^ n.toNat)), some (0, n), none] [] τ (fun rv σ' => ∃ b, rv = some (0, b) ∧ ((if (0 ≤ m ∧ m < Z 0 1 0) ∧ (0 ≤ c ∧ c < Z 0 0 0) ∧ (0 ≤ v ∧ v ≤ 20) ∧ -1 ≤ i then shans (Z 0) (Z 1) m c v i b ∧ mW σ' Z I M else b = -10 ∧ mW σ' Z I (bump M 0)) ∧ cfr σ σ'))) (hx : mW σ Z I M) (hg : wG Z I M N) (hN : N < 100000) (hm : (0 ≤ m ∧ m < Z 0 1 0) ∧ (0 ≤ c ∧ c < Z 0 0 0) ∧ (0 ≤ v ∧ v ≤ 20) ∧ -1 ≤ i) (hp : 0 ≤ n ∧ n ≤ 5) (hpn : 6 - n < (nn0 : Int) + 1) : ∀ (nn : Nat) (τ : YS) (code : Int), 4 ^ n.toNat - code < (nn : Int) → (0 ≤ code ∧ code ≤ 4 ^ n.toNat) → (mfs σ τ) → (∀ q, 0 ≤ q → q < n → ∀ k, 0 ≤ k → k < 4 ^ q.toNat → ¬ shok (Z 0) (Z 1) m c v q k) → (∀ k, 0 ≤ k → k < code → ¬ shok (Z 0) (Z 1) m c v n k) → YW g 86 57 [some (2, 547), some (0, m), some (0, c), some (0, v), some (0, i), some (0, (4 ^ n.toNat)), some (0, n), some (0, code)] [] τ (fun rv σ' => ∃ b, rv = some (0, b) ∧ ((if (0 ≤ m ∧ m < Z 0 1 0) ∧ (0 ≤ c ∧ c < Z 0 0 0) ∧ (0 ≤ v ∧ v ≤ 20) ∧ -1 ≤ i then shans (Z 0) (Z 1) m c v i b ∧ mW σ' Z I M else b = -10 ∧ mW σ' Z I (bump M 0)) ∧ cfr σ σ')) := by
  intro nn
  induction nn with
  | zero =>
    intro τ code hn h0 h1 h2 h3
    exfalso
    omega
  | succ nn ih =>
    intro τ code hn h0 h1 h2 h3
    have p4 := ysh4 hp
    have e1 := hg.1.1.1
    have e2 := hg.1.1.2.1
    refine y_iload rfl rfl ?_
    refine y_iload rfl rfl ?_
    refine y_icge rfl (fun q61 => ?_) (fun q61 => ?_)
    · skip
      have pn : (4 : Int) ^ n.toNat * 4 = 4 ^ (n + 1).toNat := by rw [show (n + 1).toNat = n.toNat + 1 by omega, Int.pow_succ]
      refine y_iload rfl rfl ?_
      refine y_push rfl ?_
      refine y_imul (v := (4 ^ (n + 1).toNat)) rfl pn (by omega) ?_
      refine y_istore (L' := [some (2, 547), some (0, m), some (0, c), some (0, v), some (0, i), some (0, (4 ^ (n + 1).toNat)), some (0, n), some (0, code)]) rfl rfl rfl rfl ?_
      refine y_iinc (L' := [some (2, 547), some (0, m), some (0, c), some (0, v), some (0, i), some (0, (4 ^ (n + 1).toNat)), some (0, (n + 1)), some (0, code)]) rfl rfl rfl rfl rfl (by omega) ?_
      refine y_goto rfl ?_
      refine y_forget (M := [some (2, 547), some (0, m), some (0, c), some (0, v), some (0, i), some (0, (4 ^ (n + 1).toNat)), some (0, (n + 1)), none]) ⟨Or.inr rfl, Or.inr rfl, Or.inr rfl, Or.inr rfl, Or.inr rfl, Or.inr rfl, Or.inr rfl, Or.inl rfl, trivial⟩ ?_
      refine ihO τ (n + 1) (by omega) (by omega) h1 (fun q a b => ?_)
      rcases (by omega : q < n ∨ q = n) with z | rfl
      · exact h2 q a z
      · exact fun k k1 k2 => h3 k k1 (by omega)
    · skip
      refine y_aload rfl rfl rfl ?_
      refine y_vu (as := [(2, 547)]) (S := []) rfl rfl rfl rfl rfl rfl (by decide) rfl (m_layNow (mzs_cong hg.1.1 hx.1.1 (fun y a b => h1 548 y (by omega))) hg.1.1 hg.1.2.1 hg.1.2.2.2.2.1.1) ?_
      rintro s1 ⟨l1, l2⟩
      refine y_aload rfl rfl rfl ?_
      refine y_iload rfl rfl ?_
      refine y_iload rfl rfl ?_
      refine y_iload rfl rfl ?_
      refine y_push rfl ?_
      refine y_vu (as := [(2, 547), (0, m), (0, n), (0, code), (0, 4)]) (S := []) rfl rfl rfl rfl rfl rfl (by decide) rfl (m_gives (m := m) (n := n) (code := code) (base := 4) (by omega) (by omega) (by omega) (by omega)) ?_
      rintro s2 ⟨v1, v2, v3, v4, v5⟩
      have g6 : ∀ k, wshort n code k ≤ 3 ∧ 0 ≤ wshort n code k := fun k => by have := yand_3 (yshr code (2 * (n - 1 - k))); unfold wshort; omega
      have r5 : rm s2 (shE (Z 0) m n code) (shD (Z 1) m n) := rm_slp hg.1.1 l1 hm.1 (fun x y a b c => v5 x y b (by omega)) v2 (fun k a b => by rw [v1 k a b]; exact gd_w (by omega) ⟨a, b⟩ (by omega)) v3 v4 (fun _ k a b q => by have := g6 k; omega)
      have hfl : bflaw (wshort n code) n.toNat = -1 := bflaw_plain (fun k x y => by have := g6 k; omega)
      have g5 : ∀ k, 0 ≤ k → k < n → 0 ≤ wshort n code k ∧ wshort n code k ≤ 13 := fun k k1 k2 => by have := g6 k; omega
      have g2e : eG (shE (Z 0) m n code) := eG_slp hg.1.1 hm.1 (by omega) g5
      have g2d : dG (shE (Z 0) m n code) (shD (Z 1) m n) := dG_slp hg.1.2.1 hg.1.1 hm.1 (by omega) (by split; exact Or.inr rfl; exact Or.inl ⟨rfl, by omega, hfl⟩)
      have fs2 : mfs σ s2 := fun x y a => by rw [v5 x y (by omega) (by omega), l2 x y a]; exact h1 x y a
      have hn5 := hg.1.2.2.1
      refine y_aload rfl rfl rfl ?_
      refine y_vi (as := [(2, 547)]) (S := []) rfl rfl rfl rfl rfl rfl (by decide) rfl (m_goToStop r5 g2e g2d (by unfold shD slpD; rw [yne (by omega) rfl, yne (by omega) rfl]; omega)) ?_
      rintro b_ s3 ⟨y1, y2, y3, y4⟩
      have fs3 : mfs σ s3 := mfs_t fs2 (rfr_m y3)
      have hw : b_ ≠ -1 → s3 554 c = msteps (shE (Z 0) m n code) (shD (Z 1) m n) b_.toNat 0 c := fun z => (y2 z).2.1 c (by omega) (by omega)
      have hb0 : b_ = -1 ∨ 0 ≤ b_ := by
        rcases y1 with z | z
        · exact Or.inr z.1
        · exact Or.inl z.1
      refine y_push rfl ?_
      refine y_iceq rfl (fun q83 => ?_) (fun q83 => ?_)
      · skip
        refine y_iinc (L' := [some (2, 547), some (0, m), some (0, c), some (0, v), some (0, i), some (0, (4 ^ n.toNat)), some (0, n), some (0, (code + 1))]) rfl rfl rfl rfl rfl (by omega) ?_
        refine y_goto rfl ?_
        have hno : ¬ shok (Z 0) (Z 1) m c v n code := fun ⟨b', p1, p2, p3⟩ => by
          have := sets_one y1 p2
          subst this
          omega
        refine ih s3 (code + 1) (by omega) (by omega) fs3 h2 ?_
        intro k a b
        rcases (by omega : k < code ∨ k = code) with z | rfl
        · exact h3 k a z
        · exact hno
      · skip
        refine y_aload rfl rfl rfl ?_
        refine y_gfr (t := 554) rfl rfl (by decide) rfl (by decide) ?_
        refine y_iload rfl rfl ?_
        refine y_iald (v := (s3 554 c)) (n := 9) rfl rfl (by decide) rfl (by omega) rfl ?_
        refine y_iload rfl rfl ?_
        refine y_icne rfl (fun q93 => ?_) (fun q93 => ?_)
        · skip
          refine y_iinc (L' := [some (2, 547), some (0, m), some (0, c), some (0, v), some (0, i), some (0, (4 ^ n.toNat)), some (0, n), some (0, (code + 1))]) rfl rfl rfl rfl rfl (by omega) ?_
          refine y_goto rfl ?_
          have hno : ¬ shok (Z 0) (Z 1) m c v n code := fun ⟨b', p1, p2, p3⟩ => by
            have := sets_one y1 p2
            subst this
            exact q93 (by rw [hw (by omega)]; exact p3)
          refine ih s3 (code + 1) (by omega) (by omega) fs3 h2 ?_
          intro k a b
          rcases (by omega : k < code ∨ k = code) with z | rfl
          · exact h3 k a z
          · exact hno
        · skip
          refine y_iload rfl rfl ?_
          refine y_push rfl ?_
          refine y_icne rfl (fun q99 => ?_) (fun q99 => ?_)
          · skip
            refine y_iload rfl rfl ?_
            refine y_iload rfl rfl ?_
            refine y_icge rfl (fun q111 => ?_) (fun q111 => ?_)
            · skip
              refine y_push rfl ?_
              refine y_iret rfl rfl ⟨_, rfl, ?_⟩
              exact ⟨by rw [if_pos hm]; exact ⟨Or.inl ⟨n, code, by omega, by omega, ⟨b_, by omega, y1, by rw [← hw q83]; exact q93⟩, h3, h2, by unfold shpart; rw [if_neg q99, if_pos (by omega)]⟩, mW_mfs hg hx fs3⟩, fun x y a => fs3 x y (by omega)⟩
            · skip
              refine y_iload rfl rfl ?_
              refine y_push rfl ?_
              refine y_iload rfl rfl ?_
              refine y_push rfl ?_
              refine y_isub (v := (n - 1)) rfl rfl (by omega) ?_
              refine y_iload rfl rfl ?_
              refine y_isub (v := ((n - 1) - i)) rfl rfl (by omega) ?_
              refine y_imul (v := (2 * ((n - 1) - i))) rfl rfl (by omega) ?_
              refine y_ishr (v := (yshr code (2 * ((n - 1) - i)))) rfl rfl ?_
              refine y_push rfl ?_
              refine y_iand (v := (yand (yshr code (2 * ((n - 1) - i))) 3)) rfl rfl ?_
              refine y_goto rfl ?_
              refine y_iret rfl rfl ⟨_, rfl, ?_⟩
              exact ⟨by rw [if_pos hm]; exact ⟨Or.inl ⟨n, code, by omega, by omega, ⟨b_, by omega, y1, by rw [← hw q83]; exact q93⟩, h3, h2, by unfold shpart; rw [if_neg q99, if_neg (by omega)]; rfl⟩, mW_mfs hg hx fs3⟩, fun x y a => fs3 x y (by omega)⟩
          · skip
            refine y_iload rfl rfl ?_
            refine y_goto rfl ?_
            refine y_iret rfl rfl ⟨_, rfl, ?_⟩
            exact ⟨by rw [if_pos hm]; exact ⟨Or.inl ⟨n, code, by omega, by omega, ⟨b_, by omega, y1, by rw [← hw q83]; exact q93⟩, h3, h2, by unfold shpart; rw [if_pos q99]⟩, mW_mfs hg hx fs3⟩, fun x y a => fs3 x y (by omega)⟩
theorem lm_short1 {g : Launch × XG × va_G} {σ : YS} {Z : YZ} {I : Int → YZ} {M : YS} {N : Int} {m c v i : Int} (hx : mW σ Z I M) (hg : wG Z I M N) (hN : N < 100000) (hm : (0 ≤ m ∧ m < Z 0 1 0) ∧ (0 ≤ c ∧ c < Z 0 0 0) ∧ (0 ≤ v ∧ v ≤ 20) ∧ -1 ≤ i) : ∀ (nn : Nat) (τ : YS) (n : Int), 6 - n < (nn : Int) → (0 ≤ n ∧ n ≤ 6) → (mfs σ τ) → (∀ q, 0 ≤ q → q < n → ∀ k, 0 ≤ k → k < 4 ^ q.toNat → ¬ shok (Z 0) (Z 1) m c v q k) → YW g 86 47 [some (2, 547), some (0, m), some (0, c), some (0, v), some (0, i), some (0, (4 ^ n.toNat)), some (0, n), none] [] τ (fun rv σ' => ∃ b, rv = some (0, b) ∧ ((if (0 ≤ m ∧ m < Z 0 1 0) ∧ (0 ≤ c ∧ c < Z 0 0 0) ∧ (0 ≤ v ∧ v ≤ 20) ∧ -1 ≤ i then shans (Z 0) (Z 1) m c v i b ∧ mW σ' Z I M else b = -10 ∧ mW σ' Z I (bump M 0)) ∧ cfr σ σ')) := by
  intro nn
  induction nn with
  | zero =>
    intro τ n hn h0 h1 h2
    exfalso
    omega
  | succ nn ih =>
    intro τ n hn h0 h1 h2
    refine y_iload rfl rfl ?_
    refine y_push rfl ?_
    refine y_icge rfl (fun q51 => ?_) (fun q51 => ?_)
    · skip
      refine y_push rfl ?_
      refine y_iret rfl rfl ⟨_, rfl, ?_⟩
      exact ⟨by rw [if_pos hm]; exact ⟨Or.inr ⟨fun q a b => h2 q a (by omega), rfl⟩, mW_mfs hg hx h1⟩, fun x y a => h1 x y (by omega)⟩
    · skip
      refine y_push rfl ?_
      refine y_istore (L' := [some (2, 547), some (0, m), some (0, c), some (0, v), some (0, i), some (0, (4 ^ n.toNat)), some (0, n), some (0, 0)]) rfl rfl rfl rfl ?_
      have p4 := ysh4 (n := n) (by omega)
      exact lm_short2 (fun τ n => ih τ n) hx hg hN hm (by omega) (by omega) 1025 τ 0 (by omega) (by omega) h1 h2 (fun k a b => by omega)
theorem m_shortest {g : Launch × XG × va_G} {σ : YS} {Z : YZ} {I : Int → YZ} {M : YS} {N : Int} {m c v i : Int} (hx : mW σ Z I M) (hg : wG Z I M N) (hN : N < 100000) : YI g 86 [(2, 547), (0, m), (0, c), (0, v), (0, i)] σ (fun b σ' => (if (0 ≤ m ∧ m < Z 0 1 0) ∧ (0 ≤ c ∧ c < Z 0 0 0) ∧ (0 ≤ v ∧ v ≤ 20) ∧ -1 ≤ i then shans (Z 0) (Z 1) m c v i b ∧ mW σ' Z I M else b = -10 ∧ mW σ' Z I (bump M 0)) ∧ cfr σ σ') := by
  refine y_start rfl rfl rfl ?_
  have ⟨⟨hz, hu, hur⟩, x2, x3, ⟨x4, x5⟩, x6, x7⟩ := hx
  have ⟨⟨he, hd, hn, hu2, h67, hk⟩, g2, g3, g4⟩ := hg
  have ⟨⟨f1, f2, f3⟩, f5, f6, f7, f8⟩ := hz
  have ⟨e1, e2, e3⟩ := he
  have x60 : σ 551 0 = M 3 0 := x6 0 (by omega) (by omega)
  have x61 : σ 551 1 = M 3 1 := x6 1 (by omega) (by omega)
  have x62 : σ 551 2 = M 3 2 := x6 2 (by omega) (by omega)
  have g40 := g4 0 (by omega) (by omega)
  have g41 := g4 1 (by omega) (by omega)
  have g42 := g4 2 (by omega) (by omega)
  have hu : σ 548 106 = Z 2 0 0 := hu
  have f1 : σ 548 (0 + 0) = Z 0 0 0 := f1
  have f10 : σ 548 0 = Z 0 0 0 := f1
  have f2 : σ 548 (0 + 10) = Z 0 1 0 := f2
  have f20 : σ 548 10 = Z 0 1 0 := f2
  have f30 : σ 548 105 = Z 1 5 0 := f3
  refine y_aload rfl rfl rfl ?_
  refine y_push rfl ?_
  refine y_iload rfl rfl ?_
  refine y_vi (as := [(2, 547), (0, 0), (0, m)]) (S := []) rfl rfl rfl rfl rfl rfl (by decide) rfl (m_isMan (r := 0) (Or.inl rfl) f2 e2) ?_
  rintro _ _ ⟨rfl, rfl⟩
  refine y_ifeq rfl (fun q6 => ?_) (fun q6 => ?_)
  · skip
    replace q6 := yb_0.mp q6
    refine y_aload rfl rfl rfl ?_
    refine y_vi (as := [(2, 547)]) (S := []) rfl rfl rfl rfl rfl rfl (by decide) rfl (m_badElse (by omega)) ?_
    rintro _ _ ⟨rfl, rfl⟩
    refine y_iret rfl rfl ⟨_, rfl, ?_⟩
    exact ⟨by rw [if_neg (by omega)]; exact ⟨rfl, mW_bump hg hx (by omega) rfl⟩, cfr_s (cfr_0 _) (by omega)⟩
  · skip
    replace q6 := yb_1.mp q6
    refine y_aload rfl rfl rfl ?_
    refine y_push rfl ?_
    refine y_iload rfl rfl ?_
    refine y_vi (as := [(2, 547), (0, 0), (0, c)]) (S := []) rfl rfl rfl rfl rfl rfl (by decide) rfl (m_isCell (r := 0) (Or.inl rfl) f1 (by omega)) ?_
    rintro _ _ ⟨rfl, rfl⟩
    refine y_ifeq rfl (fun q15 => ?_) (fun q15 => ?_)
    · skip
      replace q15 := yb_0.mp q15
      refine y_aload rfl rfl rfl ?_
      refine y_vi (as := [(2, 547)]) (S := []) rfl rfl rfl rfl rfl rfl (by decide) rfl (m_badElse (by omega)) ?_
      rintro _ _ ⟨rfl, rfl⟩
      refine y_iret rfl rfl ⟨_, rfl, ?_⟩
      exact ⟨by rw [if_neg (by omega)]; exact ⟨rfl, mW_bump hg hx (by omega) rfl⟩, cfr_s (cfr_0 _) (by omega)⟩
    · skip
      replace q15 := yb_1.mp q15
      refine y_iload rfl rfl ?_
      refine y_i2l rfl ?_
      refine y_lconst (v := 0) rfl rfl ?_
      refine y_ldc2 (v := 20) rfl rfl ?_
      refine y_si (as := [(1, v), (1, 0), (1, 20)]) (S := []) rfl rfl rfl rfl rfl rfl m_lies ?_
      rintro _ _ ⟨rfl, rfl⟩
      refine y_ifeq rfl (fun q27 => ?_) (fun q27 => ?_)
      · skip
        replace q27 := yb_0.mp q27
        refine y_aload rfl rfl rfl ?_
        refine y_vi (as := [(2, 547)]) (S := []) rfl rfl rfl rfl rfl rfl (by decide) rfl (m_badElse (by omega)) ?_
        rintro _ _ ⟨rfl, rfl⟩
        refine y_iret rfl rfl ⟨_, rfl, ?_⟩
        exact ⟨by rw [if_neg (by omega)]; exact ⟨rfl, mW_bump hg hx (by omega) rfl⟩, cfr_s (cfr_0 _) (by omega)⟩
      · skip
        replace q27 := yb_1.mp q27
        refine y_iload rfl rfl ?_
        refine y_push rfl ?_
        refine y_icge rfl (fun q33 => ?_) (fun q33 => ?_)
        · skip
          refine y_push rfl ?_
          refine y_istore (L' := [some (2, 547), some (0, m), some (0, c), some (0, v), some (0, i), some (0, 1), none, none]) rfl rfl rfl rfl ?_
          refine y_push rfl ?_
          refine y_istore (L' := [some (2, 547), some (0, m), some (0, c), some (0, v), some (0, i), some (0, 1), some (0, 0), none]) rfl rfl rfl rfl ?_
          exact lm_short1 hx hg hN (by omega) 7 σ 0 (by omega) (by omega) (mfs_0 _) (fun q a b => by omega)
        · skip
          refine y_aload rfl rfl rfl ?_
          refine y_vi (as := [(2, 547)]) (S := []) rfl rfl rfl rfl rfl rfl (by decide) rfl (m_badElse (by omega)) ?_
          rintro _ _ ⟨rfl, rfl⟩
          refine y_iret rfl rfl ⟨_, rfl, ?_⟩
          exact ⟨by rw [if_neg (by omega)]; exact ⟨rfl, mW_bump hg hx (by omega) rfl⟩, cfr_s (cfr_0 _) (by omega)⟩
