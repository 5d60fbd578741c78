/-- the short slip of a code; how the street is with it -/
def shE (E : YS) (m n code : Int) : YS := slpE E m (wshort n code) n
def shD (D : YS) (m n : Int) : YS := slpD D m 0 (if n = 0 then 1 else 0)
def shok (E D : YS) (m c v n code : Int) : Prop := ∃ b, 0 ≤ b ∧ sets (shE E m n code) (shD D m n) b ∧ msteps (shE E m n code) (shD D m n) b.toNat 0 c = v
def shpart (n code i : Int) : Int := if i = -1 then n else if n ≤ i then -5 else wshort n code i
def shans (E D : YS) (m c v i b : Int) : Prop := (∃ n code, (0 ≤ n ∧ n ≤ 5) ∧ (0 ≤ code ∧ code < 4 ^ n.toNat) ∧ shok E D m c v n code ∧ (∀ k, 0 ≤ k → k < code → ¬ shok E D m c v n k) ∧ (∀ q, 0 ≤ q → q < n → ∀ k, 0 ≤ k → k < 4 ^ q.toNat → ¬ shok E D m c v q k) ∧ b = shpart n code i) ∨ ((∀ q, 0 ≤ q → q ≤ 5 → ∀ k, 0 ≤ k → k < 4 ^ q.toNat → ¬ shok E D m c v q k) ∧ b = -1)
theorem ysh4 {n : Int} (h : 0 ≤ n ∧ n ≤ 5) : yshl 1 (2 * n) = 4 ^ n.toNat ∧ (4 : Int) ^ n.toNat ≤ 1024 ∧ 0 < (4 : Int) ^ n.toNat := by
  rcases (by omega : n = 0 ∨ n = 1 ∨ n = 2 ∨ n = 3 ∨ n = 4 ∨ n = 5) with rfl | rfl | rfl | rfl | rfl | rfl <;> decide
theorem c_partOfShort {g : Launch × XG × va_G} {σ : YS} {n code i : Int} (hn : 0 ≤ n ∧ n ≤ 5) (hi : -1 ≤ i) : YI g 114 [(0, n), (0, code), (0, i)] σ (fun b σ' => σ = σ' ∧ shpart n code i = b) := by
  refine y_start rfl rfl rfl ?_
  refine y_iload rfl rfl ?_
  refine y_push rfl ?_
  refine y_icne rfl (fun q2 => ?_) (fun q2 => ?_)
  · skip
    refine y_iload rfl rfl ?_
    refine y_iload rfl rfl ?_
    refine y_iclt rfl (fun q9 => ?_) (fun q9 => ?_)
    · skip
      refine y_iload rfl rfl ?_
      refine y_iload rfl rfl ?_
      refine y_iload rfl rfl ?_
      refine y_si (as := [(0, n), (0, code), (0, i)]) (S := []) rfl rfl rfl rfl rfl rfl (c_shortSign (by omega) (by omega)) ?_
      rintro _ _ ⟨rfl, rfl⟩
      refine y_iret rfl rfl ⟨_, rfl, ?_⟩
      exact ⟨rfl, by unfold shpart; (repeat' split) <;> first | rfl | omega⟩
    · skip
      refine y_push rfl ?_
      refine y_goto rfl ?_
      refine y_iret rfl rfl ⟨_, rfl, ?_⟩
      exact ⟨rfl, by unfold shpart; (repeat' split) <;> first | rfl | omega⟩
  · skip
    refine y_iload rfl rfl ?_
    refine y_iret rfl rfl ⟨_, rfl, ?_⟩
    exact ⟨rfl, by unfold shpart; (repeat' split) <;> first | rfl | omega⟩
theorem l_short2 {g : Launch × XG × va_G} {σ : YS} {Z : YZ} {I : Int → YZ} {M : YS} {N : Int} {m c v i : Int} {n : Int} {nn0 : Nat} (ihO : ∀ (τ : YS) (n : Int), 6 - n < (nn0 : Int) → (0 ≤ n ∧ n ≤ 6) → sfr σ τ → rowc τ 546 (Z 0) (Z 1) → tst τ (Z 0) m → (∀ q, 0 ≤ q → q < n → ∀ k, 0 ≤ k → k < 4 ^ q.toNat → ¬ shok (Z 0) (Z 1) m c v q k) → YW g 85 70 [some (2, 0), some (0, m), some (0, c), some (0, v), some (0, i), some (0, n), none, none] [] τ (fun rv σ' => ∃ b, rv = some (0, b) ∧ ((if (0 ≤ m ∧ m < Z 0 1 0) ∧ (0 ≤ c ∧ c < Z 0 0 0) ∧ (0 ≤ v ∧ v ≤ 20) ∧ -1 ≤ i then shans (Z 0) (Z 1) m c v i b ∧ xW σ' Z I M else b = -10 ∧ xW σ' Z I (bump M 0)) ∧ mfr σ σ'))) (hx : xW σ Z I M) (hg : wG Z I M N) (hN : N < 100000) (hm : (0 ≤ m ∧ m < Z 0 1 0) ∧ (0 ≤ c ∧ c < Z 0 0 0) ∧ (0 ≤ v ∧ v ≤ 20) ∧ -1 ≤ i) (hp : 0 ≤ n ∧ n ≤ 5) (hpn : 6 - n < (nn0 : Int) + 1) : ∀ (nn : Nat) (τ : YS) (code : Int), 4 ^ n.toNat - code < (nn : Int) → (0 ≤ code ∧ code ≤ 4 ^ n.toNat) → (sfr σ τ) → (rowc τ 546 (Z 0) (Z 1)) → (tst τ (Z 0) m) → (∀ q, 0 ≤ q → q < n → ∀ k, 0 ≤ k → k < 4 ^ q.toNat → ¬ shok (Z 0) (Z 1) m c v q k) → (∀ k, 0 ≤ k → k < code → ¬ shok (Z 0) (Z 1) m c v n k) → YW g 85 87 [some (2, 0), some (0, m), some (0, c), some (0, v), some (0, i), some (0, n), some (0, (4 ^ n.toNat)), some (0, code)] [] τ (fun rv σ' => ∃ b, rv = some (0, b) ∧ ((if (0 ≤ m ∧ m < Z 0 1 0) ∧ (0 ≤ c ∧ c < Z 0 0 0) ∧ (0 ≤ v ∧ v ≤ 20) ∧ -1 ≤ i then shans (Z 0) (Z 1) m c v i b ∧ xW σ' Z I M else b = -10 ∧ xW σ' Z I (bump M 0)) ∧ mfr σ σ')) := by
  intro nn
  induction nn with
  | zero =>
    intro τ code hn h0 h1 h2 h3 h4 h5
    exfalso
    omega
  | succ nn ih =>
    intro τ code hn h0 h1 h2 h3 h4 h5
    have ⟨⟨hr, hu⟩, x2, x3, ⟨x4, x5⟩, x6⟩ := hx
    have ⟨⟨he, hd, hn, hu2, h67, hk⟩, g2, g3, g4⟩ := hg
    have ⟨⟨f1, f2, f3, f4⟩, f5, f6, g7, g8⟩ := hr
    have ⟨e1, e2, e3⟩ := he
    have ⟨u1, u2, u3⟩ := hu
    have x60 : σ 0 11 = M 3 0 := x6 0 (by omega) (by omega)
    have x61 : σ 0 12 = M 3 1 := x6 1 (by omega) (by omega)
    have x62 : σ 0 13 = M 3 2 := x6 2 (by omega) (by omega)
    have g40 := g4 0 (by omega) (by omega)
    have g41 := g4 1 (by omega) (by omega)
    have g42 := g4 2 (by omega) (by omega)
    have f5 : ∀ c, 0 ≤ c → c < 9 → σ 2 c = Z 1 0 c := f5
    have f6 : ∀ i, 0 ≤ i → i < Z 0 1 0 → repm σ (4 + 3 * i) (Z 0) (Z 1) i := f6
    have t0 : ∀ x y, 1 ≤ x → x ≤ 13 → τ x y = σ x y := fun x y x1 x2 => h1 x y (by omega)
    have ⟨tm1, tm2, tm3⟩ := e3 m (by omega) (by omega)
    have ⟨dm1, dm2, dm3, dm4⟩ := hd.2 m (by omega) (by omega)
    have he0 := hg.1.1
    have p4 := ysh4 hp
    refine y_iload rfl rfl ?_
    refine y_iload rfl rfl ?_
    refine y_icge rfl (fun q91 => ?_) (fun q91 => ?_)
    · skip
      refine y_iinc (L' := [some (2, 0), some (0, m), some (0, c), some (0, v), some (0, i), some (0, (n + 1)), some (0, (4 ^ n.toNat)), some (0, code)]) rfl rfl rfl rfl rfl (by omega) ?_
      refine y_goto rfl ?_
      refine y_forget (M := [some (2, 0), some (0, m), some (0, c), some (0, v), some (0, i), some (0, (n + 1)), none, none]) ⟨Or.inr rfl, Or.inr rfl, Or.inr rfl, Or.inr rfl, Or.inr rfl, Or.inr rfl, Or.inl rfl, Or.inl rfl, trivial⟩ ?_
      refine ihO τ (n + 1) (by omega) (by omega) h1 h2 h3 (fun q a b => ?_)
      rcases (by omega : q < n ∨ q = n) with z | rfl
      · exact h4 q a z
      · exact fun k k1 k2 => h5 k k1 (by omega)
    · skip
      refine y_aload rfl rfl rfl ?_
      refine y_gfr (t := 37) rfl rfl (by decide) rfl (by decide) ?_
      refine y_aload rfl rfl rfl ?_
      refine y_gfr (t := 546) rfl rfl (by decide) rfl (by decide) ?_
      have ⟨F, fn, C, r1, r2, r3⟩ := h3
      have ⟨rv, q1⟩ := row_m (f := F) (n := fn) e2.2 h2 hm.1.1
      have ge := eG_slp he0 hm.1 r2 r3
      refine y_vu (as := [(2, 37), (2, 546)]) (S := []) rfl rfl rfl rfl rfl rfl (yS_0 yS_37).1 (yS_c yS_37) (c_load yS_37 yR_546 (by omega) r1 ge q1) ?_
      rintro σ1 ⟨z1, z2⟩
      refine y_aload rfl rfl rfl ?_
      refine y_gfr (t := 37) rfl rfl (by decide) rfl (by decide) ?_
      refine y_gfr (t := 39) rfl (yS_c yS_37) (yS_0 yS_37).1 rfl (by decide) ?_
      refine y_iload rfl rfl ?_
      refine y_aald (v := (40 + 3 * m)) (n := 3) rfl (yS_m yS_37) (by have := yS_0 yS_37; omega) rfl (by omega) rfl ?_
      refine y_iload rfl rfl ?_
      refine y_iload rfl rfl ?_
      refine y_vu (as := [(2, (40 + 3 * m)), (0, n), (0, code)]) (S := []) rfl rfl rfl rfl rfl rfl (by have := yN_0 (yS_n (s := 37) (i := m) yS_37 (by omega)); omega) (yN_c (yS_n (s := 37) (i := m) yS_37 (by omega))) (c_takeShort (n := n) (code := code) (yS_n (s := 37) (i := m) yS_37 (by omega)) (by omega)) ?_
      rintro σ2 ⟨w1, w2, w3, w4, w5⟩
      have g6 : ∀ k, wshort n code k ≤ 3 ∧ 0 ≤ wshort n code k := fun k => by have := yand_3 (yshr code (2 * (n - 1 - k))); unfold wshort; omega
      have hfl : bflaw (wshort n code) n.toNat = -1 := bflaw_plain (fun k x y => by have := g6 k; omega)
      have r5 : rep σ2 37 (shE (Z 0) m n code) (yset (shD (Z 1) m n) 6 0 (C 6 0)) := by
        refine rep_take z1 hm.1 e2.2 w5 w1 (fun y y1 y2 => w2 y y1 y2) (Or.inl w4) w3 ?_
        have q1 := w1.1
        have q2 := w1.2.2.1
        show (if n = 0 then (1 : Int) else 0) = 0 ↔ ¬ (σ2 (40 + 3 * m) 8 ≠ 0 ∨ σ2 (40 + 3 * m) 2 = 0 ∨ σ2 (40 + 3 * m) 3 ≠ -1)
        have q3 : σ2 (40 + 3 * m) 8 = 0 := w4
        split <;> omega
      have g5 : ∀ k, 0 ≤ k → k < n → 0 ≤ wshort n code k ∧ wshort n code k ≤ 13 := fun k k1 k2 => by have := g6 k; omega
      have g2e : eG (shE (Z 0) m n code) := eG_slp he0 hm.1 (by omega) g5
      have g2d : dG (shE (Z 0) m n code) (shD (Z 1) m n) := dG_slp hd he0 hm.1 (by omega) (by split; exact Or.inr rfl; exact Or.inl ⟨rfl, by omega, hfl⟩)
      refine y_aload rfl rfl rfl ?_
      refine y_gfr (t := 37) rfl rfl (by decide) rfl (by decide) ?_
      refine y_vi (as := [(2, 37)]) (S := []) rfl rfl rfl rfl rfl rfl (yS_0 yS_37).1 (yS_c yS_37) (c_settle yS_37 r5 g2e (dG_w6 g2d) (by unfold shD slpD; rw [yne (by omega) rfl, yne (by omega) rfl, yne (by omega) rfl]; omega)) ?_
      rintro b_ σ3 ⟨y1, y2, y3, y4⟩
      have y5 := sets_w y1
      have hs1 : sfr σ σ3 := sfr_y (sfr_y (sfr_y h1 z2 (by omega)) w5 (by omega)) y3 (by omega)
      have hw : b_ ≠ -1 → σ3 38 c = msteps (shE (Z 0) m n code) (shD (Z 1) m n) b_.toNat 0 c := fun z => by
        have r6 := (y2 z).2.1 c (by omega) (by omega)
        rw [msteps_w (by omega)] at r6
        exact r6
      have hb0 : b_ = -1 ∨ 0 ≤ b_ := by
        rcases y5 with z | z
        · exact Or.inr z.1
        · exact Or.inl z.1
      refine y_push rfl ?_
      refine y_iceq rfl (fun q129 => ?_) (fun q129 => ?_)
      · skip
        refine y_iinc (L' := [some (2, 0), some (0, m), some (0, c), some (0, v), some (0, i), some (0, n), some (0, (4 ^ n.toNat)), some (0, (code + 1))]) rfl rfl rfl rfl rfl (by omega) ?_
        refine y_goto rfl ?_
        have hno : ¬ shok (Z 0) (Z 1) m c v n code := fun ⟨b', p1, p2, p3⟩ => by
          have := sets_one y5 p2
          subst this
          omega
        refine ih σ3 (code + 1) (by omega) (by omega) hs1 (rowc_cong e2 h2 (fun x a b => by rw [y3 _ _ (by omega), w5 _ _ (by omega), z2 _ _ (by omega)])) ?_ h4 ?_
        · obtain ⟨nu, _, y6⟩ := y4
          exact ⟨_, _, _, y6, by omega, g5⟩
        · intro k a b
          rcases (by omega : k < code ∨ k = code) with z | rfl
          · exact h5 k a z
          · exact hno
      · skip
        refine y_aload rfl rfl rfl ?_
        refine y_gfr (t := 37) rfl rfl (by decide) rfl (by decide) ?_
        refine y_gfr (t := 38) rfl (yS_c yS_37) (yS_0 yS_37).1 rfl (by decide) ?_
        refine y_iload rfl rfl ?_
        refine y_iald (v := (σ3 38 c)) (n := 9) rfl rfl (by decide) rfl (by omega) rfl ?_
        refine y_iload rfl rfl ?_
        refine y_icne rfl (fun q142 => ?_) (fun q142 => ?_)
        · skip
          refine y_iinc (L' := [some (2, 0), some (0, m), some (0, c), some (0, v), some (0, i), some (0, n), some (0, (4 ^ n.toNat)), some (0, (code + 1))]) rfl rfl rfl rfl rfl (by omega) ?_
          refine y_goto rfl ?_
          have hno : ¬ shok (Z 0) (Z 1) m c v n code := fun ⟨b', p1, p2, p3⟩ => by
            have := sets_one y5 p2
            subst this
            exact q142 (by rw [hw (by omega)]; exact p3)
          refine ih σ3 (code + 1) (by omega) (by omega) hs1 (rowc_cong e2 h2 (fun x a b => by rw [y3 _ _ (by omega), w5 _ _ (by omega), z2 _ _ (by omega)])) ?_ h4 ?_
          · obtain ⟨nu, _, y6⟩ := y4
            exact ⟨_, _, _, y6, by omega, g5⟩
          · intro k a b
            rcases (by omega : k < code ∨ k = code) with z | rfl
            · exact h5 k a z
            · exact hno
        · skip
          refine y_iload rfl rfl ?_
          refine y_iload rfl rfl ?_
          refine y_iload rfl rfl ?_
          refine y_si (as := [(0, n), (0, code), (0, i)]) (S := []) rfl rfl rfl rfl rfl rfl (c_partOfShort (by omega) (by omega)) ?_
          rintro _ _ ⟨rfl, rfl⟩
          refine y_iret rfl rfl ⟨_, rfl, ?_⟩
          exact ⟨by rw [if_pos hm]; exact ⟨Or.inl ⟨n, code, by omega, by omega, ⟨b_, by omega, y5, by rw [← hw q129]; exact q142⟩, h5, h4, rfl⟩, xW_sfr hg hx hs1⟩, sfr_m hs1⟩
theorem l_short1 {g : Launch × XG × va_G} {σ : YS} {Z : YZ} {I : Int → YZ} {M : YS} {N : Int} {m c v i : Int} (hx : xW σ Z I M) (hg : wG Z I M N) (hN : N < 100000) (hm : (0 ≤ m ∧ m < Z 0 1 0) ∧ (0 ≤ c ∧ c < Z 0 0 0) ∧ (0 ≤ v ∧ v ≤ 20) ∧ -1 ≤ i) : ∀ (nn : Nat) (τ : YS) (n : Int), 6 - n < (nn : Int) → (0 ≤ n ∧ n ≤ 6) → (sfr σ τ) → (rowc τ 546 (Z 0) (Z 1)) → (tst τ (Z 0) m) → (∀ q, 0 ≤ q → q < n → ∀ k, 0 ≤ k → k < 4 ^ q.toNat → ¬ shok (Z 0) (Z 1) m c v q k) → YW g 85 70 [some (2, 0), some (0, m), some (0, c), some (0, v), some (0, i), some (0, n), none, none] [] τ (fun rv σ' => ∃ b, rv = some (0, b) ∧ ((if (0 ≤ m ∧ m < Z 0 1 0) ∧ (0 ≤ c ∧ c < Z 0 0 0) ∧ (0 ≤ v ∧ v ≤ 20) ∧ -1 ≤ i then shans (Z 0) (Z 1) m c v i b ∧ xW σ' Z I M else b = -10 ∧ xW σ' Z I (bump M 0)) ∧ mfr σ σ')) := by
  intro nn
  induction nn with
  | zero =>
    intro τ n hn h0 h1 h2 h3 h4
    exfalso
    omega
  | succ nn ih =>
    intro τ n hn h0 h1 h2 h3 h4
    have ⟨⟨hr, hu⟩, x2, x3, ⟨x4, x5⟩, x6⟩ := hx
    have ⟨⟨he, hd, hn, hu2, h67, hk⟩, g2, g3, g4⟩ := hg
    have ⟨⟨f1, f2, f3, f4⟩, f5, f6, g7, g8⟩ := hr
    have ⟨e1, e2, e3⟩ := he
    have ⟨u1, u2, u3⟩ := hu
    have x60 : σ 0 11 = M 3 0 := x6 0 (by omega) (by omega)
    have x61 : σ 0 12 = M 3 1 := x6 1 (by omega) (by omega)
    have x62 : σ 0 13 = M 3 2 := x6 2 (by omega) (by omega)
    have g40 := g4 0 (by omega) (by omega)
    have g41 := g4 1 (by omega) (by omega)
    have g42 := g4 2 (by omega) (by omega)
    have f5 : ∀ c, 0 ≤ c → c < 9 → σ 2 c = Z 1 0 c := f5
    have f6 : ∀ i, 0 ≤ i → i < Z 0 1 0 → repm σ (4 + 3 * i) (Z 0) (Z 1) i := f6
    have t0 : ∀ x y, 1 ≤ x → x ≤ 13 → τ x y = σ x y := fun x y x1 x2 => h1 x y (by omega)
    have ⟨tm1, tm2, tm3⟩ := e3 m (by omega) (by omega)
    have ⟨dm1, dm2, dm3, dm4⟩ := hd.2 m (by omega) (by omega)
    have he0 := hg.1.1
    refine y_iload rfl rfl ?_
    refine y_push rfl ?_
    refine y_icgt rfl (fun q73 => ?_) (fun q73 => ?_)
    · skip
      refine y_push rfl ?_
      refine y_iret rfl rfl ⟨_, rfl, ?_⟩
      exact ⟨by rw [if_pos hm]; exact ⟨Or.inr ⟨fun q a b => h4 q a (by omega), rfl⟩, xW_sfr hg hx h1⟩, sfr_m h1⟩
    · skip
      have p4 := ysh4 (n := n) (by omega)
      refine y_push rfl ?_
      refine y_push rfl ?_
      refine y_iload rfl rfl ?_
      refine y_imul (v := (2 * n)) rfl rfl (by omega) ?_
      refine y_ishl (v := (4 ^ n.toNat)) rfl p4.1 ?_
      refine y_istore (L' := [some (2, 0), some (0, m), some (0, c), some (0, v), some (0, i), some (0, n), some (0, (4 ^ n.toNat)), none]) rfl rfl rfl rfl ?_
      refine y_push rfl ?_
      refine y_istore (L' := [some (2, 0), some (0, m), some (0, c), some (0, v), some (0, i), some (0, n), some (0, (4 ^ n.toNat)), some (0, 0)]) rfl rfl rfl rfl ?_
      exact l_short2 (fun τ n => ih τ n) hx hg hN hm (by omega) (by omega) 1025 τ 0 (by omega) (by omega) h1 h2 h3 h4 (fun k a b => by omega)
theorem c_shortest {g : Launch × XG × va_G} {σ : YS} {Z : YZ} {I : Int → YZ} {M : YS} {N : Int} {m c v i : Int} (hx : xW σ Z I M) (hg : wG Z I M N) (hN : N < 100000) : YI g 85 [(2, 0), (0, m), (0, c), (0, v), (0, i)] σ (fun b σ' => (if (0 ≤ m ∧ m < Z 0 1 0) ∧ (0 ≤ c ∧ c < Z 0 0 0) ∧ (0 ≤ v ∧ v ≤ 20) ∧ -1 ≤ i then shans (Z 0) (Z 1) m c v i b ∧ xW σ' Z I M else b = -10 ∧ xW σ' Z I (bump M 0)) ∧ mfr σ σ') := by
  refine y_start rfl rfl rfl ?_
  have ⟨⟨hr, hu⟩, x2, x3, ⟨x4, x5⟩, x6⟩ := hx
  have ⟨⟨he, hd, hn, hu2, h67, hk⟩, g2, g3, g4⟩ := hg
  have ⟨⟨f1, f2, f3, f4⟩, f5, f6, g7, g8⟩ := hr
  have ⟨e1, e2, e3⟩ := he
  have ⟨u1, u2, u3⟩ := hu
  have x60 : σ 0 11 = M 3 0 := x6 0 (by omega) (by omega)
  have x61 : σ 0 12 = M 3 1 := x6 1 (by omega) (by omega)
  have x62 : σ 0 13 = M 3 2 := x6 2 (by omega) (by omega)
  have g40 := g4 0 (by omega) (by omega)
  have g41 := g4 1 (by omega) (by omega)
  have g42 := g4 2 (by omega) (by omega)
  have f5 : ∀ c, 0 ≤ c → c < 9 → σ 2 c = Z 1 0 c := f5
  have f6 : ∀ i, 0 ≤ i → i < Z 0 1 0 → repm σ (4 + 3 * i) (Z 0) (Z 1) i := f6
  refine y_aload rfl rfl rfl ?_
  refine y_gfr (t := 1) rfl rfl (by decide) rfl (by decide) ?_
  refine y_iload rfl rfl ?_
  refine y_vi (as := [(2, 1), (0, m)]) (S := []) rfl rfl rfl rfl rfl rfl (yS_0 yS_1).1 (yS_c yS_1) (c_hasMan yS_1) ?_
  rintro _ _ ⟨rfl, rfl⟩
  refine y_ifeq rfl (fun q8 => ?_) (fun q8 => ?_)
  · skip
    replace q8 := yb_0.mp q8
    refine y_aload rfl rfl rfl ?_
    refine y_push rfl ?_
    refine y_vi (as := [(2, 0), (0, (-10))]) (S := []) rfl rfl rfl rfl rfl rfl (by decide) rfl (c_bad (by omega)) ?_
    rintro _ _ ⟨rfl, rfl⟩
    refine y_iret rfl rfl ⟨_, rfl, ?_⟩
    exact ⟨by rw [if_neg (by omega)]; exact ⟨rfl, xW_bump hg hx (by omega) rfl rfl⟩, mfr_s (mfr_0 _) (by omega)⟩
  · skip
    replace q8 := yb_1.mp q8
    refine y_aload rfl rfl rfl ?_
    refine y_gfr (t := 1) rfl rfl (by decide) rfl (by decide) ?_
    refine y_iload rfl rfl ?_
    refine y_vi (as := [(2, 1), (0, c)]) (S := []) rfl rfl rfl rfl rfl rfl (yS_0 yS_1).1 (yS_c yS_1) (c_hasCell yS_1) ?_
    rintro _ _ ⟨rfl, rfl⟩
    refine y_ifeq rfl (fun q19 => ?_) (fun q19 => ?_)
    · skip
      replace q19 := yb_0.mp q19
      refine y_aload rfl rfl rfl ?_
      refine y_push rfl ?_
      refine y_vi (as := [(2, 0), (0, (-10))]) (S := []) rfl rfl rfl rfl rfl rfl (by decide) rfl (c_bad (by omega)) ?_
      rintro _ _ ⟨rfl, rfl⟩
      refine y_iret rfl rfl ⟨_, rfl, ?_⟩
      exact ⟨by rw [if_neg (by omega)]; exact ⟨rfl, xW_bump hg hx (by omega) rfl rfl⟩, mfr_s (mfr_0 _) (by omega)⟩
    · skip
      replace q19 := yb_1.mp q19
      refine y_iload rfl rfl ?_
      refine y_iflt rfl (fun q23 => ?_) (fun q23 => ?_)
      · skip
        refine y_aload rfl rfl rfl ?_
        refine y_push rfl ?_
        refine y_vi (as := [(2, 0), (0, (-10))]) (S := []) rfl rfl rfl rfl rfl rfl (by decide) rfl (c_bad (by omega)) ?_
        rintro _ _ ⟨rfl, rfl⟩
        refine y_iret rfl rfl ⟨_, rfl, ?_⟩
        exact ⟨by rw [if_neg (by omega)]; exact ⟨rfl, xW_bump hg hx (by omega) rfl rfl⟩, mfr_s (mfr_0 _) (by omega)⟩
      · skip
        refine y_iload rfl rfl ?_
        refine y_push rfl ?_
        refine y_icgt rfl (fun q29 => ?_) (fun q29 => ?_)
        · skip
          refine y_aload rfl rfl rfl ?_
          refine y_push rfl ?_
          refine y_vi (as := [(2, 0), (0, (-10))]) (S := []) rfl rfl rfl rfl rfl rfl (by decide) rfl (c_bad (by omega)) ?_
          rintro _ _ ⟨rfl, rfl⟩
          refine y_iret rfl rfl ⟨_, rfl, ?_⟩
          exact ⟨by rw [if_neg (by omega)]; exact ⟨rfl, xW_bump hg hx (by omega) rfl rfl⟩, mfr_s (mfr_0 _) (by omega)⟩
        · skip
          refine y_iload rfl rfl ?_
          refine y_push rfl ?_
          refine y_icge rfl (fun q35 => ?_) (fun q35 => ?_)
          · skip
            refine y_aload rfl rfl rfl ?_
            refine y_gfr (t := 37) rfl rfl (by decide) rfl (by decide) ?_
            refine y_aload rfl rfl rfl ?_
            refine y_gfr (t := 1) rfl rfl (by decide) rfl (by decide) ?_
            refine y_vu (as := [(2, 37), (2, 1)]) (S := []) rfl rfl rfl rfl rfl rfl (yS_0 yS_37).1 (yS_c yS_37) (c_scopy (s := 37) (z := 1) yS_37 yS_1 (by omega) hr he) ?_
            rintro σ1 ⟨z1, z2⟩
            refine y_aload rfl rfl rfl ?_
            refine y_gfr (t := 1) rfl rfl (by decide) rfl (by decide) ?_
            refine y_aload rfl rfl rfl ?_
            refine y_gfr (t := 546) rfl rfl (by decide) rfl (by decide) ?_
            have hr1 : rep σ1 1 (Z 0) (Z 1) := rep_cong e2.2 hr (fun x y a b => z2 x y (by omega))
            refine y_vu (as := [(2, 1), (2, 546)]) (S := []) rfl rfl rfl rfl rfl rfl (yS_0 yS_1).1 (yS_c yS_1) (c_save yS_1 yR_546 (by omega) hr1 he) ?_
            rintro σ2 ⟨w1, w2⟩
            refine y_push rfl ?_
            refine y_istore (L' := [some (2, 0), some (0, m), some (0, c), some (0, v), some (0, i), some (0, 0), none, none]) rfl rfl rfl rfl ?_
            have ⟨_, hm32, hm33⟩ := e3 m (by omega) (by omega)
            exact l_short1 hx hg hN (by omega) 7 σ2 0 (by omega) (by omega) (sfr_y (sfr_y (sfr_0 _) z2 (by omega)) w2 (by omega)) w1 ⟨Z 0 (10 + m), Z 0 3 m, _, by rw [slpE_id]; exact rep_cong e2.2 z1 (fun x y a b => w2 x y (by omega)), hm32, hm33⟩ (fun q a b => by omega)
          · skip
            refine y_aload rfl rfl rfl ?_
            refine y_push rfl ?_
            refine y_vi (as := [(2, 0), (0, (-10))]) (S := []) rfl rfl rfl rfl rfl rfl (by decide) rfl (c_bad (by omega)) ?_
            rintro _ _ ⟨rfl, rfl⟩
            refine y_iret rfl rfl ⟨_, rfl, ?_⟩
            exact ⟨by rw [if_neg (by omega)]; exact ⟨rfl, xW_bump hg hx (by omega) rfl rfl⟩, mfr_s (mfr_0 _) (by omega)⟩
