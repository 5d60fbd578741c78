theorem slpE_2 {E : YS} {m n n' : Int} {f f' : Int → Int} : slpE (slpE E m f n) m f' n' = slpE E m f' n' := by
  funext r c
  unfold slpE
  split
  · rfl
  · rename_i h
    by_cases e : r = 3 ∧ c = m
    · obtain ⟨rfl, rfl⟩ := e; rw [yeq, yeq]
    · rw [yne e rfl, yne e rfl, if_neg h, yne e rfl]
theorem slpE_id {E : YS} {m : Int} : slpE E m (E (10 + m)) (E 3 m) = E := by
  funext r c
  unfold slpE
  split
  · rename_i h; rw [h]
  · by_cases e : r = 3 ∧ c = m
    · obtain ⟨rfl, rfl⟩ := e; rw [yeq]
    · rw [yne e rfl]
theorem slpD_2 {D : YS} {m p st v w : Int} : slpD (yset (yset D 4 m v) 6 0 w) m p st = yset (slpD D m p st) 6 0 w := by
  funext r c
  unfold slpD
  by_cases e4 : r = 4 ∧ c = m
  · obtain ⟨rfl, rfl⟩ := e4; rw [yeq, yne (by omega) rfl, yeq]
  · rw [yne e4 rfl]
    by_cases e3 : r = 3 ∧ c = m
    · obtain ⟨rfl, rfl⟩ := e3; rw [yeq, yne (by omega) rfl, yne (by omega) rfl, yeq]
    · rw [yne e3 rfl]
      by_cases e6 : r = 6 ∧ c = 0
      · obtain ⟨rfl, rfl⟩ := e6; rw [yeq, yeq]
      · rw [yne e6 rfl, yne e4 rfl, yne e6 rfl, yne e4 rfl, yne e3 rfl]
theorem row_m {σ : YS} {r : Int} {E C : YS} {m n : Int} {f : Int → Int} (h3 : E 1 0 ≤ 3) (h : rowc σ r E C) (hm : 0 ≤ m) : ∃ v, rowc σ r (slpE E m f n) (yset C 4 m v) := by
  by_cases hb : E 1 0 ≤ m
  · refine ⟨0, fun c a b => by rw [yne (by omega) rfl]; exact h.1 c a b, fun i a b => ?_, ?_, by rw [yne (by omega) rfl]; exact h.2.2.2⟩
    · rw [slpE_g (by omega) (by omega)] at b
      have := h.2.1 i a b
      unfold rowci at this ⊢
      rw [yne (by omega) rfl, yne (by omega) rfl, yne (by omega) rfl, yne (by omega) rfl, mfl_E (slpE_g (by omega) (by omega)) (fun k _ _ => slpE_g (by omega) (by omega)), slpE_g (by omega) (by omega)]
      exact this
    · intro k a b
      by_cases e1 : (1 : Int) = 10 + m
      · omega
      · rw [slpE_g (by omega) (by omega)] at a; exact h.2.2.1 k a b
  refine ⟨if σ r (9 + 4 * m + 3) = 1 ∨ n = 0 ∨ bflaw f n.toNat ≠ -1 then 1 else 0, fun c a b => by rw [yne (by omega) rfl]; exact h.1 c a b, fun i a b => ?_, ?_, by rw [yne (by omega) rfl]; exact h.2.2.2⟩
  · rw [slpE_g (by omega) (by omega)] at b
    obtain ⟨d1, d2, d3, d4, d5⟩ := h.2.1 i a b
    by_cases e : i = m
    · subst e
      unfold rowci
      rw [yne (by omega) rfl, yne (by omega) rfl, yne (by omega) rfl, yeq, slpE_l a, slpE_3 a]
      refine ⟨d1, d2, d3, d4, ?_⟩
      split
      · rename_i z; constructor
        · intro y; omega
        · intro y; exact absurd z y
      · rename_i z; constructor
        · intro y; exact z
        · intro y; rfl
    · unfold rowci
      rw [yne (by omega) rfl, yne (by omega) rfl, yne (by omega) rfl, yne (by omega) rfl, mfl_E (slpE_g (by omega) (by omega)) (fun k _ _ => slpE_g (by omega) (by omega)), slpE_g (by omega) (by omega)]
      exact ⟨d1, d2, d3, d4, d5⟩
  · intro k a b
    rw [slpE_g (by omega) (by omega)] at a; exact h.2.2.1 k a b
def tst (τ : YS) (E : YS) (m : Int) : Prop := ∃ f n C, rep τ 37 (slpE E m f n) C ∧ (0 ≤ n ∧ n ≤ 24) ∧ ∀ k, 0 ≤ k → k < n → 0 ≤ f k ∧ f k ≤ 13
theorem rep_take {σ τ : YS} {s m n n' v w p st : Int} {f f' : Int → Int} {E D : YS} (hr : rep σ s (slpE E m f n) (yset (yset D 4 m v) 6 0 w)) (hm : 0 ≤ m ∧ m < E 1 0) (h3 : E 1 0 ≤ 3) (h1 : yfr σ τ (s + 3 + 3 * m) (s + 3 + 3 * m + 2)) (hl : lrn τ (s + 3 + 3 * m) f' n') (h4 : ∀ y, 4 ≤ y → y ≤ 6 → τ (s + 3 + 3 * m) y = σ (s + 3 + 3 * m) y) (h8 : τ (s + 3 + 3 * m) 8 = 0 ∨ τ (s + 3 + 3 * m) 8 = 1) (hp : τ (s + 3 + 3 * m) 7 = p) (hs : st = 0 ↔ ¬ mst τ (s + 3 + 3 * m)) : rep τ s (slpE E m f' n') (yset (slpD D m p st) 6 0 w) := by
  have := rep_slp (τ := τ) (f := f') (n := n') hr (by rw [slpE_g (by omega) (by omega)]; exact hm) (by rw [slpE_g (by omega) (by omega)]; exact h3) (fun x y x1 x2 x3 x4 x5 => h1 x y (by omega)) hl h4 h8 hp hs
  rw [slpE_2, slpD_2] at this
  exact this
theorem l_thief2 {g : Launch × XG × va_G} {σ : YS} {Z : YZ} {I : Int → YZ} {M : YS} {N : Int} {m c : Int} {p : Int} {nn0 : Nat} (ihO : ∀ (τ : YS) (best most p : Int), Z 0 3 m + 1 - p < (nn0 : Int) → (0 ≤ p ∧ p ≤ Z 0 3 m + 1) → sfr σ τ → rowc τ 546 (Z 0) (Z 1) → tst τ (Z 0) m → YW g 83 76 [some (2, 0), some (0, m), some (0, c), some (0, best), some (0, most), some (0, p), none] [] τ (fun rv σ' => ∃ b, rv = some (0, b) ∧ ((xW σ' Z I (if ((0 ≤ m ∧ m < Z 0 1 0) ∧ 0 ≤ c ∧ c < Z 0 0 0) ∧ Z 0 3 m < 24 then M else bump M 0)) ∧ mfr σ σ'))) (hx : xW σ Z I M) (hg : wG Z I M N) (hN : N < 100000) (hm : (0 ≤ m ∧ m < Z 0 1 0) ∧ 0 ≤ c ∧ c < Z 0 0 0) (hl : Z 0 3 m < 24) (hp : 0 ≤ p ∧ p ≤ Z 0 3 m) (hpn : Z 0 3 m + 1 - p < (nn0 : Int) + 1) : ∀ (nn : Nat) (τ : YS) (sg : Int) (best : Int) (most : Int), 6 - sg < (nn : Int) → (0 ≤ sg ∧ sg ≤ 6) → (sfr σ τ) → (rowc τ 546 (Z 0) (Z 1)) → (tst τ (Z 0) m) → YW g 83 96 [some (2, 0), some (0, m), some (0, c), some (0, best), some (0, most), some (0, p), some (0, sg)] [] τ (fun rv σ' => ∃ b, rv = some (0, b) ∧ ((xW σ' Z I (if ((0 ≤ m ∧ m < Z 0 1 0) ∧ 0 ≤ c ∧ c < Z 0 0 0) ∧ Z 0 3 m < 24 then M else bump M 0)) ∧ mfr σ σ')) := by
  intro nn
  induction nn with
  | zero =>
    intro τ sg best most hn h0 h1 h2 h3
    exfalso
    omega
  | succ nn ih =>
    intro τ sg best most hn h0 h1 h2 h3
    have ⟨⟨hr, hu⟩, x2, x3, ⟨x4, x5⟩, x6⟩ := hx
    have ⟨⟨he, hd, hn, hu2, h67, hk⟩, g2, g3, g4⟩ := hg
    have ⟨⟨f1, f2, f3, f4⟩, f5, f6, g7, g8⟩ := hr
    have ⟨e1, e2, e3⟩ := he
    have ⟨u1, u2, u3⟩ := hu
    have x60 : σ 0 11 = M 3 0 := x6 0 (by omega) (by omega)
    have x61 : σ 0 12 = M 3 1 := x6 1 (by omega) (by omega)
    have x62 : σ 0 13 = M 3 2 := x6 2 (by omega) (by omega)
    have g40 := g4 0 (by omega) (by omega)
    have g41 := g4 1 (by omega) (by omega)
    have g42 := g4 2 (by omega) (by omega)
    have f5 : ∀ c, 0 ≤ c → c < 9 → σ 2 c = Z 1 0 c := f5
    have f6 : ∀ i, 0 ≤ i → i < Z 0 1 0 → repm σ (4 + 3 * i) (Z 0) (Z 1) i := f6
    have t0 : ∀ x y, 1 ≤ x → x ≤ 13 → τ x y = σ x y := fun x y x1 x2 => h1 x y (by omega)
    have hm4 := f6 m (by omega) (by omega)
    have ⟨tm1, tm2, tm3⟩ := e3 m (by omega) (by omega)
    have ⟨dm1, dm2, dm3, dm4⟩ := hd.2 m (by omega) (by omega)
    have tl : τ (4 + 3 * m) 2 = Z 0 3 m := by rw [t0 _ _ (by omega) (by omega)]; exact hm4.1.1
    have he0 := hg.1.1
    refine y_iload rfl rfl ?_
    refine y_push rfl ?_
    refine y_icge rfl (fun q100 => ?_) (fun q100 => ?_)
    · skip
      refine y_iinc (L' := [some (2, 0), some (0, m), some (0, c), some (0, best), some (0, most), some (0, (p + 1)), some (0, sg)]) rfl rfl rfl rfl rfl (by omega) ?_
      refine y_goto rfl ?_
      refine y_forget (M := [some (2, 0), some (0, m), some (0, c), some (0, best), some (0, most), some (0, (p + 1)), none]) ⟨Or.inr rfl, Or.inr rfl, Or.inr rfl, Or.inr rfl, Or.inr rfl, Or.inr rfl, Or.inl rfl, trivial⟩ ?_
      exact ihO τ best most (p + 1) (by omega) (by omega) h1 h2 h3
    · skip
      refine y_aload rfl rfl rfl ?_
      refine y_gfr (t := 37) rfl rfl (by decide) rfl (by decide) ?_
      refine y_aload rfl rfl rfl ?_
      refine y_gfr (t := 546) rfl rfl (by decide) rfl (by decide) ?_
      have ⟨F, fn, C, r1, r2, r3⟩ := h3
      have ⟨rv, q1⟩ := row_m (f := F) (n := fn) e2.2 h2 hm.1.1
      have ge := eG_slp he0 hm.1 r2 r3
      refine y_vu (as := [(2, 37), (2, 546)]) (S := []) rfl rfl rfl rfl rfl rfl (yS_0 yS_37).1 (yS_c yS_37) (c_load yS_37 yR_546 (by omega) r1 ge q1) ?_
      rintro σ1 ⟨z1, z2⟩
      refine y_aload rfl rfl rfl ?_
      refine y_gfr (t := 37) rfl rfl (by decide) rfl (by decide) ?_
      refine y_gfr (t := 39) rfl (yS_c yS_37) (yS_0 yS_37).1 rfl (by decide) ?_
      refine y_iload rfl rfl ?_
      refine y_aald (v := (40 + 3 * m)) (n := 3) rfl (yS_m yS_37) (by have := yS_0 yS_37; omega) rfl (by omega) rfl ?_
      refine y_aload rfl rfl rfl ?_
      refine y_gfr (t := 1) rfl rfl (by decide) rfl (by decide) ?_
      refine y_gfr (t := 3) rfl (yS_c yS_1) (yS_0 yS_1).1 rfl (by decide) ?_
      refine y_iload rfl rfl ?_
      refine y_aald (v := (4 + 3 * m)) (n := 3) rfl (yS_m yS_1) (by have := yS_0 yS_1; omega) rfl (by omega) rfl ?_
      refine y_iload rfl rfl ?_
      refine y_iload rfl rfl ?_
      have l4 : lrn σ1 (4 + 3 * m) (msg (Z 0) m) (Z 0 3 m) := lrn_cong hm4.1 (fun x y hx => by rw [z2 x y (by omega), t0 x y (by omega) (by omega)])
      have p4 : σ1 (4 + 3 * m) 7 = Z 1 3 m := by rw [z2 _ _ (by omega), t0 _ _ (by omega) (by omega)]; exact hm4.2.2.1.2.2
      have t40 : repm σ1 (40 + 3 * m) (slpE (Z 0) m F fn) _ m := z1.2.2.1 m (by omega) (by rw [slpE_g (by omega) (by omega)]; omega)
      refine y_vu (as := [(2, (40 + 3 * m)), (2, (4 + 3 * m)), (0, p), (0, sg)]) (S := []) rfl rfl rfl rfl rfl rfl (by have := yN_0 (yS_n (s := 37) (i := m) yS_37 (by omega)); omega) (yN_c (yS_n (s := 37) (i := m) yS_37 (by omega))) (c_takeWith (f := msg (Z 0) m) (n := Z 0 3 m) (i := p) (sg := sg) (yS_n (s := 37) (i := m) yS_37 (by omega)) (yS_n (s := 1) (i := m) yS_1 (by omega)) (by omega) l4 (by omega) tm3 (by omega) (by omega) (by omega)) ?_
      rintro σ2 ⟨w1, w2, w3, w4⟩
      have p5 : 0 ≤ σ2 (40 + 3 * m) 7 ∧ σ2 (40 + 3 * m) 7 ≤ Z 0 3 m + 1 := by rw [w3]; split <;> omega
      have r5 := rep_take (p := σ2 (40 + 3 * m) 7) (st := if mst σ2 (40 + 3 * m) then 1 else 0) z1 hm.1 e2.2 w4 w1 (fun y y1 y2 => w2 y (by omega) (by omega)) (by rw [show σ2 (37 + 3 + 3 * m) 8 = σ1 (40 + 3 * m) 8 from w2 8 (by omega) (by omega)]; exact t40.2.2.2.2) rfl (by show (if mst σ2 (40 + 3 * m) then (1 : Int) else 0) = 0 ↔ ¬ mst σ2 (40 + 3 * m); split <;> simp_all)
      have g5 : ∀ k, 0 ≤ k → k < Z 0 3 m + 1 → 0 ≤ wwith (msg (Z 0) m) p sg k ∧ wwith (msg (Z 0) m) p sg k ≤ 13 := fun k k1 k2 => by unfold wwith; split; exact tm3 k k1 (by omega); split; omega; exact tm3 (k - 1) (by omega) (by omega)
      have g2e := eG_slp he0 hm.1 (n := Z 0 3 m + 1) (by omega) g5
      have g2d := dG_slp (f := wwith (msg (Z 0) m) p sg) (n := Z 0 3 m + 1) (st := if mst σ2 (40 + 3 * m) then 1 else 0) hd he0 hm.1 p5 (by have := w1.1; have := w1.2.2.1; split; exact Or.inr rfl; rename_i z; unfold mst at z; exact Or.inl ⟨rfl, by omega, by omega⟩)
      refine y_aload rfl rfl rfl ?_
      refine y_gfr (t := 37) rfl rfl (by decide) rfl (by decide) ?_
      refine y_vi (as := [(2, 37)]) (S := []) rfl rfl rfl rfl rfl rfl (yS_0 yS_37).1 (yS_c yS_37) (c_settle yS_37 r5 g2e (dG_w6 g2d) (by unfold slpD; rw [yne (by omega) rfl, yne (by omega) rfl, yne (by omega) rfl]; omega)) ?_
      rintro b_ σ3 ⟨y1, y2, y3, y4⟩
      refine y_push rfl ?_
      refine y_iceq rfl (fun q147 => ?_) (fun q147 => ?_)
      · skip
        refine y_iinc (L' := [some (2, 0), some (0, m), some (0, c), some (0, best), some (0, most), some (0, p), some (0, (sg + 1))]) rfl rfl rfl rfl rfl (by omega) ?_
        refine y_goto rfl ?_
        refine ih σ3 (sg + 1) best most (by omega) (by omega) (sfr_y (sfr_y (sfr_y h1 z2 (by omega)) w4 (by omega)) y3 (by omega)) (rowc_cong e2 h2 (fun x a b => by rw [y3 _ _ (by omega), w4 _ _ (by omega), z2 _ _ (by omega)])) ?_
        obtain ⟨nu, _, y5⟩ := y4
        exact ⟨_, _, _, y5, by omega, g5⟩
      · skip
        refine y_aload rfl rfl rfl ?_
        refine y_gfr (t := 37) rfl rfl (by decide) rfl (by decide) ?_
        refine y_gfr (t := 38) rfl (yS_c yS_37) (yS_0 yS_37).1 rfl (by decide) ?_
        refine y_iload rfl rfl ?_
        refine y_iald (v := (σ3 38 c)) (n := 9) rfl rfl (by decide) rfl (by omega) rfl ?_
        refine y_iload rfl rfl ?_
        refine y_icle rfl (fun q161 => ?_) (fun q161 => ?_)
        · skip
          refine y_iinc (L' := [some (2, 0), some (0, m), some (0, c), some (0, best), some (0, most), some (0, p), some (0, (sg + 1))]) rfl rfl rfl rfl rfl (by omega) ?_
          refine y_goto rfl ?_
          refine ih σ3 (sg + 1) best most (by omega) (by omega) (sfr_y (sfr_y (sfr_y h1 z2 (by omega)) w4 (by omega)) y3 (by omega)) (rowc_cong e2 h2 (fun x a b => by rw [y3 _ _ (by omega), w4 _ _ (by omega), z2 _ _ (by omega)])) ?_
          obtain ⟨nu, _, y5⟩ := y4
          exact ⟨_, _, _, y5, by omega, g5⟩
        · skip
          refine y_aload rfl rfl rfl ?_
          refine y_gfr (t := 37) rfl rfl (by decide) rfl (by decide) ?_
          refine y_gfr (t := 38) rfl (yS_c yS_37) (yS_0 yS_37).1 rfl (by decide) ?_
          refine y_iload rfl rfl ?_
          refine y_iald (v := (σ3 38 c)) (n := 9) rfl rfl (by decide) rfl (by omega) rfl ?_
          refine y_istore (L' := [some (2, 0), some (0, m), some (0, c), some (0, best), some (0, (σ3 38 c)), some (0, p), some (0, sg)]) rfl rfl rfl rfl ?_
          refine y_push rfl ?_
          refine y_iload rfl rfl ?_
          refine y_imul (v := (10 * p)) rfl rfl (by omega) ?_
          refine y_iload rfl rfl ?_
          refine y_iadd (v := ((10 * p) + sg)) rfl rfl (by omega) ?_
          refine y_istore (L' := [some (2, 0), some (0, m), some (0, c), some (0, ((10 * p) + sg)), some (0, (σ3 38 c)), some (0, p), some (0, sg)]) rfl rfl rfl rfl ?_
          refine y_iinc (L' := [some (2, 0), some (0, m), some (0, c), some (0, ((10 * p) + sg)), some (0, (σ3 38 c)), some (0, p), some (0, (sg + 1))]) rfl rfl rfl rfl rfl (by omega) ?_
          refine y_goto rfl ?_
          refine ih σ3 (sg + 1) ((10 * p) + sg) (σ3 38 c) (by omega) (by omega) (sfr_y (sfr_y (sfr_y h1 z2 (by omega)) w4 (by omega)) y3 (by omega)) (rowc_cong e2 h2 (fun x a b => by rw [y3 _ _ (by omega), w4 _ _ (by omega), z2 _ _ (by omega)])) ?_
          obtain ⟨nu, _, y5⟩ := y4
          exact ⟨_, _, _, y5, by omega, g5⟩
theorem l_thief1 {g : Launch × XG × va_G} {σ : YS} {Z : YZ} {I : Int → YZ} {M : YS} {N : Int} {m c : Int} (hx : xW σ Z I M) (hg : wG Z I M N) (hN : N < 100000) (hm : (0 ≤ m ∧ m < Z 0 1 0) ∧ 0 ≤ c ∧ c < Z 0 0 0) (hl : Z 0 3 m < 24) : ∀ (nn : Nat) (τ : YS) (best : Int) (most : Int) (p : Int), Z 0 3 m + 1 - p < (nn : Int) → (0 ≤ p ∧ p ≤ Z 0 3 m + 1) → (sfr σ τ) → (rowc τ 546 (Z 0) (Z 1)) → (tst τ (Z 0) m) → YW g 83 76 [some (2, 0), some (0, m), some (0, c), some (0, best), some (0, most), some (0, p), none] [] τ (fun rv σ' => ∃ b, rv = some (0, b) ∧ ((xW σ' Z I (if ((0 ≤ m ∧ m < Z 0 1 0) ∧ 0 ≤ c ∧ c < Z 0 0 0) ∧ Z 0 3 m < 24 then M else bump M 0)) ∧ mfr σ σ')) := by
  intro nn
  induction nn with
  | zero =>
    intro τ best most p hn h0 h1 h2 h3
    exfalso
    omega
  | succ nn ih =>
    intro τ best most p hn h0 h1 h2 h3
    have ⟨⟨hr, hu⟩, x2, x3, ⟨x4, x5⟩, x6⟩ := hx
    have ⟨⟨he, hd, hn, hu2, h67, hk⟩, g2, g3, g4⟩ := hg
    have ⟨⟨f1, f2, f3, f4⟩, f5, f6, g7, g8⟩ := hr
    have ⟨e1, e2, e3⟩ := he
    have ⟨u1, u2, u3⟩ := hu
    have x60 : σ 0 11 = M 3 0 := x6 0 (by omega) (by omega)
    have x61 : σ 0 12 = M 3 1 := x6 1 (by omega) (by omega)
    have x62 : σ 0 13 = M 3 2 := x6 2 (by omega) (by omega)
    have g40 := g4 0 (by omega) (by omega)
    have g41 := g4 1 (by omega) (by omega)
    have g42 := g4 2 (by omega) (by omega)
    have f5 : ∀ c, 0 ≤ c → c < 9 → σ 2 c = Z 1 0 c := f5
    have f6 : ∀ i, 0 ≤ i → i < Z 0 1 0 → repm σ (4 + 3 * i) (Z 0) (Z 1) i := f6
    have t0 : ∀ x y, 1 ≤ x → x ≤ 13 → τ x y = σ x y := fun x y x1 x2 => h1 x y (by omega)
    have hm4 := f6 m (by omega) (by omega)
    have ⟨tm1, tm2, tm3⟩ := e3 m (by omega) (by omega)
    have ⟨dm1, dm2, dm3, dm4⟩ := hd.2 m (by omega) (by omega)
    have tl : τ (4 + 3 * m) 2 = Z 0 3 m := by rw [t0 _ _ (by omega) (by omega)]; exact hm4.1.1
    have he0 := hg.1.1
    refine y_iload rfl rfl ?_
    refine y_aload rfl rfl rfl ?_
    refine y_gfr (t := 1) rfl rfl (by decide) rfl (by decide) ?_
    refine y_gfr (t := 3) rfl (yS_c yS_1) (yS_0 yS_1).1 rfl (by decide) ?_
    refine y_iload rfl rfl ?_
    refine y_aald (v := (4 + 3 * m)) (n := 3) rfl (yS_m yS_1) (by have := yS_0 yS_1; omega) rfl (by omega) rfl ?_
    refine y_gfi (v := (τ (4 + 3 * m) 2)) rfl (yN_c (yS_n (s := 1) (i := m) yS_1 (by omega))) (by have := yN_0 (yS_n (s := 1) (i := m) yS_1 (by omega)); omega) rfl (by decide) rfl rfl ?_
    refine y_icgt rfl (fun q90 => ?_) (fun q90 => ?_)
    · skip
      refine y_iload rfl rfl ?_
      refine y_iret rfl rfl ⟨_, rfl, ?_⟩
      exact ⟨by rw [if_pos (by omega)]; exact xW_sfr hg hx h1, sfr_m h1⟩
    · skip
      refine y_push rfl ?_
      refine y_istore (L' := [some (2, 0), some (0, m), some (0, c), some (0, best), some (0, most), some (0, p), some (0, 0)]) rfl rfl rfl rfl ?_
      exact l_thief2 (fun τ best most p => ih τ best most p) hx hg hN hm hl (by omega) (by omega) 7 τ 0 best most (by omega) (by omega) h1 h2 h3
theorem c_thief {g : Launch × XG × va_G} {σ : YS} {Z : YZ} {I : Int → YZ} {M : YS} {N : Int} {m c : Int} (hx : xW σ Z I M) (hg : wG Z I M N) (hN : N < 100000) : YI g 83 [(2, 0), (0, m), (0, c)] σ (fun b σ' => (xW σ' Z I (if ((0 ≤ m ∧ m < Z 0 1 0) ∧ 0 ≤ c ∧ c < Z 0 0 0) ∧ Z 0 3 m < 24 then M else bump M 0)) ∧ mfr σ σ') := by
  refine y_start rfl rfl rfl ?_
  have ⟨⟨hr, hu⟩, x2, x3, ⟨x4, x5⟩, x6⟩ := hx
  have ⟨⟨he, hd, hn, hu2, h67, hk⟩, g2, g3, g4⟩ := hg
  have ⟨⟨f1, f2, f3, f4⟩, f5, f6, g7, g8⟩ := hr
  have ⟨e1, e2, e3⟩ := he
  have ⟨u1, u2, u3⟩ := hu
  have x60 : σ 0 11 = M 3 0 := x6 0 (by omega) (by omega)
  have x61 : σ 0 12 = M 3 1 := x6 1 (by omega) (by omega)
  have x62 : σ 0 13 = M 3 2 := x6 2 (by omega) (by omega)
  have g40 := g4 0 (by omega) (by omega)
  have g41 := g4 1 (by omega) (by omega)
  have g42 := g4 2 (by omega) (by omega)
  have f5 : ∀ c, 0 ≤ c → c < 9 → σ 2 c = Z 1 0 c := f5
  have f6 : ∀ i, 0 ≤ i → i < Z 0 1 0 → repm σ (4 + 3 * i) (Z 0) (Z 1) i := f6
  refine y_aload rfl rfl rfl ?_
  refine y_gfr (t := 1) rfl rfl (by decide) rfl (by decide) ?_
  refine y_iload rfl rfl ?_
  refine y_vi (as := [(2, 1), (0, m)]) (S := []) rfl rfl rfl rfl rfl rfl (yS_0 yS_1).1 (yS_c yS_1) (c_hasMan yS_1) ?_
  rintro _ _ ⟨rfl, rfl⟩
  refine y_ifeq rfl (fun q8 => ?_) (fun q8 => ?_)
  · skip
    replace q8 := yb_0.mp q8
    refine y_aload rfl rfl rfl ?_
    refine y_push rfl ?_
    refine y_vi (as := [(2, 0), (0, (-2))]) (S := []) rfl rfl rfl rfl rfl rfl (by decide) rfl (c_bad (by omega)) ?_
    rintro _ _ ⟨rfl, rfl⟩
    refine y_iret rfl rfl ⟨_, rfl, ?_⟩
    exact ⟨by rw [if_neg (by omega)]; exact xW_bump hg hx (by omega) rfl rfl, mfr_s (mfr_0 _) (by omega)⟩
  · skip
    replace q8 := yb_1.mp q8
    refine y_aload rfl rfl rfl ?_
    refine y_gfr (t := 1) rfl rfl (by decide) rfl (by decide) ?_
    refine y_iload rfl rfl ?_
    refine y_vi (as := [(2, 1), (0, c)]) (S := []) rfl rfl rfl rfl rfl rfl (yS_0 yS_1).1 (yS_c yS_1) (c_hasCell yS_1) ?_
    rintro _ _ ⟨rfl, rfl⟩
    refine y_ifeq rfl (fun q19 => ?_) (fun q19 => ?_)
    · skip
      replace q19 := yb_0.mp q19
      refine y_aload rfl rfl rfl ?_
      refine y_push rfl ?_
      refine y_vi (as := [(2, 0), (0, (-2))]) (S := []) rfl rfl rfl rfl rfl rfl (by decide) rfl (c_bad (by omega)) ?_
      rintro _ _ ⟨rfl, rfl⟩
      refine y_iret rfl rfl ⟨_, rfl, ?_⟩
      exact ⟨by rw [if_neg (by omega)]; exact xW_bump hg hx (by omega) rfl rfl, mfr_s (mfr_0 _) (by omega)⟩
    · skip
      replace q19 := yb_1.mp q19
      refine y_aload rfl rfl rfl ?_
      refine y_gfr (t := 1) rfl rfl (by decide) rfl (by decide) ?_
      have hl : σ (4 + 3 * m) 2 = Z 0 3 m := (f6 m (by omega) (by omega)).1.1
      refine y_gfr (t := 3) rfl (yS_c yS_1) (yS_0 yS_1).1 rfl (by decide) ?_
      refine y_iload rfl rfl ?_
      refine y_aald (v := (4 + 3 * m)) (n := 3) rfl (yS_m yS_1) (by have := yS_0 yS_1; omega) rfl (by omega) rfl ?_
      refine y_gfi (v := (σ (4 + 3 * m) 2)) rfl (yN_c (yS_n (s := 1) (i := m) yS_1 (by omega))) (by have := yN_0 (yS_n (s := 1) (i := m) yS_1 (by omega)); omega) rfl (by decide) rfl rfl ?_
      refine y_push rfl ?_
      refine y_iclt rfl (fun q36 => ?_) (fun q36 => ?_)
      · skip
        refine y_push rfl ?_
        refine y_istore (L' := [some (2, 0), some (0, m), some (0, c), some (0, (-1)), none, none, none]) rfl rfl rfl rfl ?_
        refine y_push rfl ?_
        refine y_istore (L' := [some (2, 0), some (0, m), some (0, c), some (0, (-1)), some (0, (-1)), none, none]) rfl rfl rfl rfl ?_
        refine y_aload rfl rfl rfl ?_
        refine y_gfr (t := 37) rfl rfl (by decide) rfl (by decide) ?_
        refine y_aload rfl rfl rfl ?_
        refine y_gfr (t := 1) rfl rfl (by decide) rfl (by decide) ?_
        refine y_vu (as := [(2, 37), (2, 1)]) (S := []) rfl rfl rfl rfl rfl rfl (yS_0 yS_37).1 (yS_c yS_37) (c_scopy (s := 37) (z := 1) yS_37 yS_1 (by omega) hr he) ?_
        rintro σ1 ⟨z1, z2⟩
        refine y_aload rfl rfl rfl ?_
        refine y_gfr (t := 1) rfl rfl (by decide) rfl (by decide) ?_
        refine y_aload rfl rfl rfl ?_
        refine y_gfr (t := 546) rfl rfl (by decide) rfl (by decide) ?_
        have hr1 : rep σ1 1 (Z 0) (Z 1) := rep_cong e2.2 hr (fun x y a b => z2 x y (by omega))
        refine y_vu (as := [(2, 1), (2, 546)]) (S := []) rfl rfl rfl rfl rfl rfl (yS_0 yS_1).1 (yS_c yS_1) (c_save yS_1 yR_546 (by omega) hr1 he) ?_
        rintro σ2 ⟨w1, w2⟩
        refine y_push rfl ?_
        refine y_istore (L' := [some (2, 0), some (0, m), some (0, c), some (0, (-1)), some (0, (-1)), some (0, 0), none]) rfl rfl rfl rfl ?_
        have ⟨_, hm32, hm33⟩ := e3 m (by omega) (by omega)
        exact l_thief1 hx hg hN (by omega) (by omega) 27 σ2 _ _ 0 (by omega) (by omega) (sfr_y (sfr_y (sfr_0 _) z2 (by omega)) w2 (by omega)) w1 ⟨Z 0 (10 + m), Z 0 3 m, _, by rw [slpE_id]; exact rep_cong e2.2 z1 (fun x y a b => w2 x y (by omega)), hm32, hm33⟩
      · skip
        refine y_aload rfl rfl rfl ?_
        refine y_push rfl ?_
        refine y_vi (as := [(2, 0), (0, (-2))]) (S := []) rfl rfl rfl rfl rfl rfl (by decide) rfl (c_bad (by omega)) ?_
        rintro _ _ ⟨rfl, rfl⟩
        refine y_iret rfl rfl ⟨_, rfl, ?_⟩
        exact ⟨by rw [if_neg (by omega)]; exact xW_bump hg hx (by omega) rfl rfl, mfr_s (mfr_0 _) (by omega)⟩
