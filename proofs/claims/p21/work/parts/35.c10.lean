/-! Calls that try things out: they leave all as it was. -/
def sfr (σ σ' : YS) : Prop := ∀ x y, (0 ≤ x ∧ x < 37) ∨ (64 < x ∧ x < 142) ∨ 546 < x → σ' x y = σ x y
theorem sfr_0 (σ : YS) : sfr σ σ := fun _ _ _ => rfl
theorem sfr_y {σ σ' σ'' : YS} {lo hi : Int} (h : sfr σ σ') (h' : yfr σ' σ'' lo hi) (hh : (37 ≤ lo ∧ hi ≤ 64) ∨ (142 ≤ lo ∧ hi ≤ 546)) : sfr σ σ'' := fun x y hx => by rw [h' x y (by omega)]; exact h x y hx
theorem sfr_s {σ σ' : YS} {k j v : Int} (h : sfr σ σ') (hh : (37 ≤ k ∧ k ≤ 64) ∨ (142 ≤ k ∧ k ≤ 546)) : sfr σ (yset σ' k j v) := fun x y hx => by rw [yne (by omega) rfl]; exact h x y hx
theorem sfr_t {σ σ' σ'' : YS} (h : sfr σ σ') (h' : sfr σ' σ'') : sfr σ σ'' := fun x y hx => (h' x y hx).trans (h x y hx)
theorem sfr_m {σ σ' : YS} (h : sfr σ σ') : mfr σ σ' := fun x y hx => h x y (by omega)
theorem xW_sfr {σ σ' : YS} {Z : YZ} {I : Int → YZ} {M : YS} {N : Int} (hg : wG Z I M N) (h : xW σ Z I M) (e : sfr σ σ') : xW σ' Z I M := xW_scr hg h (fun x y a b => e x y (by omega))

theorem l_endsAs2 {g : Launch × XG × va_G} {σ : YS} {s z : Int} (hs : yS s) (hz : yS z) (hc : 0 ≤ σ s 5 ∧ σ s 5 ≤ 3) (hw : 0 ≤ σ s 4 ∧ σ s 4 ≤ 9) : ∀ (nn : Nat) (k : Int), σ s 4 - k < (nn : Int) → (0 ≤ k ∧ k ≤ σ s 4) → YW g 146 62 [some (2, s), some (2, z), some (0, k)] [] σ (fun rv σ' => ∃ b, rv = some (0, b) ∧ ((σ = σ' ∧ b = 0) ∨ (σ = σ' ∧ b = 1))) := by
  intro nn
  induction nn with
  | zero =>
    intro k hn h0
    exfalso
    omega
  | succ nn ih =>
    intro k hn h0
    have s0 := yS_0 hs
    have z0 := yS_0 hz
    refine y_iload rfl rfl ?_
    refine y_aload rfl rfl rfl ?_
    refine y_gfi (v := (σ s 4)) rfl (yS_c hs) (yS_0 hs).1 rfl (by decide) rfl rfl ?_
    refine y_icge rfl (fun q67 => ?_) (fun q67 => ?_)
    · skip
      refine y_push rfl ?_
      refine y_zret rfl rfl (by decide) ⟨_, rfl, ?_⟩
      exact Or.inr ⟨rfl, rfl⟩
    · skip
      refine y_aload rfl rfl rfl ?_
      refine y_gfr (t := (s + 1)) rfl (yS_c hs) (yS_0 hs).1 rfl (by have := yS_0 hs; omega) ?_
      refine y_iload rfl rfl ?_
      refine y_iald (v := (σ (s + 1) k)) (n := 9) rfl (yS_w hs) (by have := yS_0 hs; omega) rfl (by omega) rfl ?_
      refine y_aload rfl rfl rfl ?_
      refine y_gfr (t := (z + 1)) rfl (yS_c hz) (yS_0 hz).1 rfl (by have := yS_0 hz; omega) ?_
      refine y_iload rfl rfl ?_
      refine y_iald (v := (σ (z + 1) k)) (n := 9) rfl (yS_w hz) (by have := yS_0 hz; omega) rfl (by omega) rfl ?_
      refine y_iceq rfl (fun q82 => ?_) (fun q82 => ?_)
      · skip
        refine y_iinc (L' := [some (2, s), some (2, z), some (0, (k + 1))]) rfl rfl rfl rfl rfl (by omega) ?_
        refine y_goto rfl ?_
        exact ih (k + 1) (by omega) (by omega)
      · skip
        refine y_push rfl ?_
        refine y_zret rfl rfl (by decide) ⟨_, rfl, ?_⟩
        exact Or.inl ⟨rfl, rfl⟩
theorem l_endsAs1 {g : Launch × XG × va_G} {σ : YS} {s z : Int} (hs : yS s) (hz : yS z) (hc : 0 ≤ σ s 5 ∧ σ s 5 ≤ 3) (hw : 0 ≤ σ s 4 ∧ σ s 4 ≤ 9) : ∀ (nn : Nat) (k : Int), σ s 5 - k < (nn : Int) → (0 ≤ k ∧ k ≤ σ s 5) → YW g 146 2 [some (2, s), some (2, z), some (0, k)] [] σ (fun rv σ' => ∃ b, rv = some (0, b) ∧ ((σ = σ' ∧ b = 0) ∨ (σ = σ' ∧ b = 1))) := by
  intro nn
  induction nn with
  | zero =>
    intro k hn h0
    exfalso
    omega
  | succ nn ih =>
    intro k hn h0
    have s0 := yS_0 hs
    have z0 := yS_0 hz
    refine y_iload rfl rfl ?_
    refine y_aload rfl rfl rfl ?_
    refine y_gfi (v := (σ s 5)) rfl (yS_c hs) (yS_0 hs).1 rfl (by decide) rfl rfl ?_
    refine y_icge rfl (fun q7 => ?_) (fun q7 => ?_)
    · skip
      refine y_push rfl ?_
      refine y_istore (L' := [some (2, s), some (2, z), some (0, 0)]) rfl rfl rfl rfl ?_
      exact l_endsAs2 hs hz hc hw 10 0 (by omega) (by omega)
    · skip
      refine y_aload rfl rfl rfl ?_
      refine y_gfr (t := (s + 2)) rfl (yS_c hs) (yS_0 hs).1 rfl (by have := yS_0 hs; omega) ?_
      refine y_iload rfl rfl ?_
      refine y_aald (v := ((s + 3) + 3 * k)) (n := 3) rfl (yS_m hs) (by have := yS_0 hs; omega) rfl (by omega) rfl ?_
      refine y_gfi (v := (σ ((s + 3) + 3 * k) 5)) rfl (yN_c (yS_n (s := s) (i := k) hs (by omega))) (by have := yN_0 (yS_n (s := s) (i := k) hs (by omega)); omega) rfl (by decide) rfl rfl ?_
      refine y_aload rfl rfl rfl ?_
      refine y_gfr (t := (z + 2)) rfl (yS_c hz) (yS_0 hz).1 rfl (by have := yS_0 hz; omega) ?_
      refine y_iload rfl rfl ?_
      refine y_aald (v := ((z + 3) + 3 * k)) (n := 3) rfl (yS_m hz) (by have := yS_0 hz; omega) rfl (by omega) rfl ?_
      refine y_gfi (v := (σ ((z + 3) + 3 * k) 5)) rfl (yN_c (yS_n (s := z) (i := k) hz (by omega))) (by have := yN_0 (yS_n (s := z) (i := k) hz (by omega)); omega) rfl (by decide) rfl rfl ?_
      refine y_icne rfl (fun q28 => ?_) (fun q28 => ?_)
      · skip
        refine y_push rfl ?_
        refine y_zret rfl rfl (by decide) ⟨_, rfl, ?_⟩
        exact Or.inl ⟨rfl, rfl⟩
      · skip
        refine y_aload rfl rfl rfl ?_
        refine y_gfr (t := (s + 2)) rfl (yS_c hs) (yS_0 hs).1 rfl (by have := yS_0 hs; omega) ?_
        refine y_iload rfl rfl ?_
        refine y_aald (v := ((s + 3) + 3 * k)) (n := 3) rfl (yS_m hs) (by have := yS_0 hs; omega) rfl (by omega) rfl ?_
        refine y_gfi (v := (σ ((s + 3) + 3 * k) 6)) rfl (yN_c (yS_n (s := s) (i := k) hs (by omega))) (by have := yN_0 (yS_n (s := s) (i := k) hs (by omega)); omega) rfl (by decide) rfl rfl ?_
        refine y_aload rfl rfl rfl ?_
        refine y_gfr (t := (z + 2)) rfl (yS_c hz) (yS_0 hz).1 rfl (by have := yS_0 hz; omega) ?_
        refine y_iload rfl rfl ?_
        refine y_aald (v := ((z + 3) + 3 * k)) (n := 3) rfl (yS_m hz) (by have := yS_0 hz; omega) rfl (by omega) rfl ?_
        refine y_gfi (v := (σ ((z + 3) + 3 * k) 6)) rfl (yN_c (yS_n (s := z) (i := k) hz (by omega))) (by have := yN_0 (yS_n (s := z) (i := k) hz (by omega)); omega) rfl (by decide) rfl rfl ?_
        refine y_iceq rfl (fun q49 => ?_) (fun q49 => ?_)
        · skip
          refine y_iinc (L' := [some (2, s), some (2, z), some (0, (k + 1))]) rfl rfl rfl rfl rfl (by omega) ?_
          refine y_goto rfl ?_
          exact ih (k + 1) (by omega) (by omega)
        · skip
          refine y_push rfl ?_
          refine y_zret rfl rfl (by decide) ⟨_, rfl, ?_⟩
          exact Or.inl ⟨rfl, rfl⟩
theorem c_endsAs {g : Launch × XG × va_G} {σ : YS} {s z : Int} (hs : yS s) (hz : yS z) (hc : 0 ≤ σ s 5 ∧ σ s 5 ≤ 3) (hw : 0 ≤ σ s 4 ∧ σ s 4 ≤ 9) : YI g 146 [(2, s), (2, z)] σ (fun b σ' => (σ = σ' ∧ b = 0) ∨ (σ = σ' ∧ b = 1)) := by
  refine y_start rfl rfl rfl ?_
  refine y_push rfl ?_
  refine y_istore (L' := [some (2, s), some (2, z), some (0, 0)]) rfl rfl rfl rfl ?_
  exact l_endsAs1 hs hz hc hw 4 0 (by omega) (by omega)
theorem c_endOfWhole {g : Launch × XG × va_G} {σ : YS} {Z : YZ} {I : Int → YZ} {M : YS} {N : Int}  (hx : xW σ Z I M) (hg : wG Z I M N) (hN : N < 100000) : YI g 112 [(2, 0)] σ (fun b σ' => (b = 0 ∨ b = 1) ∧ sfr σ σ') := by
  refine y_start rfl rfl rfl ?_
  have ⟨⟨hr, hu⟩, x2, x3, ⟨x4, x5⟩, x6⟩ := hx
  have ⟨⟨he, hd, hn, hu2, h67, hk⟩, g2, g3, g4⟩ := hg
  have ⟨⟨f1, f2, f3, f4⟩, f5, f6, g7, g8⟩ := hr
  have ⟨e1, e2, e3⟩ := he
  have ⟨u1, u2, u3⟩ := hu
  have x60 : σ 0 11 = M 3 0 := x6 0 (by omega) (by omega)
  have x61 : σ 0 12 = M 3 1 := x6 1 (by omega) (by omega)
  have x62 : σ 0 13 = M 3 2 := x6 2 (by omega) (by omega)
  have g40 := g4 0 (by omega) (by omega)
  have g41 := g4 1 (by omega) (by omega)
  have g42 := g4 2 (by omega) (by omega)
  have f5 : ∀ c, 0 ≤ c → c < 9 → σ 2 c = Z 1 0 c := f5
  have f6 : ∀ i, 0 ≤ i → i < Z 0 1 0 → repm σ (4 + 3 * i) (Z 0) (Z 1) i := f6
  refine y_aload rfl rfl rfl ?_
  refine y_gfr (t := 51) rfl rfl (by decide) rfl (by decide) ?_
  refine y_aload rfl rfl rfl ?_
  refine y_gfr (t := 1) rfl rfl (by decide) rfl (by decide) ?_
  refine y_vu (as := [(2, 51), (2, 1)]) (S := []) rfl rfl rfl rfl rfl rfl (yS_0 yS_51).1 (yS_c yS_51) (c_scopy (s := 51) (z := 1) yS_51 yS_1 (by omega) hr he) ?_
  rintro σ1 ⟨z1, z2⟩
  refine y_aload rfl rfl rfl ?_
  refine y_gfr (t := 51) rfl rfl (by decide) rfl (by decide) ?_
  refine y_vi (as := [(2, 51)]) (S := []) rfl rfl rfl rfl rfl rfl (yS_0 yS_51).1 (yS_c yS_51) (c_settle yS_51 z1 he (dG_w6 hd) (by rw [yne (by omega) rfl]; omega)) ?_
  rintro b_ σ2 ⟨y1, y2, y3, y4⟩
  refine y_push rfl ?_
  refine y_iceq rfl (fun q19 => ?_) (fun q19 => ?_)
  · skip
    refine y_push rfl ?_
    refine y_zret rfl rfl (by decide) ⟨_, rfl, ?_⟩
    exact ⟨by omega, sfr_y (sfr_y (sfr_0 _) z2 (by omega)) y3 (by omega)⟩
  · skip
    refine y_push rfl ?_
    refine y_goto rfl ?_
    refine y_zret rfl rfl (by decide) ⟨_, rfl, ?_⟩
    exact ⟨by omega, sfr_y (sfr_y (sfr_0 _) z2 (by omega)) y3 (by omega)⟩
theorem c_leadsTo {g : Launch × XG × va_G} {σ : YS} {Z : YZ} {I : Int → YZ} {M : YS} {N : Int} {m i e : Int} (hx : xW σ Z I M) (hg : wG Z I M N) (hN : N < 100000) (hm : 0 ≤ m ∧ m < Z 0 1 0) (hi : 0 ≤ i ∧ i < Z 0 3 m) : YI g 113 [(2, 0), (0, m), (0, i), (0, e)] σ (fun b σ' => sfr σ σ') := by
  refine y_start rfl rfl rfl ?_
  have ⟨⟨hr, hu⟩, x2, x3, ⟨x4, x5⟩, x6⟩ := hx
  have ⟨⟨he, hd, hn, hu2, h67, hk⟩, g2, g3, g4⟩ := hg
  have ⟨⟨f1, f2, f3, f4⟩, f5, f6, g7, g8⟩ := hr
  have ⟨e1, e2, e3⟩ := he
  have ⟨u1, u2, u3⟩ := hu
  have x60 : σ 0 11 = M 3 0 := x6 0 (by omega) (by omega)
  have x61 : σ 0 12 = M 3 1 := x6 1 (by omega) (by omega)
  have x62 : σ 0 13 = M 3 2 := x6 2 (by omega) (by omega)
  have g40 := g4 0 (by omega) (by omega)
  have g41 := g4 1 (by omega) (by omega)
  have g42 := g4 2 (by omega) (by omega)
  have f5 : ∀ c, 0 ≤ c → c < 9 → σ 2 c = Z 1 0 c := f5
  have f6 : ∀ i, 0 ≤ i → i < Z 0 1 0 → repm σ (4 + 3 * i) (Z 0) (Z 1) i := f6
  have he0 := hg.1.1
  refine y_aload rfl rfl rfl ?_
  refine y_gfr (t := 37) rfl rfl (by decide) rfl (by decide) ?_
  refine y_aload rfl rfl rfl ?_
  refine y_gfr (t := 1) rfl rfl (by decide) rfl (by decide) ?_
  refine y_vu (as := [(2, 37), (2, 1)]) (S := []) rfl rfl rfl rfl rfl rfl (yS_0 yS_37).1 (yS_c yS_37) (c_scopy (s := 37) (z := 1) yS_37 yS_1 (by omega) hr he) ?_
  rintro σ1 ⟨z1, z2⟩
  refine y_aload rfl rfl rfl ?_
  refine y_gfr (t := 37) rfl rfl (by decide) rfl (by decide) ?_
  refine y_gfr (t := 39) rfl (yS_c yS_37) (yS_0 yS_37).1 rfl (by decide) ?_
  refine y_iload rfl rfl ?_
  refine y_aald (v := (40 + 3 * m)) (n := 3) rfl (yS_m yS_37) (by have := yS_0 yS_37; omega) rfl (by omega) rfl ?_
  refine y_aload rfl rfl rfl ?_
  refine y_gfr (t := 1) rfl rfl (by decide) rfl (by decide) ?_
  refine y_gfr (t := 3) rfl (yS_c yS_1) (yS_0 yS_1).1 rfl (by decide) ?_
  refine y_iload rfl rfl ?_
  refine y_aald (v := (4 + 3 * m)) (n := 3) rfl (yS_m yS_1) (by have := yS_0 yS_1; omega) rfl (by omega) rfl ?_
  refine y_iload rfl rfl ?_
  have hm4 := f6 m (by omega) (by omega)
  have ⟨tm1, tm2, tm3⟩ := e3 m (by omega) (by omega)
  have ⟨dm1, dm2, dm3, dm4⟩ := hd.2 m (by omega) (by omega)
  have l4 : lrn σ1 (4 + 3 * m) (msg (Z 0) m) (Z 0 3 m) := lrn_cong hm4.1 (fun x y hx => z2 x y (by omega))
  have l40 : repm σ1 (40 + 3 * m) (Z 0) (yset (Z 1) 6 0 (σ 37 7)) m := z1.2.2.1 m (by omega) (by omega)
  have p4 : σ1 (4 + 3 * m) 7 = Z 1 3 m := by rw [z2 _ _ (by omega)]; exact hm4.2.2.1.2.2
  refine y_vu (as := [(2, (40 + 3 * m)), (2, (4 + 3 * m)), (0, i)]) (S := []) rfl rfl rfl rfl rfl rfl (by have := yN_0 (yS_n (s := 37) (i := m) yS_37 (by omega)); omega) (yN_c (yS_n (s := 37) (i := m) yS_37 (by omega))) (c_takeWithout (f := msg (Z 0) m) (n := Z 0 3 m) (yS_n (s := 37) (i := m) yS_37 (by omega)) (yS_n (s := 1) (i := m) yS_1 (by omega)) (by omega) l4 (by omega) tm3 (by omega) (fun k k1 k2 => l40.1.2.1 k k1 (by omega)) hi) ?_
  rintro σ2 ⟨w1, w2, w3, w4⟩
  have p5 : 0 ≤ σ2 (40 + 3 * m) 7 ∧ σ2 (40 + 3 * m) 7 ≤ Z 0 3 m - 1 := by rw [w3]; split <;> omega
  have r2 : rep σ2 37 (slpE (Z 0) m (wout (msg (Z 0) m) i) (Z 0 3 m - 1)) (slpD (yset (Z 1) 6 0 (σ 37 7)) m (σ2 (40 + 3 * m) 7) (if mst σ2 (40 + 3 * m) then 1 else 0)) := rep_slp z1 (by omega) e2.2 (fun x y x1 x2 x3 x4 x5 => w4 x y (by omega)) w1 (fun y y1 y2 => w2 y (by omega) (by omega)) (by rw [show σ2 (37 + 3 + 3 * m) 8 = σ1 (40 + 3 * m) 8 from w2 8 (by omega) (by omega)]; exact l40.2.2.2.2) rfl (by show (if mst σ2 (40 + 3 * m) then (1 : Int) else 0) = 0 ↔ ¬ mst σ2 (40 + 3 * m); split <;> simp_all)
  have g2e : eG (slpE (Z 0) m (wout (msg (Z 0) m) i) (Z 0 3 m - 1)) := eG_slp hg.1.1 (by omega) (by omega) (fun k k1 k2 => by unfold wout; split; exact tm3 k k1 (by omega); exact tm3 (k + 1) (by omega) (by omega))
  have g2d : dG (slpE (Z 0) m (wout (msg (Z 0) m) i) (Z 0 3 m - 1)) (slpD (yset (Z 1) 6 0 (σ 37 7)) m (σ2 (40 + 3 * m) 7) (if mst σ2 (40 + 3 * m) then 1 else 0)) := dG_slp (dG_w6 hd) hg.1.1 (by omega) p5 (by have := w1.1; have := w1.2.2.1; split; exact Or.inr rfl; rename_i z; unfold mst at z; exact Or.inl ⟨rfl, by omega, by omega⟩)
  refine y_aload rfl rfl rfl ?_
  refine y_gfr (t := 37) rfl rfl (by decide) rfl (by decide) ?_
  refine y_gfr (t := 39) rfl (yS_c yS_37) (yS_0 yS_37).1 rfl (by decide) ?_
  refine y_iload rfl rfl ?_
  refine y_aald (v := (40 + 3 * m)) (n := 3) rfl (yS_m yS_37) (by have := yS_0 yS_37; omega) rfl (by omega) rfl ?_
  refine y_gfi (v := (σ2 (40 + 3 * m) 3)) rfl (yN_c (yS_n (s := 37) (i := m) yS_37 (by omega))) (by have := yN_0 (yS_n (s := 37) (i := m) yS_37 (by omega)); omega) rfl (by decide) rfl rfl ?_
  refine y_push rfl ?_
  refine y_iceq rfl (fun q46 => ?_) (fun q46 => ?_)
  · skip
    refine y_aload rfl rfl rfl ?_
    refine y_gfr (t := 37) rfl rfl (by decide) rfl (by decide) ?_
    refine y_vi (as := [(2, 37)]) (S := []) rfl rfl rfl rfl rfl rfl (yS_0 yS_37).1 (yS_c yS_37) (c_settle yS_37 r2 g2e g2d (by unfold slpD; rw [yne (by omega) rfl, yne (by omega) rfl, yne (by omega) rfl]; omega)) ?_
    rintro b_ σ3 ⟨y1, y2, y3, y4⟩
    refine y_push rfl ?_
    refine y_icne rfl (fun q59 => ?_) (fun q59 => ?_)
    · skip
      refine y_iload rfl rfl ?_
      refine y_ifeq rfl (fun q65 => ?_) (fun q65 => ?_)
      · skip
        refine y_push rfl ?_
        refine y_iret rfl rfl ⟨_, rfl, ?_⟩
        exact sfr_y (sfr_y (sfr_y (sfr_0 _) z2 (by omega)) w4 (by omega)) y3 (by omega)
      · skip
        refine y_aload rfl rfl rfl ?_
        refine y_gfr (t := 37) rfl rfl (by decide) rfl (by decide) ?_
        refine y_aload rfl rfl rfl ?_
        refine y_gfr (t := 51) rfl rfl (by decide) rfl (by decide) ?_
        have r3 := y2 q59
        have r35 := r3.1
        refine y_vi (as := [(2, 37), (2, 51)]) (S := []) rfl rfl rfl rfl rfl rfl (yS_0 yS_37).1 (yS_c yS_37) (c_endsAs yS_37 yS_51 (by rw [r35.2.1]; exact g2e.2.1) (by rw [r35.1]; have := g2e.1; omega)) ?_
        rintro b2_ _ (⟨rfl, rfl⟩ | ⟨rfl, rfl⟩)
        · skip
          refine y_ifeq rfl (fun q79 => ?_) (fun q79 => ?_)
          · skip
            refine y_push rfl ?_
            refine y_iret rfl rfl ⟨_, rfl, ?_⟩
            exact sfr_y (sfr_y (sfr_y (sfr_0 _) z2 (by omega)) w4 (by omega)) y3 (by omega)
          · exfalso; omega
        · skip
          refine y_ifeq rfl (fun q79 => ?_) (fun q79 => ?_)
          · exfalso; omega
          · skip
            refine y_push rfl ?_
            refine y_goto rfl ?_
            refine y_iret rfl rfl ⟨_, rfl, ?_⟩
            exact sfr_y (sfr_y (sfr_y (sfr_0 _) z2 (by omega)) w4 (by omega)) y3 (by omega)
    · skip
      refine y_push rfl ?_
      refine y_iret rfl rfl ⟨_, rfl, ?_⟩
      exact sfr_y (sfr_y (sfr_y (sfr_0 _) z2 (by omega)) w4 (by omega)) y3 (by omega)
  · skip
    refine y_push rfl ?_
    refine y_iret rfl rfl ⟨_, rfl, ?_⟩
    exact sfr_y (sfr_y (sfr_0 _) z2 (by omega)) w4 (by omega)
theorem c_rubbed {g : Launch × XG × va_G} {σ : YS} {Z : YZ} {I : Int → YZ} {M : YS} {N : Int} {m i : Int} (hx : xW σ Z I M) (hg : wG Z I M N) (hN : N < 100000) : YI g 78 [(2, 0), (0, m), (0, i)] σ (fun b σ' => (xW σ' Z I (if (0 ≤ m ∧ m < Z 0 1 0) ∧ 0 ≤ i ∧ i < Z 0 3 m then M else bump M 0)) ∧ mfr σ σ') := by
  refine y_start rfl rfl rfl ?_
  have ⟨⟨hr, hu⟩, x2, x3, ⟨x4, x5⟩, x6⟩ := hx
  have ⟨⟨he, hd, hn, hu2, h67, hk⟩, g2, g3, g4⟩ := hg
  have ⟨⟨f1, f2, f3, f4⟩, f5, f6, g7, g8⟩ := hr
  have ⟨e1, e2, e3⟩ := he
  have ⟨u1, u2, u3⟩ := hu
  have x60 : σ 0 11 = M 3 0 := x6 0 (by omega) (by omega)
  have x61 : σ 0 12 = M 3 1 := x6 1 (by omega) (by omega)
  have x62 : σ 0 13 = M 3 2 := x6 2 (by omega) (by omega)
  have g40 := g4 0 (by omega) (by omega)
  have g41 := g4 1 (by omega) (by omega)
  have g42 := g4 2 (by omega) (by omega)
  have f5 : ∀ c, 0 ≤ c → c < 9 → σ 2 c = Z 1 0 c := f5
  have f6 : ∀ i, 0 ≤ i → i < Z 0 1 0 → repm σ (4 + 3 * i) (Z 0) (Z 1) i := f6
  refine y_aload rfl rfl rfl ?_
  refine y_gfr (t := 1) rfl rfl (by decide) rfl (by decide) ?_
  refine y_iload rfl rfl ?_
  refine y_vi (as := [(2, 1), (0, m)]) (S := []) rfl rfl rfl rfl rfl rfl (yS_0 yS_1).1 (yS_c yS_1) (c_hasMan yS_1) ?_
  rintro _ _ ⟨rfl, rfl⟩
  refine y_ifeq rfl (fun q8 => ?_) (fun q8 => ?_)
  · skip
    replace q8 := yb_0.mp q8
    refine y_aload rfl rfl rfl ?_
    refine y_push rfl ?_
    refine y_vi (as := [(2, 0), (0, (-2))]) (S := []) rfl rfl rfl rfl rfl rfl (by decide) rfl (c_bad (by omega)) ?_
    rintro _ _ ⟨rfl, rfl⟩
    refine y_iret rfl rfl ⟨_, rfl, ?_⟩
    exact ⟨by rw [if_neg (by omega)]; exact xW_bump hg hx (by omega) rfl rfl, mfr_s (mfr_0 _) (by omega)⟩
  · skip
    replace q8 := yb_1.mp q8
    have hl : σ (4 + 3 * m) 2 = Z 0 3 m := (f6 m (by omega) (by omega)).1.1
    refine y_iload rfl rfl ?_
    refine y_iflt rfl (fun q12 => ?_) (fun q12 => ?_)
    · skip
      refine y_aload rfl rfl rfl ?_
      refine y_push rfl ?_
      refine y_vi (as := [(2, 0), (0, (-2))]) (S := []) rfl rfl rfl rfl rfl rfl (by decide) rfl (c_bad (by omega)) ?_
      rintro _ _ ⟨rfl, rfl⟩
      refine y_iret rfl rfl ⟨_, rfl, ?_⟩
      exact ⟨by rw [if_neg (by omega)]; exact xW_bump hg hx (by omega) rfl rfl, mfr_s (mfr_0 _) (by omega)⟩
    · skip
      refine y_iload rfl rfl ?_
      refine y_aload rfl rfl rfl ?_
      refine y_gfr (t := 1) rfl rfl (by decide) rfl (by decide) ?_
      refine y_gfr (t := 3) rfl (yS_c yS_1) (yS_0 yS_1).1 rfl (by decide) ?_
      refine y_iload rfl rfl ?_
      refine y_aald (v := (4 + 3 * m)) (n := 3) rfl (yS_m yS_1) (by have := yS_0 yS_1; omega) rfl (by omega) rfl ?_
      refine y_gfi (v := (σ (4 + 3 * m) 2)) rfl (yN_c (yS_n (s := 1) (i := m) yS_1 (by omega))) (by have := yN_0 (yS_n (s := 1) (i := m) yS_1 (by omega)); omega) rfl (by decide) rfl rfl ?_
      refine y_iclt rfl (fun q28 => ?_) (fun q28 => ?_)
      · skip
        refine y_aload rfl rfl rfl ?_
        refine y_iload rfl rfl ?_
        refine y_iload rfl rfl ?_
        refine y_aload rfl rfl rfl ?_
        refine y_vi (as := [(2, 0)]) (S := [(0, i), (0, m), (2, 0)]) rfl rfl rfl rfl rfl rfl (by decide) rfl (c_endOfWhole hx hg hN) ?_
        rintro e σ1 ⟨z0, z1⟩
        refine y_vi (as := [(2, 0), (0, m), (0, i), (0, e)]) (S := []) rfl rfl rfl rfl rfl rfl (by decide) rfl (c_leadsTo (xW_sfr hg hx z1) hg hN (m := m) (i := i) (by omega) (by omega)) ?_
        rintro c σ2 z2
        refine y_iret rfl rfl ⟨_, rfl, ?_⟩
        exact ⟨by rw [if_pos (by omega)]; exact xW_sfr hg hx (sfr_t z1 z2), sfr_m (sfr_t z1 z2)⟩
      · skip
        refine y_aload rfl rfl rfl ?_
        refine y_push rfl ?_
        refine y_vi (as := [(2, 0), (0, (-2))]) (S := []) rfl rfl rfl rfl rfl rfl (by decide) rfl (c_bad (by omega)) ?_
        rintro _ _ ⟨rfl, rfl⟩
        refine y_iret rfl rfl ⟨_, rfl, ?_⟩
        exact ⟨by rw [if_neg (by omega)]; exact xW_bump hg hx (by omega) rfl rfl, mfr_s (mfr_0 _) (by omega)⟩
theorem l_danger {g : Launch × XG × va_G} {σ : YS} {Z : YZ} {I : Int → YZ} {M : YS} {N : Int} {m e : Int} (hx : xW σ Z I M) (hg : wG Z I M N) (hN : N < 100000) (hm : 0 ≤ m ∧ m < Z 0 1 0) : ∀ (nn : Nat) (τ : YS) (k : Int) (d : Int), Z 0 3 m - k < (nn : Int) → (0 ≤ k ∧ k ≤ Z 0 3 m) → (sfr σ τ) → (0 ≤ d ∧ d ≤ k) → YW g 81 28 [some (2, 0), some (0, m), some (0, e), some (0, d), some (0, k)] [] τ (fun rv σ' => ∃ b, rv = some (0, b) ∧ ((xW σ' Z I (if 0 ≤ m ∧ m < Z 0 1 0 then M else bump M 0)) ∧ mfr σ σ')) := by
  intro nn
  induction nn with
  | zero =>
    intro τ k d hn h0 h1 h2
    exfalso
    omega
  | succ nn ih =>
    intro τ k d hn h0 h1 h2
    have ⟨⟨hr, hu⟩, x2, x3, ⟨x4, x5⟩, x6⟩ := hx
    have ⟨⟨he, hd, hn, hu2, h67, hk⟩, g2, g3, g4⟩ := hg
    have ⟨⟨f1, f2, f3, f4⟩, f5, f6, g7, g8⟩ := hr
    have ⟨e1, e2, e3⟩ := he
    have ⟨u1, u2, u3⟩ := hu
    have x60 : σ 0 11 = M 3 0 := x6 0 (by omega) (by omega)
    have x61 : σ 0 12 = M 3 1 := x6 1 (by omega) (by omega)
    have x62 : σ 0 13 = M 3 2 := x6 2 (by omega) (by omega)
    have g40 := g4 0 (by omega) (by omega)
    have g41 := g4 1 (by omega) (by omega)
    have g42 := g4 2 (by omega) (by omega)
    have f5 : ∀ c, 0 ≤ c → c < 9 → σ 2 c = Z 1 0 c := f5
    have f6 : ∀ i, 0 ≤ i → i < Z 0 1 0 → repm σ (4 + 3 * i) (Z 0) (Z 1) i := f6
    have hl : τ (4 + 3 * m) 2 = Z 0 3 m := by rw [h1 _ _ (by omega)]; exact (f6 m (by omega) (by omega)).1.1
    have hl3 := (e3 m (by omega) (by omega)).2.1
    refine y_iload rfl rfl ?_
    refine y_aload rfl rfl rfl ?_
    refine y_gfr (t := 1) rfl rfl (by decide) rfl (by decide) ?_
    refine y_gfr (t := 3) rfl (yS_c yS_1) (yS_0 yS_1).1 rfl (by decide) ?_
    refine y_iload rfl rfl ?_
    refine y_aald (v := (4 + 3 * m)) (n := 3) rfl (yS_m yS_1) (by have := yS_0 yS_1; omega) rfl (by omega) rfl ?_
    refine y_gfi (v := (τ (4 + 3 * m) 2)) rfl (yN_c (yS_n (s := 1) (i := m) yS_1 (by omega))) (by have := yN_0 (yS_n (s := 1) (i := m) yS_1 (by omega)); omega) rfl (by decide) rfl rfl ?_
    refine y_icge rfl (fun q42 => ?_) (fun q42 => ?_)
    · skip
      refine y_iload rfl rfl ?_
      refine y_iret rfl rfl ⟨_, rfl, ?_⟩
      exact ⟨by rw [if_pos (by omega)]; exact xW_sfr hg hx h1, sfr_m h1⟩
    · skip
      refine y_aload rfl rfl rfl ?_
      refine y_iload rfl rfl ?_
      refine y_iload rfl rfl ?_
      refine y_iload rfl rfl ?_
      refine y_vi (as := [(2, 0), (0, m), (0, k), (0, e)]) (S := []) rfl rfl rfl rfl rfl rfl (by decide) rfl (c_leadsTo (xW_sfr hg hx h1) hg hN (m := m) (i := k) (by omega) (by omega)) ?_
      rintro c σ2 z2
      refine y_push rfl ?_
      refine y_iceq rfl (fun q54 => ?_) (fun q54 => ?_)
      · skip
        refine y_iinc (L' := [some (2, 0), some (0, m), some (0, e), some (0, d), some (0, (k + 1))]) rfl rfl rfl rfl rfl (by omega) ?_
        refine y_goto rfl ?_
        exact ih σ2 (k + 1) d (by omega) (by omega) (sfr_t h1 z2) (by omega)
      · skip
        refine y_iinc (L' := [some (2, 0), some (0, m), some (0, e), some (0, (d + 1)), some (0, k)]) rfl rfl rfl rfl rfl (by omega) ?_
        refine y_iinc (L' := [some (2, 0), some (0, m), some (0, e), some (0, (d + 1)), some (0, (k + 1))]) rfl rfl rfl rfl rfl (by omega) ?_
        refine y_goto rfl ?_
        exact ih σ2 (k + 1) (d + 1) (by omega) (by omega) (sfr_t h1 z2) (by omega)
theorem c_danger {g : Launch × XG × va_G} {σ : YS} {Z : YZ} {I : Int → YZ} {M : YS} {N : Int} {m : Int} (hx : xW σ Z I M) (hg : wG Z I M N) (hN : N < 100000) : YI g 81 [(2, 0), (0, m)] σ (fun b σ' => (xW σ' Z I (if 0 ≤ m ∧ m < Z 0 1 0 then M else bump M 0)) ∧ mfr σ σ') := by
  refine y_start rfl rfl rfl ?_
  have ⟨⟨hr, hu⟩, x2, x3, ⟨x4, x5⟩, x6⟩ := hx
  have ⟨⟨he, hd, hn, hu2, h67, hk⟩, g2, g3, g4⟩ := hg
  have ⟨⟨f1, f2, f3, f4⟩, f5, f6, g7, g8⟩ := hr
  have ⟨e1, e2, e3⟩ := he
  have ⟨u1, u2, u3⟩ := hu
  have x60 : σ 0 11 = M 3 0 := x6 0 (by omega) (by omega)
  have x61 : σ 0 12 = M 3 1 := x6 1 (by omega) (by omega)
  have x62 : σ 0 13 = M 3 2 := x6 2 (by omega) (by omega)
  have g40 := g4 0 (by omega) (by omega)
  have g41 := g4 1 (by omega) (by omega)
  have g42 := g4 2 (by omega) (by omega)
  have f5 : ∀ c, 0 ≤ c → c < 9 → σ 2 c = Z 1 0 c := f5
  have f6 : ∀ i, 0 ≤ i → i < Z 0 1 0 → repm σ (4 + 3 * i) (Z 0) (Z 1) i := f6
  refine y_aload rfl rfl rfl ?_
  refine y_gfr (t := 1) rfl rfl (by decide) rfl (by decide) ?_
  refine y_iload rfl rfl ?_
  refine y_vi (as := [(2, 1), (0, m)]) (S := []) rfl rfl rfl rfl rfl rfl (yS_0 yS_1).1 (yS_c yS_1) (c_hasMan yS_1) ?_
  rintro _ _ ⟨rfl, rfl⟩
  refine y_ifne rfl (fun q8 => ?_) (fun q8 => ?_)
  · skip
    replace q8 := yb_1.mp q8
    refine y_aload rfl rfl rfl ?_
    refine y_vi (as := [(2, 0)]) (S := []) rfl rfl rfl rfl rfl rfl (by decide) rfl (c_endOfWhole hx hg hN) ?_
    rintro e σ1 ⟨z0, z1⟩
    refine y_istore (L' := [some (2, 0), some (0, m), some (0, e), none, none]) rfl rfl rfl rfl ?_
    refine y_push rfl ?_
    refine y_istore (L' := [some (2, 0), some (0, m), some (0, e), some (0, 0), none]) rfl rfl rfl rfl ?_
    refine y_push rfl ?_
    refine y_istore (L' := [some (2, 0), some (0, m), some (0, e), some (0, 0), some (0, 0)]) rfl rfl rfl rfl ?_
    have hl3 := (e3 m (by omega) (by omega)).2.1
    exact l_danger hx hg hN (by omega) 25 σ1 0 0 (by omega) (by omega) z1 (by omega)
  · skip
    replace q8 := yb_0.mp q8
    refine y_aload rfl rfl rfl ?_
    refine y_push rfl ?_
    refine y_vi (as := [(2, 0), (0, (-2))]) (S := []) rfl rfl rfl rfl rfl rfl (by decide) rfl (c_bad (by omega)) ?_
    rintro _ _ ⟨rfl, rfl⟩
    refine y_iret rfl rfl ⟨_, rfl, ?_⟩
    exact ⟨by rw [if_neg (by omega)]; exact xW_bump hg hx (by omega) rfl rfl, mfr_s (mfr_0 _) (by omega)⟩
