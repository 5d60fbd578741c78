theorem c_mcopy {g : Launch × XG × va_G} {σ : YS} {a b : Int} (ha : yN a) (hb : yN b) (hab : a + 2 < b ∨ b + 2 < a) (hl : 0 ≤ σ b 2 ∧ σ b 2 ≤ 24) (h8 : σ b 8 = 0 ∨ σ b 8 = 1) : YU g 137 [(2, a), (2, b)] σ (fun σ' => (∀ y, 2 ≤ y → y ≤ 8 → σ' a y = σ b y) ∧ (∀ k, 0 ≤ k → k < σ b 2 → σ' (a + 1) k = σ (b + 1) k ∧ σ' (a + 2) k = σ (b + 2) k) ∧ yfr σ σ' a (a + 2)) := by
  refine y_start rfl rfl rfl ?_
  have a0 := yN_0 ha
  have b0 := yN_0 hb
  refine y_aload rfl rfl rfl ?_
  refine y_aload rfl rfl rfl ?_
  refine y_gfi (v := (σ b 4)) rfl (yN_c hb) (by have := yN_0 hb; omega) rfl (by decide) rfl rfl ?_
  refine y_pfi (j := 4) rfl (yN_c ha) (by have := yN_0 ha; omega) rfl rfl rfl rfl rfl ?_
  refine y_aload rfl rfl rfl ?_
  refine y_aload rfl rfl rfl ?_
  refine y_gfi (v := (σ b 5)) rfl (yN_c hb) (by have := yN_0 hb; omega) rfl (by decide) rfl (yne (by omega) rfl) ?_
  refine y_pfi (j := 5) rfl (yN_c ha) (by have := yN_0 ha; omega) rfl rfl rfl rfl rfl ?_
  refine y_aload rfl rfl rfl ?_
  refine y_aload rfl rfl rfl ?_
  refine y_gfi (v := (σ b 6)) rfl (yN_c hb) (by have := yN_0 hb; omega) rfl (by decide) rfl (yne (by omega) (yne (by omega) rfl)) ?_
  refine y_pfi (j := 6) rfl (yN_c ha) (by have := yN_0 ha; omega) rfl rfl rfl rfl rfl ?_
  refine y_aload rfl rfl rfl ?_
  refine y_aload rfl rfl rfl ?_
  refine y_gfi (v := (σ b 7)) rfl (yN_c hb) (by have := yN_0 hb; omega) rfl (by decide) rfl (yne (by omega) (yne (by omega) (yne (by omega) rfl))) ?_
  refine y_pfi (j := 7) rfl (yN_c ha) (by have := yN_0 ha; omega) rfl rfl rfl rfl rfl ?_
  refine y_aload rfl rfl rfl ?_
  refine y_aload rfl rfl rfl ?_
  refine y_gfi (v := (σ b 8)) rfl (yN_c hb) (by have := yN_0 hb; omega) rfl (by decide) rfl (yne (by omega) (yne (by omega) (yne (by omega) (yne (by omega) rfl)))) ?_
  refine y_pfz (j := 8) rfl (yN_c ha) (by have := yN_0 ha; omega) rfl rfl rfl rfl rfl (by omega) ?_
  refine y_aload rfl rfl rfl ?_
  refine y_aload rfl rfl rfl ?_
  refine y_gfi (v := (σ b 2)) rfl (yN_c hb) (by have := yN_0 hb; omega) rfl (by decide) rfl (yne (by omega) (yne (by omega) (yne (by omega) (yne (by omega) (yne (by omega) rfl))))) ?_
  refine y_pfi (j := 2) rfl (yN_c ha) (by have := yN_0 ha; omega) rfl rfl rfl rfl rfl ?_
  refine y_aload rfl rfl rfl ?_
  refine y_aload rfl rfl rfl ?_
  refine y_gfi (v := (σ b 3)) rfl (yN_c hb) (by have := yN_0 hb; omega) rfl (by decide) rfl (yne (by omega) (yne (by omega) (yne (by omega) (yne (by omega) (yne (by omega) (yne (by omega) rfl)))))) ?_
  refine y_pfi (j := 3) rfl (yN_c ha) (by have := yN_0 ha; omega) rfl rfl rfl rfl rfl ?_
  refine y_aload rfl rfl rfl ?_
  refine y_gfr (t := (b + 1)) rfl (yN_c hb) (by have := yN_0 hb; omega) rfl (by have := yN_0 hb; omega) ?_
  refine y_push rfl ?_
  refine y_aload rfl rfl rfl ?_
  refine y_gfr (t := (a + 1)) rfl (yN_c ha) (by have := yN_0 ha; omega) rfl (by have := yN_0 ha; omega) ?_
  refine y_push rfl ?_
  refine y_aload rfl rfl rfl ?_
  refine y_gfi (v := (σ b 2)) rfl (yN_c hb) (by have := yN_0 hb; omega) rfl (by decide) rfl (yne (by omega) (yne (by omega) (yne (by omega) (yne (by omega) (yne (by omega) (yne (by omega) (yne (by omega) rfl))))))) ?_
  refine y_acopy (v := 24) (w := 24) rfl (yN_s hb) (yN_s ha) ⟨(by have := yN_0 hb; omega), (by have := yN_0 ha; omega)⟩ rfl rfl (by omega) rfl ?_
  refine y_aload rfl rfl rfl ?_
  refine y_gfr (t := (b + 2)) rfl (yN_c hb) (by have := yN_0 hb; omega) rfl (by have := yN_0 hb; omega) ?_
  refine y_push rfl ?_
  refine y_aload rfl rfl rfl ?_
  refine y_gfr (t := (a + 2)) rfl (yN_c ha) (by have := yN_0 ha; omega) rfl (by have := yN_0 ha; omega) ?_
  refine y_push rfl ?_
  refine y_aload rfl rfl rfl ?_
  refine y_gfi (v := (σ b 2)) rfl (yN_c hb) (by have := yN_0 hb; omega) rfl (by decide) rfl (ycn (by omega) (yne (by omega) (yne (by omega) (yne (by omega) (yne (by omega) (yne (by omega) (yne (by omega) (yne (by omega) rfl)))))))) ?_
  refine y_acopy (v := 24) (w := 24) rfl (yN_p hb) (yN_p ha) ⟨(by have := yN_0 hb; omega), (by have := yN_0 ha; omega)⟩ rfl rfl (by omega) rfl ?_
  refine y_ret rfl rfl ⟨rfl, ?_⟩
  refine ⟨fun y y1 y2 => ?_, fun k k1 k2 => ⟨?_, ?_⟩, fun x y hx => ?_⟩
  · unfold ycopy; rw [if_neg (by omega), if_neg (by omega)]; rcases (by omega : y = 2 ∨ y = 3 ∨ y = 4 ∨ y = 5 ∨ y = 6 ∨ y = 7 ∨ y = 8) with rfl | rfl | rfl | rfl | rfl | rfl | rfl
    · rw [yne (by omega) rfl, yeq]
    · rw [yeq]
    · rw [yne (by omega) rfl, yne (by omega) rfl, yne (by omega) rfl, yne (by omega) rfl, yne (by omega) rfl, yne (by omega) rfl, yeq]
    · rw [yne (by omega) rfl, yne (by omega) rfl, yne (by omega) rfl, yne (by omega) rfl, yne (by omega) rfl, yeq]
    · rw [yne (by omega) rfl, yne (by omega) rfl, yne (by omega) rfl, yne (by omega) rfl, yeq]
    · rw [yne (by omega) rfl, yne (by omega) rfl, yne (by omega) rfl, yeq]
    · rw [yne (by omega) rfl, yne (by omega) rfl, yeq]
  · unfold ycopy; rw [if_neg (by omega), if_pos (by omega), Int.sub_zero, Int.add_zero, yne (by omega) rfl, yne (by omega) rfl, yne (by omega) rfl, yne (by omega) rfl, yne (by omega) rfl, yne (by omega) rfl, yne (by omega) rfl]
  · unfold ycopy; rw [if_pos (by omega), if_neg (by omega), Int.sub_zero, Int.add_zero, yne (by omega) rfl, yne (by omega) rfl, yne (by omega) rfl, yne (by omega) rfl, yne (by omega) rfl, yne (by omega) rfl, yne (by omega) rfl]
  · unfold ycopy; rw [if_neg (by omega), if_neg (by omega), yne (by omega) rfl, yne (by omega) rfl, yne (by omega) rfl, yne (by omega) rfl, yne (by omega) rfl, yne (by omega) rfl, yne (by omega) rfl]
theorem repm_cp {σ τ τ' : YS} {a b : Int} {E D : YS} {i : Int} (h : repm τ b E D i) (g1 : ∀ y, 2 ≤ y → y ≤ 8 → τ' a y = τ b y) (g2 : ∀ k, 0 ≤ k → k < τ b 2 → τ' (a + 1) k = τ (b + 1) k ∧ τ' (a + 2) k = τ (b + 2) k) : repm τ' a E D i := by
  obtain ⟨⟨l1, l2, l3, l4⟩, h2, ⟨h3, h4, h5⟩, h6, h7⟩ := h
  unfold repm lrn mst
  rw [g1 2 (by omega) (by omega), g1 3 (by omega) (by omega), g1 4 (by omega) (by omega), g1 5 (by omega) (by omega), g1 6 (by omega) (by omega), g1 7 (by omega) (by omega), g1 8 (by omega) (by omega)]
  exact ⟨⟨l1, fun k x y => by rw [(g2 k x (by omega)).1]; exact l2 k x y, l3, fun q k x y c => by rw [(g2 k x (by omega)).2]; exact l4 q k x y c⟩, h2, ⟨h3, h4, h5⟩, h6, h7⟩
theorem yw_D {D : YS} {r c v : Int} (h : r ≠ 6) : yset D 6 0 v r c = D r c := yne (by omega) rfl
theorem repm_w {σ : YS} {a : Int} {E D : YS} {i v : Int} (h : repm σ a E D i) : repm σ a E (yset D 6 0 v) i := repm_D h (by omega)
theorem l_scopy {g : Launch × XG × va_G} {σ : YS} {s z : Int} {E D : YS} (hs : yS s) (hz : yS z) (hsz : s ≠ z) (hr : rep σ z E D) (he : eG E) : ∀ (nn : Nat) (τ : YS) (i : Int), E 1 0 - i < (nn : Int) → (0 ≤ i ∧ i ≤ E 1 0) → (τ s 4 = E 0 0 ∧ τ s 5 = E 1 0 ∧ τ s 6 = D 5 0 ∧ τ s 7 = σ s 7) → (∀ c, 0 ≤ c → c < 9 → τ (s + 1) c = D 0 c) → (∀ c, 0 ≤ c → c < 4 → τ (s + 12) c = E 7 c) → (∀ q, 0 ≤ q → q < i → repm τ (s + 3 + 3 * q) E D q) → (yfr σ τ s (s + 12)) → YW g 67 55 [some (2, s), some (2, z), some (0, i)] [] τ (fun rv σ' => rv = none ∧ (rep σ' s E (yset D 6 0 (σ s 7)) ∧ yfr σ σ' s (s + 12))) := by
  intro nn
  induction nn with
  | zero =>
    intro τ i hn h0 h1 h2 h3 h4 h5
    exfalso
    omega
  | succ nn ih =>
    intro τ i hn h0 h1 h2 h3 h4 h5
    have s0 := yS_0 hs
    have z0 := yS_0 hz
    have hg : s + 13 < z ∨ z + 13 < s := by unfold yS at hs hz; omega
    have ⟨⟨f1, f2, f3, f4⟩, f5, f6, f7, f8⟩ := hr
    have ⟨e1, e2, e3⟩ := he
    refine y_iload rfl rfl ?_
    refine y_aload rfl rfl rfl ?_
    refine y_gfi (v := (τ s 5)) rfl (yS_c hs) (yS_0 hs).1 rfl (by decide) rfl rfl ?_
    refine y_icge rfl (fun q60 => ?_) (fun q60 => ?_)
    · skip
      refine y_ret rfl rfl ⟨rfl, ?_⟩
      refine ⟨⟨⟨h1.1, h1.2.1, by rw [yw_D (by omega)]; exact h1.2.2.1, by rw [yeq]; exact h1.2.2.2⟩, fun c x y => by rw [yw_D (by omega)]; exact h2 c x y, fun q x y => repm_w (h4 q x (by omega)), f7, h3⟩, h5⟩
    · skip
      refine y_aload rfl rfl rfl ?_
      refine y_gfr (t := (s + 2)) rfl (yS_c hs) (yS_0 hs).1 rfl (by have := yS_0 hs; omega) ?_
      refine y_iload rfl rfl ?_
      refine y_aald (v := ((s + 3) + 3 * i)) (n := 3) rfl (yS_m hs) (by have := yS_0 hs; omega) rfl (by omega) rfl ?_
      refine y_aload rfl rfl rfl ?_
      refine y_gfr (t := (z + 2)) rfl (yS_c hz) (yS_0 hz).1 rfl (by have := yS_0 hz; omega) ?_
      refine y_iload rfl rfl ?_
      refine y_aald (v := ((z + 3) + 3 * i)) (n := 3) rfl (yS_m hz) (by have := yS_0 hz; omega) rfl (by omega) rfl ?_
      have hq := f6 i (by omega) (by omega)
      have ei := (e3 i (by omega) (by omega)).2.1
      have wb : ∀ x y, z ≤ x → x ≤ z + 12 → τ x y = σ x y := fun x y x1 x2 => h5 x y (by omega)
      have hq2 := repm_cong hq (fun x y x1 x2 => wb x y (by omega) (by omega))
      refine y_vu (as := [(2, ((s + 3) + 3 * i)), (2, ((z + 3) + 3 * i))]) (S := []) rfl rfl rfl rfl rfl rfl (by have := yN_0 (yS_n (s := s) (i := i) hs (by omega)); omega) (yN_c (yS_n (s := s) (i := i) hs (by omega))) (c_mcopy (yS_n (s := s) (i := i) hs (by omega)) (yS_n (s := z) (i := i) hz (by omega)) (by omega) (by have := hq2.1.1; omega) hq2.2.2.2.2) ?_
      rintro σ' ⟨z1, z2, z3⟩
      refine y_iinc (L' := [some (2, s), some (2, z), some (0, (i + 1))]) rfl rfl rfl rfl rfl (by omega) ?_
      refine y_goto rfl ?_
      refine ih σ' (i + 1) (by omega) (by omega) ?_ (fun c x y => by rw [z3 _ _ (by omega)]; exact h2 c x y) (fun c x y => by rw [z3 _ _ (by omega)]; exact h3 c x y) (fun q x y => ?_) (yfr_trans h5 (yfr_w z3 (by omega)))
      · rw [z3 _ _ (by omega), z3 _ _ (by omega), z3 _ _ (by omega), z3 _ _ (by omega)]; exact h1
      · by_cases e : q = i
        · subst e; exact repm_cp (σ := σ) hq2 z1 z2
        · exact repm_cong (h4 q x (by omega)) (fun x y x1 x2 => z3 x y (by omega))
theorem c_scopy {g : Launch × XG × va_G} {σ : YS} {s z : Int} {E D : YS} (hs : yS s) (hz : yS z) (hsz : s ≠ z) (hr : rep σ z E D) (he : eG E) : YU g 67 [(2, s), (2, z)] σ (fun σ' => rep σ' s E (yset D 6 0 (σ s 7)) ∧ yfr σ σ' s (s + 12)) := by
  refine y_start rfl rfl rfl ?_
  have s0 := yS_0 hs
  have z0 := yS_0 hz
  have hg : s + 13 < z ∨ z + 13 < s := by unfold yS at hs hz; omega
  have ⟨⟨f1, f2, f3, f4⟩, f5, f6, f7, f8⟩ := hr
  have ⟨e1, e2, e3⟩ := he
  refine y_aload rfl rfl rfl ?_
  refine y_aload rfl rfl rfl ?_
  refine y_gfi (v := (σ z 4)) rfl (yS_c hz) (yS_0 hz).1 rfl (by decide) rfl rfl ?_
  refine y_pfi (j := 4) rfl (yS_c hs) (yS_0 hs).1 rfl rfl rfl rfl rfl ?_
  refine y_aload rfl rfl rfl ?_
  refine y_aload rfl rfl rfl ?_
  refine y_gfi (v := (σ z 5)) rfl (yS_c hz) (yS_0 hz).1 rfl (by decide) rfl (yne (by omega) rfl) ?_
  refine y_pfi (j := 5) rfl (yS_c hs) (yS_0 hs).1 rfl rfl rfl rfl rfl ?_
  refine y_aload rfl rfl rfl ?_
  refine y_aload rfl rfl rfl ?_
  refine y_gfi (v := (σ z 6)) rfl (yS_c hz) (yS_0 hz).1 rfl (by decide) rfl (yne (by omega) (yne (by omega) rfl)) ?_
  refine y_pfi (j := 6) rfl (yS_c hs) (yS_0 hs).1 rfl rfl rfl rfl rfl ?_
  refine y_aload rfl rfl rfl ?_
  refine y_gfr (t := (z + 1)) rfl (yS_c hz) (yS_0 hz).1 rfl (by have := yS_0 hz; omega) ?_
  refine y_push rfl ?_
  refine y_aload rfl rfl rfl ?_
  refine y_gfr (t := (s + 1)) rfl (yS_c hs) (yS_0 hs).1 rfl (by have := yS_0 hs; omega) ?_
  refine y_push rfl ?_
  refine y_push rfl ?_
  refine y_acopy (v := 9) (w := 9) rfl (yS_w hz) (yS_w hs) ⟨(by have := yS_0 hz; omega), (by have := yS_0 hs; omega)⟩ rfl rfl (by omega) rfl ?_
  refine y_aload rfl rfl rfl ?_
  refine y_gfr (t := (z + 12)) rfl (yS_c hz) (yS_0 hz).1 rfl (by have := yS_0 hz; omega) ?_
  refine y_push rfl ?_
  refine y_aload rfl rfl rfl ?_
  refine y_gfr (t := (s + 12)) rfl (yS_c hs) (yS_0 hs).1 rfl (by have := yS_0 hs; omega) ?_
  refine y_push rfl ?_
  refine y_push rfl ?_
  refine y_acopy (v := 4) (w := 4) rfl (yS_e hz) (yS_e hs) ⟨(by have := yS_0 hz; omega), (by have := yS_0 hs; omega)⟩ rfl rfl (by omega) rfl ?_
  refine y_push rfl ?_
  refine y_istore (L' := [some (2, s), some (2, z), some (0, 0)]) rfl rfl rfl rfl ?_
  refine l_scopy hs hz hsz hr he 4 (ycopy (ycopy (yset (yset (yset σ s 4 (σ z 4)) s 5 (σ z 5)) s 6 (σ z 6)) (z + 1) 0 (s + 1) 0 9) (z + 12) 0 (s + 12) 0 4) 0 (by omega) (by omega) ?_ ?_ ?_ (fun q x y => by omega) ?_
  · refine ⟨?_, ?_, ?_, ?_⟩
    · rw [ycn (by omega) rfl, ycn (by omega) rfl, yne (by omega) rfl, yne (by omega) rfl, yeq]; exact f1
    · rw [ycn (by omega) rfl, ycn (by omega) rfl, yne (by omega) rfl, yeq]; exact f2
    · rw [ycn (by omega) rfl, ycn (by omega) rfl, yeq]; exact f3
    · rw [ycn (by omega) rfl, ycn (by omega) rfl, yne (by omega) rfl, yne (by omega) rfl, yne (by omega) rfl]
  · intro c x y; rw [ycn (by omega) rfl]; unfold ycopy; rw [if_pos (by omega), Int.sub_zero, Int.add_zero, yne (by omega) rfl, yne (by omega) rfl, yne (by omega) rfl]; exact f5 c x y
  · intro c x y; unfold ycopy; rw [if_pos (by omega), Int.sub_zero, Int.add_zero, if_neg (by omega), yne (by omega) rfl, yne (by omega) rfl, yne (by omega) rfl]; exact f8 c x y
  · exact yfr_cp (yfr_cp (yfr_set (yfr_set (yfr_set (yfr_refl _ _ _) (by omega)) (by omega)) (by omega)) (by omega)) (by omega)
theorem rowci_sv {σ τ : YS} {r a : Int} {E D : YS} {i h : Int} (hm : repm σ a E D i) (hh : h = yb (σ a 8 ≠ 0)) : rowci (yset (yset (yset (yset τ r (9 + 4 * i) (σ a 5)) r (9 + 4 * i + 1) (σ a 6)) r (9 + 4 * i + 2) (σ a 7)) r (9 + 4 * i + 3) h) r E D i := by
  obtain ⟨⟨l1, l2, l3, l4⟩, h2, ⟨h3, h4, h5⟩, h6, h7⟩ := hm
  unfold rowci
  rw [yne (by omega) (yne (by omega) (yne (by omega) (yeq _ _ _ _))), yne (by omega) (yne (by omega) (yeq _ _ _ _)), yne (by omega) (yeq _ _ _ _), yeq]
  refine ⟨h3, h4, h5, by subst hh; have := yb_r (p := σ a 8 ≠ 0); omega, ?_⟩
  rw [h6]
  unfold mst
  rw [l1, l3, hh]
  have : (yb (σ a 8 ≠ 0) = 1) ↔ σ a 8 ≠ 0 := by unfold yb; split <;> simp_all
  rw [this]
theorem l_save2 {g : Launch × XG × va_G} {σ : YS} {s r : Int} {E D : YS} (hs : yS s) (hy : yR r) (hrs : r < s ∨ s + 12 < r) (hr : rep σ s E D) (he : eG E) : ∀ (nn : Nat) (τ : YS) (k : Int), 21 - k < (nn : Int) → (9 + 4 * E 1 0 ≤ k ∧ k ≤ 21) → (∀ c, 0 ≤ c → c < 9 → τ r c = D 0 c) → (∀ q, 0 ≤ q → q < E 1 0 → rowci τ r E D q) → (∀ c, 9 + 4 * E 1 0 ≤ c → c < k → τ r c = 0) → (yfr σ τ r r) → YW g 50 99 [some (2, s), some (2, r), some (0, k), none, none] [] τ (fun rv σ' => rv = none ∧ (rowc σ' r E D ∧ yfr σ σ' r r)) := by
  intro nn
  induction nn with
  | zero =>
    intro τ k hn h0 h1 h2 h3 h4
    exfalso
    omega
  | succ nn ih =>
    intro τ k hn h0 h1 h2 h3 h4
    have s0 := yS_0 hs
    have ⟨⟨f1, f2, f3, f4⟩, f5, f6, f7, f8⟩ := hr
    have ⟨e1, e2, e3⟩ := he
    have y0 := hy.1
    refine y_iload rfl rfl ?_
    refine y_push rfl ?_
    refine y_icge rfl (fun q102 => ?_) (fun q102 => ?_)
    · skip
      refine y_aload rfl rfl rfl ?_
      refine y_push rfl ?_
      refine y_aload rfl rfl rfl ?_
      refine y_gfi (v := (τ s 6)) rfl (yS_c hs) (yS_0 hs).1 rfl (by decide) rfl rfl ?_
      refine y_iast (n := 22) rfl hy.2 hy.1 rfl (by decide) ?_
      refine y_ret rfl rfl ⟨rfl, ?_⟩
      refine ⟨⟨fun c x y => by rw [yne (by omega) rfl]; exact h1 c x y, fun q x y => rowci_cong (h2 q x y) (fun k x y => yne (by omega) rfl), fun c x y => by rw [yne (by omega) rfl]; exact h3 c x (by omega), by rw [yeq, h4 _ _ (by omega)]; exact f3⟩, yfr_set h4 (by omega)⟩
    · skip
      refine y_aload rfl rfl rfl ?_
      refine y_iload rfl rfl ?_
      refine y_push rfl ?_
      refine y_iast (n := 22) rfl hy.2 hy.1 rfl (by omega) ?_
      refine y_iinc (L' := [some (2, s), some (2, r), some (0, (k + 1)), none, none]) rfl rfl rfl rfl rfl (by omega) ?_
      refine y_goto rfl ?_
      refine ih (yset τ r k 0) (k + 1) (by omega) (by omega) (fun c x y => by rw [yne (by omega) rfl]; exact h1 c x y) (fun q x y => rowci_cong (h2 q x y) (fun k x y => yne (by omega) rfl)) (fun c x y => ?_) (yfr_set h4 (by omega))
      by_cases e : c = k
      · subst e; rw [yeq]
      · rw [yne (by omega) rfl]; exact h3 c x (by omega)
theorem l_save1 {g : Launch × XG × va_G} {σ : YS} {s r : Int} {E D : YS} (hs : yS s) (hy : yR r) (hrs : r < s ∨ s + 12 < r) (hr : rep σ s E D) (he : eG E) : ∀ (nn : Nat) (τ : YS) (i : Int), E 1 0 - i < (nn : Int) → (0 ≤ i ∧ i ≤ E 1 0) → (∀ c, 0 ≤ c → c < 9 → τ r c = D 0 c) → (∀ q, 0 ≤ q → q < i → rowci τ r E D q) → (yfr σ τ r r) → YW g 50 14 [some (2, s), some (2, r), some (0, i), none, none] [] τ (fun rv σ' => rv = none ∧ (rowc σ' r E D ∧ yfr σ σ' r r)) := by
  intro nn
  induction nn with
  | zero =>
    intro τ i hn h0 h1 h2 h3
    exfalso
    omega
  | succ nn ih =>
    intro τ i hn h0 h1 h2 h3
    have s0 := yS_0 hs
    have ⟨⟨f1, f2, f3, f4⟩, f5, f6, f7, f8⟩ := hr
    have ⟨e1, e2, e3⟩ := he
    have y0 := hy.1
    have h5 : τ s 5 = σ s 5 := h3 _ _ (by omega)
    refine y_iload rfl rfl ?_
    refine y_aload rfl rfl rfl ?_
    refine y_gfi (v := (τ s 5)) rfl (yS_c hs) (yS_0 hs).1 rfl (by decide) rfl rfl ?_
    refine y_icge rfl (fun q19 => ?_) (fun q19 => ?_)
    · skip
      refine y_push rfl ?_
      refine y_push rfl ?_
      refine y_aload rfl rfl rfl ?_
      refine y_gfi (v := (τ s 5)) rfl (yS_c hs) (yS_0 hs).1 rfl (by decide) rfl rfl ?_
      refine y_imul (v := (4 * (τ s 5))) rfl rfl (by omega) ?_
      refine y_iadd (v := (9 + (4 * (τ s 5)))) rfl rfl (by omega) ?_
      refine y_istore (L' := [some (2, s), some (2, r), some (0, (9 + (4 * (τ s 5)))), none, none]) rfl rfl rfl rfl ?_
      refine l_save2 hs hy hrs hr he 22 τ (9 + (4 * (τ s 5))) (by omega) (by omega) h1 (fun q x y => h2 q x (by omega)) (fun c x y => by omega) h3
    · skip
      have hq := repm_cong (σ' := τ) (f6 i (by omega) (by omega)) (fun x y x1 x2 => h3 x y (by omega))
      have hq8 := hq.2.2.2.2
      refine y_aload rfl rfl rfl ?_
      refine y_gfr (t := (s + 2)) rfl (yS_c hs) (yS_0 hs).1 rfl (by have := yS_0 hs; omega) ?_
      refine y_iload rfl rfl ?_
      refine y_aald (v := ((s + 3) + 3 * i)) (n := 3) rfl (yS_m hs) (by have := yS_0 hs; omega) rfl (by omega) rfl ?_
      refine y_astore (L' := [some (2, s), some (2, r), some (0, i), some (2, ((s + 3) + 3 * i)), none]) rfl rfl rfl rfl rfl ?_
      refine y_push rfl ?_
      refine y_push rfl ?_
      refine y_iload rfl rfl ?_
      refine y_imul (v := (4 * i)) rfl rfl (by omega) ?_
      refine y_iadd (v := (9 + (4 * i))) rfl rfl (by omega) ?_
      refine y_istore (L' := [some (2, s), some (2, r), some (0, i), some (2, ((s + 3) + 3 * i)), some (0, (9 + (4 * i)))]) rfl rfl rfl rfl ?_
      refine y_aload rfl rfl rfl ?_
      refine y_iload rfl rfl ?_
      refine y_aload rfl rfl rfl ?_
      refine y_gfi (v := (τ ((s + 3) + 3 * i) 5)) rfl (yN_c (yS_n (s := s) (i := i) hs (by omega))) (by have := yN_0 (yS_n (s := s) (i := i) hs (by omega)); omega) rfl (by decide) rfl rfl ?_
      refine y_iast (n := 22) rfl hy.2 hy.1 rfl (by omega) ?_
      refine y_aload rfl rfl rfl ?_
      refine y_iload rfl rfl ?_
      refine y_push rfl ?_
      refine y_iadd (v := ((9 + (4 * i)) + 1)) rfl rfl (by omega) ?_
      refine y_aload rfl rfl rfl ?_
      refine y_gfi (v := (τ ((s + 3) + 3 * i) 6)) rfl (yN_c (yS_n (s := s) (i := i) hs (by omega))) (by have := yN_0 (yS_n (s := s) (i := i) hs (by omega)); omega) rfl (by decide) rfl (yne (by omega) rfl) ?_
      refine y_iast (n := 22) rfl hy.2 hy.1 rfl (by omega) ?_
      refine y_aload rfl rfl rfl ?_
      refine y_iload rfl rfl ?_
      refine y_push rfl ?_
      refine y_iadd (v := ((9 + (4 * i)) + 2)) rfl rfl (by omega) ?_
      refine y_aload rfl rfl rfl ?_
      refine y_gfi (v := (τ ((s + 3) + 3 * i) 7)) rfl (yN_c (yS_n (s := s) (i := i) hs (by omega))) (by have := yN_0 (yS_n (s := s) (i := i) hs (by omega)); omega) rfl (by decide) rfl (yne (by omega) (yne (by omega) rfl)) ?_
      refine y_iast (n := 22) rfl hy.2 hy.1 rfl (by omega) ?_
      refine y_aload rfl rfl rfl ?_
      refine y_iload rfl rfl ?_
      refine y_push rfl ?_
      refine y_iadd (v := ((9 + (4 * i)) + 3)) rfl rfl (by omega) ?_
      refine y_aload rfl rfl rfl ?_
      refine y_gfi (v := (τ ((s + 3) + 3 * i) 8)) rfl (yN_c (yS_n (s := s) (i := i) hs (by omega))) (by have := yN_0 (yS_n (s := s) (i := i) hs (by omega)); omega) rfl (by decide) rfl (yne (by omega) (yne (by omega) (yne (by omega) rfl))) ?_
      refine y_ifeq rfl (fun q74 => ?_) (fun q74 => ?_)
      · skip
        refine y_push rfl ?_
        refine y_iast (n := 22) rfl hy.2 hy.1 rfl (by omega) ?_
        refine y_iinc (L' := [some (2, s), some (2, r), some (0, (i + 1)), some (2, ((s + 3) + 3 * i)), some (0, (9 + (4 * i)))]) rfl rfl rfl rfl rfl (by omega) ?_
        refine y_goto rfl ?_
        refine y_forget (M := [some (2, s), some (2, r), some (0, (i + 1)), none, none]) ⟨Or.inr rfl, ⟨Or.inr rfl, ⟨Or.inr rfl, ⟨Or.inl rfl, ⟨Or.inl rfl, trivial⟩⟩⟩⟩⟩ ?_
        refine ih (yset (yset (yset (yset τ r (9 + (4 * i)) (τ ((s + 3) + 3 * i) 5)) r ((9 + (4 * i)) + 1) (τ ((s + 3) + 3 * i) 6)) r ((9 + (4 * i)) + 2) (τ ((s + 3) + 3 * i) 7)) r ((9 + (4 * i)) + 3) 0) (i + 1) (by omega) (by omega) (fun c x y => by rw [yne (by omega) rfl, yne (by omega) rfl, yne (by omega) rfl, yne (by omega) rfl]; exact h1 c x y) (fun q x y => ?_) (yfr_set (yfr_set (yfr_set (yfr_set h3 (by omega)) (by omega)) (by omega)) (by omega))
        by_cases e : q = i
        · subst e; exact rowci_sv hq (by unfold yb; split <;> omega)
        · exact rowci_cong (h2 q x (by omega)) (fun k x y => by rw [yne (by omega) rfl, yne (by omega) rfl, yne (by omega) rfl, yne (by omega) rfl])
      · skip
        refine y_push rfl ?_
        refine y_goto rfl ?_
        refine y_iast (n := 22) rfl hy.2 hy.1 rfl (by omega) ?_
        refine y_iinc (L' := [some (2, s), some (2, r), some (0, (i + 1)), some (2, ((s + 3) + 3 * i)), some (0, (9 + (4 * i)))]) rfl rfl rfl rfl rfl (by omega) ?_
        refine y_goto rfl ?_
        refine y_forget (M := [some (2, s), some (2, r), some (0, (i + 1)), none, none]) ⟨Or.inr rfl, ⟨Or.inr rfl, ⟨Or.inr rfl, ⟨Or.inl rfl, ⟨Or.inl rfl, trivial⟩⟩⟩⟩⟩ ?_
        refine ih (yset (yset (yset (yset τ r (9 + (4 * i)) (τ ((s + 3) + 3 * i) 5)) r ((9 + (4 * i)) + 1) (τ ((s + 3) + 3 * i) 6)) r ((9 + (4 * i)) + 2) (τ ((s + 3) + 3 * i) 7)) r ((9 + (4 * i)) + 3) 1) (i + 1) (by omega) (by omega) (fun c x y => by rw [yne (by omega) rfl, yne (by omega) rfl, yne (by omega) rfl, yne (by omega) rfl]; exact h1 c x y) (fun q x y => ?_) (yfr_set (yfr_set (yfr_set (yfr_set h3 (by omega)) (by omega)) (by omega)) (by omega))
        by_cases e : q = i
        · subst e; exact rowci_sv hq (by unfold yb; split <;> omega)
        · exact rowci_cong (h2 q x (by omega)) (fun k x y => by rw [yne (by omega) rfl, yne (by omega) rfl, yne (by omega) rfl, yne (by omega) rfl])
theorem c_save {g : Launch × XG × va_G} {σ : YS} {s r : Int} {E D : YS} (hs : yS s) (hy : yR r) (hrs : r < s ∨ s + 12 < r) (hr : rep σ s E D) (he : eG E) : YU g 50 [(2, s), (2, r)] σ (fun σ' => rowc σ' r E D ∧ yfr σ σ' r r) := by
  refine y_start rfl rfl rfl ?_
  have s0 := yS_0 hs
  have ⟨⟨f1, f2, f3, f4⟩, f5, f6, f7, f8⟩ := hr
  have ⟨e1, e2, e3⟩ := he
  have y0 := hy.1
  refine y_aload rfl rfl rfl ?_
  refine y_gfr (t := (s + 1)) rfl (yS_c hs) (yS_0 hs).1 rfl (by have := yS_0 hs; omega) ?_
  refine y_push rfl ?_
  refine y_aload rfl rfl rfl ?_
  refine y_push rfl ?_
  refine y_push rfl ?_
  refine y_acopy (v := 9) (w := 22) rfl (yS_w hs) hy.2 ⟨(by have := yS_0 hs; omega), hy.1⟩ rfl rfl (by omega) rfl ?_
  refine y_push rfl ?_
  refine y_istore (L' := [some (2, s), some (2, r), some (0, 0), none, none]) rfl rfl rfl rfl ?_
  refine l_save1 hs hy hrs hr he 4 (ycopy σ (s + 1) 0 r 0 9) 0 (by omega) (by omega) (fun c x y => ?_) (fun q x y => by omega) (yfr_cp (yfr_refl _ _ _) (by omega))
  unfold ycopy; rw [if_pos (by omega), Int.sub_zero, Int.add_zero]; exact f5 c x y
theorem repm_ld {τ : YS} {a : Int} {E D C : YS} {i v5 v6 v7 v8 : Int} (h : repm τ a E D i) (h5 : v5 = C 1 i) (h6 : v6 = C 2 i) (h7 : v7 = C 3 i) (h8 : v8 = 0 ∨ v8 = 1) (h9 : C 4 i = 0 ↔ ¬ (v8 = 1 ∨ E 3 i = 0 ∨ mfl E i ≠ -1)) : repm (yset (yset (yset (yset τ a 5 v5) a 6 v6) a 7 v7) a 8 v8) a E C i := by
  obtain ⟨l, g2, g3, g6, g7⟩ := h
  have l' : lrn (yset (yset (yset (yset τ a 5 v5) a 6 v6) a 7 v7) a 8 v8) a (msg E i) (E 3 i) := lrn_cong l (fun x y hx => by rw [yne (by omega) rfl, yne (by omega) rfl, yne (by omega) rfl, yne (by omega) rfl])
  refine ⟨l', by rw [yne (by omega) rfl, yne (by omega) rfl, yne (by omega) rfl, yne (by omega) rfl]; exact g2, ⟨?_, ?_, ?_⟩, ?_, ?_⟩
  · rw [yne (by omega) rfl, yne (by omega) rfl, yne (by omega) rfl, yeq]; exact h5
  · rw [yne (by omega) rfl, yne (by omega) rfl, yeq]; exact h6
  · rw [yne (by omega) rfl, yeq]; exact h7
  · rw [h9]
    unfold mst
    rw [l'.1, l'.2.2.1, yeq]
    show ¬ (v8 = 1 ∨ E 3 i = 0 ∨ mfl E i ≠ -1) ↔ ¬ (v8 ≠ 0 ∨ E 3 i = 0 ∨ mfl E i ≠ -1)
    have : v8 = 1 ↔ v8 ≠ 0 := by omega
    rw [this]
  · rw [yeq]; exact h8
theorem l_load {g : Launch × XG × va_G} {σ : YS} {s r : Int} {E D C : YS} (hs : yS s) (hy : yR r) (hrs : r < s ∨ s + 12 < r) (hr : rep σ s E D) (he : eG E) (hc : rowc σ r E C) : ∀ (nn : Nat) (τ : YS) (i : Int), E 1 0 - i < (nn : Int) → (0 ≤ i ∧ i ≤ E 1 0) → (τ s 4 = σ s 4 ∧ τ s 5 = σ s 5 ∧ τ s 7 = σ s 7) → (∀ c, 0 ≤ c → c < 9 → τ (s + 1) c = C 0 c) → (∀ q, 0 ≤ q → q < i → repm τ (s + 3 + 3 * q) E C q) → (∀ x y, s + 3 + 3 * i ≤ x → x ≤ s + 12 → τ x y = σ x y) → (yfr σ τ s (s + 11)) → YW g 144 14 [some (2, s), some (2, r), some (0, i), none, none] [] τ (fun rv σ' => rv = none ∧ (rep σ' s E (yset C 6 0 (D 6 0)) ∧ yfr σ σ' s (s + 11))) := by
  intro nn
  induction nn with
  | zero =>
    intro τ i hn h0 h1 h2 h3 h4 h5
    exfalso
    omega
  | succ nn ih =>
    intro τ i hn h0 h1 h2 h3 h4 h5
    have s0 := yS_0 hs
    have ⟨⟨f1, f2, f3, f4⟩, f5, f6, f7, f8⟩ := hr
    have ⟨e1, e2, e3⟩ := he
    have y0 := hy.1
    have ⟨c1, c2, c3, c4⟩ := hc
    refine y_iload rfl rfl ?_
    refine y_aload rfl rfl rfl ?_
    refine y_gfi (v := (τ s 5)) rfl (yS_c hs) (yS_0 hs).1 rfl (by decide) rfl rfl ?_
    refine y_icge rfl (fun q19 => ?_) (fun q19 => ?_)
    · skip
      refine y_aload rfl rfl rfl ?_
      refine y_aload rfl rfl rfl ?_
      refine y_push rfl ?_
      refine y_iald (v := (τ r 21)) (n := 22) rfl hy.2 hy.1 rfl (by decide) rfl ?_
      refine y_pfi (j := 6) rfl (yS_c hs) (yS_0 hs).1 rfl rfl rfl rfl rfl ?_
      refine y_ret rfl rfl ⟨rfl, ?_⟩
      refine ⟨⟨⟨by rw [yne (by omega) rfl, h1.1]; exact f1, by rw [yne (by omega) rfl, h1.2.1]; exact f2, by rw [yeq, yw_D (by omega)]; exact (h5 r _ (by omega)).trans c4, by rw [yne (by omega) rfl, yeq, h1.2.2]; exact f4⟩, fun c x y => by rw [yne (by omega) rfl, yw_D (by omega)]; exact h2 c x y, fun q x y => repm_w (repm_ne (by omega) (h3 q x (by omega))), f7, fun j x y => by rw [yne (by omega) rfl, h5 _ _ (by omega)]; exact f8 j x y⟩, yfr_set h5 (by omega)⟩
    · skip
      have hq := repm_cong (σ' := τ) (f6 i (by omega) (by omega)) (fun x y x1 x2 => h4 x y (by omega) (by omega))
      have ⟨g1, g2, g3, g4, g5⟩ := c2 i (by omega) (by omega)
      have h6 := h5 r (9 + 4 * i + 3) (by omega)
      refine y_aload rfl rfl rfl ?_
      refine y_gfr (t := (s + 2)) rfl (yS_c hs) (yS_0 hs).1 rfl (by have := yS_0 hs; omega) ?_
      refine y_iload rfl rfl ?_
      refine y_aald (v := ((s + 3) + 3 * i)) (n := 3) rfl (yS_m hs) (by have := yS_0 hs; omega) rfl (by omega) rfl ?_
      refine y_astore (L' := [some (2, s), some (2, r), some (0, i), some (2, ((s + 3) + 3 * i)), none]) rfl rfl rfl rfl rfl ?_
      refine y_push rfl ?_
      refine y_push rfl ?_
      refine y_iload rfl rfl ?_
      refine y_imul (v := (4 * i)) rfl rfl (by omega) ?_
      refine y_iadd (v := (9 + (4 * i))) rfl rfl (by omega) ?_
      refine y_istore (L' := [some (2, s), some (2, r), some (0, i), some (2, ((s + 3) + 3 * i)), some (0, (9 + (4 * i)))]) rfl rfl rfl rfl ?_
      refine y_aload rfl rfl rfl ?_
      refine y_aload rfl rfl rfl ?_
      refine y_iload rfl rfl ?_
      refine y_iald (v := (τ r (9 + (4 * i)))) (n := 22) rfl hy.2 hy.1 rfl (by omega) rfl ?_
      refine y_pfi (j := 5) rfl (yN_c (yS_n (s := s) (i := i) hs (by omega))) (by have := yN_0 (yS_n (s := s) (i := i) hs (by omega)); omega) rfl rfl rfl rfl rfl ?_
      refine y_aload rfl rfl rfl ?_
      refine y_aload rfl rfl rfl ?_
      refine y_iload rfl rfl ?_
      refine y_push rfl ?_
      refine y_iadd (v := ((9 + (4 * i)) + 1)) rfl rfl (by omega) ?_
      refine y_iald (v := (τ r ((9 + (4 * i)) + 1))) (n := 22) rfl hy.2 hy.1 rfl (by omega) (yne (by omega) rfl) ?_
      refine y_pfi (j := 6) rfl (yN_c (yS_n (s := s) (i := i) hs (by omega))) (by have := yN_0 (yS_n (s := s) (i := i) hs (by omega)); omega) rfl rfl rfl rfl rfl ?_
      refine y_aload rfl rfl rfl ?_
      refine y_aload rfl rfl rfl ?_
      refine y_iload rfl rfl ?_
      refine y_push rfl ?_
      refine y_iadd (v := ((9 + (4 * i)) + 2)) rfl rfl (by omega) ?_
      refine y_iald (v := (τ r ((9 + (4 * i)) + 2))) (n := 22) rfl hy.2 hy.1 rfl (by omega) (yne (by omega) (yne (by omega) rfl)) ?_
      refine y_pfi (j := 7) rfl (yN_c (yS_n (s := s) (i := i) hs (by omega))) (by have := yN_0 (yS_n (s := s) (i := i) hs (by omega)); omega) rfl rfl rfl rfl rfl ?_
      refine y_aload rfl rfl rfl ?_
      refine y_aload rfl rfl rfl ?_
      refine y_iload rfl rfl ?_
      refine y_push rfl ?_
      refine y_iadd (v := ((9 + (4 * i)) + 3)) rfl rfl (by omega) ?_
      refine y_iald (v := (τ r ((9 + (4 * i)) + 3))) (n := 22) rfl hy.2 hy.1 rfl (by omega) (yne (by omega) (yne (by omega) (yne (by omega) rfl))) ?_
      refine y_push rfl ?_
      refine y_icne rfl (fun q73 => ?_) (fun q73 => ?_)
      · skip
        refine y_push rfl ?_
        refine y_pfz (j := 8) rfl (yN_c (yS_n (s := s) (i := i) hs (by omega))) (by have := yN_0 (yS_n (s := s) (i := i) hs (by omega)); omega) rfl rfl rfl rfl rfl (by decide) ?_
        refine y_iinc (L' := [some (2, s), some (2, r), some (0, (i + 1)), some (2, ((s + 3) + 3 * i)), some (0, (9 + (4 * i)))]) rfl rfl rfl rfl rfl (by omega) ?_
        refine y_goto rfl ?_
        refine y_forget (M := [some (2, s), some (2, r), some (0, (i + 1)), none, none]) ⟨Or.inr rfl, ⟨Or.inr rfl, ⟨Or.inr rfl, ⟨Or.inl rfl, ⟨Or.inl rfl, trivial⟩⟩⟩⟩⟩ ?_
        refine ih (yset (yset (yset (yset τ ((s + 3) + 3 * i) 5 (τ r (9 + (4 * i)))) ((s + 3) + 3 * i) 6 (τ r ((9 + (4 * i)) + 1))) ((s + 3) + 3 * i) 7 (τ r ((9 + (4 * i)) + 2))) ((s + 3) + 3 * i) 8 0) (i + 1) (by omega) (by omega) (by rw [yne (by omega) rfl, yne (by omega) rfl, yne (by omega) rfl, yne (by omega) rfl, yne (by omega) rfl, yne (by omega) rfl, yne (by omega) rfl, yne (by omega) rfl, yne (by omega) rfl, yne (by omega) rfl, yne (by omega) rfl, yne (by omega) rfl]; exact h1) (fun c x y => by rw [yne (by omega) rfl, yne (by omega) rfl, yne (by omega) rfl, yne (by omega) rfl]; exact h2 c x y) (fun q x y => ?_) (fun x y x1 x2 => by rw [yne (by omega) rfl, yne (by omega) rfl, yne (by omega) rfl, yne (by omega) rfl]; exact h4 x y (by omega) x2) (yfr_set (yfr_set (yfr_set (yfr_set h5 (by omega)) (by omega)) (by omega)) (by omega))
        by_cases e : q = i
        · subst e; exact repm_ld hq (by rw [h5 r _ (by omega)]; exact g1) (by rw [h5 r _ (by omega)]; exact g2) (by rw [h5 r _ (by omega)]; exact g3) (by omega) (by rw [g5]; have := h5 r (9 + 4 * q + 3) (by omega); constructor <;> (intro z y; exact z (by omega)))
        · exact repm_ne (by omega) (repm_ne (by omega) (repm_ne (by omega) (repm_ne (by omega) (h3 q x (by omega)))))
      · skip
        refine y_push rfl ?_
        refine y_goto rfl ?_
        refine y_pfz (j := 8) rfl (yN_c (yS_n (s := s) (i := i) hs (by omega))) (by have := yN_0 (yS_n (s := s) (i := i) hs (by omega)); omega) rfl rfl rfl rfl rfl (by decide) ?_
        refine y_iinc (L' := [some (2, s), some (2, r), some (0, (i + 1)), some (2, ((s + 3) + 3 * i)), some (0, (9 + (4 * i)))]) rfl rfl rfl rfl rfl (by omega) ?_
        refine y_goto rfl ?_
        refine y_forget (M := [some (2, s), some (2, r), some (0, (i + 1)), none, none]) ⟨Or.inr rfl, ⟨Or.inr rfl, ⟨Or.inr rfl, ⟨Or.inl rfl, ⟨Or.inl rfl, trivial⟩⟩⟩⟩⟩ ?_
        refine ih (yset (yset (yset (yset τ ((s + 3) + 3 * i) 5 (τ r (9 + (4 * i)))) ((s + 3) + 3 * i) 6 (τ r ((9 + (4 * i)) + 1))) ((s + 3) + 3 * i) 7 (τ r ((9 + (4 * i)) + 2))) ((s + 3) + 3 * i) 8 1) (i + 1) (by omega) (by omega) (by rw [yne (by omega) rfl, yne (by omega) rfl, yne (by omega) rfl, yne (by omega) rfl, yne (by omega) rfl, yne (by omega) rfl, yne (by omega) rfl, yne (by omega) rfl, yne (by omega) rfl, yne (by omega) rfl, yne (by omega) rfl, yne (by omega) rfl]; exact h1) (fun c x y => by rw [yne (by omega) rfl, yne (by omega) rfl, yne (by omega) rfl, yne (by omega) rfl]; exact h2 c x y) (fun q x y => ?_) (fun x y x1 x2 => by rw [yne (by omega) rfl, yne (by omega) rfl, yne (by omega) rfl, yne (by omega) rfl]; exact h4 x y (by omega) x2) (yfr_set (yfr_set (yfr_set (yfr_set h5 (by omega)) (by omega)) (by omega)) (by omega))
        by_cases e : q = i
        · subst e; exact repm_ld hq (by rw [h5 r _ (by omega)]; exact g1) (by rw [h5 r _ (by omega)]; exact g2) (by rw [h5 r _ (by omega)]; exact g3) (by omega) (by rw [g5]; have := h5 r (9 + 4 * q + 3) (by omega); constructor <;> (intro z y; exact z (by omega)))
        · exact repm_ne (by omega) (repm_ne (by omega) (repm_ne (by omega) (repm_ne (by omega) (h3 q x (by omega)))))
theorem c_load {g : Launch × XG × va_G} {σ : YS} {s r : Int} {E D C : YS} (hs : yS s) (hy : yR r) (hrs : r < s ∨ s + 12 < r) (hr : rep σ s E D) (he : eG E) (hc : rowc σ r E C) : YU g 144 [(2, s), (2, r)] σ (fun σ' => rep σ' s E (yset C 6 0 (D 6 0)) ∧ yfr σ σ' s (s + 11)) := by
  refine y_start rfl rfl rfl ?_
  have s0 := yS_0 hs
  have ⟨⟨f1, f2, f3, f4⟩, f5, f6, f7, f8⟩ := hr
  have ⟨e1, e2, e3⟩ := he
  have y0 := hy.1
  have ⟨c1, c2, c3, c4⟩ := hc
  refine y_aload rfl rfl rfl ?_
  refine y_push rfl ?_
  refine y_aload rfl rfl rfl ?_
  refine y_gfr (t := (s + 1)) rfl (yS_c hs) (yS_0 hs).1 rfl (by have := yS_0 hs; omega) ?_
  refine y_push rfl ?_
  refine y_push rfl ?_
  refine y_acopy (v := 22) (w := 9) rfl hy.2 (yS_w hs) ⟨hy.1, (by have := yS_0 hs; omega)⟩ rfl rfl (by omega) rfl ?_
  refine y_push rfl ?_
  refine y_istore (L' := [some (2, s), some (2, r), some (0, 0), none, none]) rfl rfl rfl rfl ?_
  refine l_load hs hy hrs hr he hc 4 (ycopy σ r 0 (s + 1) 0 9) 0 (by omega) (by omega) ?_ (fun c x y => ?_) (fun q x y => by omega) (fun x y x1 x2 => by rw [ycn (by omega) rfl]) (yfr_cp (yfr_refl _ _ _) (by omega))
  · exact ⟨by rw [ycn (by omega) rfl], by rw [ycn (by omega) rfl], by rw [ycn (by omega) rfl]⟩
  · unfold ycopy; rw [if_pos (by omega), Int.sub_zero, Int.add_zero]; exact c1 c x y
