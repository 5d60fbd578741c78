theorem pst_copy {σ σ' : YS} {p z n : Int} {E : YS} {u : Int} {U : Int → YS} (hm : 0 ≤ E 1 0 ∧ E 1 0 ≤ 3) (h : pst σ z n E u U) (e1 : σ' p 1 = σ z 1) (e2 : ∀ j, 0 ≤ j → j < 20 → ∀ c, 0 ≤ c → c < 22 → σ' (p + 2 + j) c = σ (z + 2 + j) c) : pst σ' p n E u U := by
  obtain ⟨h1, h2, h3⟩ := h
  refine ⟨e1.trans h1, h2, fun k a b => ?_⟩
  obtain ⟨c1, c2, c3, c4⟩ := h3 k a b
  have e : ∀ c, 0 ≤ c → c < 22 → σ' (p + 2 + (n - 1 - k) % 20) c = σ (z + 2 + (n - 1 - k) % 20) c := e2 _ (by omega) (by omega)
  refine ⟨fun c x y => by rw [e c x (by omega)]; exact c1 c x y, fun i x y => ?_, fun c x y => by rw [e c (by omega) (by omega)]; exact c3 c x y, by rw [e 21 (by omega) (by omega)]; exact c4⟩
  have := c2 i x y
  unfold rowci at this ⊢
  rw [e _ (by omega) (by omega), e _ (by omega) (by omega), e _ (by omega) (by omega), e _ (by omega) (by omega)]
  exact this
theorem xW_image {σ σ1 σ2 : YS} {Z : YZ} {I : Int → YZ} {M : YS} {N i : Int} (hg : wG Z I M N) (h : xW σ Z I M) (hi : 0 ≤ i ∧ i < 2) (z1 : rep σ1 (66 + 14 * i) (Z 0) (yset (Z 1) 6 0 (σ (66 + 14 * i) 7))) (z2 : yfr σ σ1 (66 + 14 * i) (66 + 14 * i + 12)) (y1 : σ2 (95 + 22 * i) 1 = σ1 15 1) (y2 : ∀ j, 0 ≤ j → j < 20 → ∀ c, 0 ≤ c → c < 22 → σ2 (95 + 22 * i + 2 + j) c = σ1 (15 + 2 + j) c) (y3 : yfr σ1 σ2 (95 + 22 * i) (95 + 22 * i + 21)) : xW (yset σ2 139 i 1) Z (iset I i Z) (yset M 0 i 1) := by
  obtain ⟨x1, x2, x3, ⟨x4, x5⟩, x6⟩ := h
  have hm := hg.1.1.2.1
  have e : ∀ x y, (x < 66 + 14 * i ∨ 66 + 14 * i + 12 < x) → (x < 95 + 22 * i ∨ 95 + 22 * i + 21 < x) → x ≠ 139 → yset σ2 139 i 1 x y = σ x y := fun x y a b c => by rw [yne (by omega) rfl, y3 x y b, z2 x y a]
  have em : ∀ r c, r ≠ 0 → yset M 0 i 1 r c = M r c := fun r c h => yne (by omega) rfl
  refine ⟨zst_cong hm x1 (fun x y z => e x y (by omega) (by omega) (by omega)), fun j a b c => ?_, fun j a b => ?_, ⟨by rw [em 2 0 (by omega), e _ _ (by omega) (by omega) (by omega)]; exact x4, fun k a b => by rw [em 2 0 (by omega)] at b; rw [em 1 k (by omega), e _ _ (by omega) (by omega) (by omega)]; exact x5 k a b⟩, fun j a b => by rw [em 3 j (by omega), e _ _ (by omega) (by omega) (by omega)]; exact x6 j a b⟩
  · unfold iset
    by_cases q : j = i
    · subst q
      rw [if_pos rfl]
      have r1 := rep_cong (σ' := yset σ2 139 j 1) hm.2 z1 (fun x y a b => by rw [yne (by omega) rfl, y3 x y (by omega)])
      have h7 : yset σ2 139 j 1 (66 + 14 * j) 7 = σ (66 + 14 * j) 7 := by rw [r1.1.2.2.2, yeq]
      rw [h7]
      refine ⟨r1, ?_⟩
      have p1 : pst σ1 15 (Z 1 5 0) (Z 0) (Z 2 0 0) (fun k => Z (3 + k)) := pst_cong hm x1.2 (fun x y a b => z2 x y (by omega))
      have p2 := pst_copy (σ' := yset σ2 139 j 1) (p := 95 + 22 * j) hm p1 (by rw [yne (by omega) rfl]; exact y1) (fun q a b c d f => by rw [yne (by omega) rfl]; exact y2 q a b c d f)
      have q5 : zw Z (σ (66 + 14 * j) 7) 1 5 0 = Z 1 5 0 := by show yset (Z 1) 6 0 (σ (66 + 14 * j) 7) 5 0 = _; rw [yne (by omega) rfl]
      rw [q5]
      exact pst_U p2 (fun k a b => by show zw Z _ (3 + k) = Z (3 + k); unfold zw; rw [if_neg (by omega)])
    · rw [if_neg q]
      have c' : M 0 j = 1 := by rw [← c, yne (by omega) rfl]
      rw [e (66 + 14 * j) 7 (by omega) (by omega) (by omega)]
      exact zst_cong ((hg.2.1 j a b).2 c').1.2.1 (x2 j a b c') (fun x y z => e x y (by omega) (by omega) (by omega))
  · by_cases q : j = i
    · subst q; rw [yeq, yeq]
    · rw [yne (by omega) rfl, yne (by omega) rfl, y3 _ _ (by omega), z2 _ _ (by omega)]; exact x3 j a b
theorem xW_from {σ σ1 σ2 : YS} {Z : YZ} {I : Int → YZ} {M : YS} {N i : Int} (hg : wG Z I M N) (h : xW σ Z I M) (hi : 0 ≤ i ∧ i < 2) (hM : M 0 i = 1) (z1 : rep σ1 1 (I i 0) (yset (zw (I i) (σ (66 + 14 * i) 7) 1) 6 0 (σ 1 7))) (z2 : yfr σ σ1 1 13) (y1 : σ2 15 1 = σ1 (95 + 22 * i) 1) (y2 : ∀ j, 0 ≤ j → j < 20 → ∀ c, 0 ≤ c → c < 22 → σ2 (15 + 2 + j) c = σ1 (95 + 22 * i + 2 + j) c) (y3 : yfr σ1 σ2 15 36) : xW σ2 (zw (I i) (Z 1 6 0)) I M := by
  have x1 := h.1
  have x2 := h.2.1 i hi.1 hi.2 hM
  have gi := (hg.2.1 i hi.1 hi.2).2 hM
  have hm := gi.1.2.1
  refine xW_rest hg h ?_ (fun x y z => by rw [y3 x y (by omega), z2 x y (by omega)])
  have ee : yset (zw (I i) (σ (66 + 14 * i) 7) 1) 6 0 (σ 1 7) = yset (I i 1) 6 0 (Z 1 6 0) := by
    rw [x1.1.1.2.2.2]
    funext r c
    show yset (yset (I i 1) 6 0 _) 6 0 _ r c = _
    by_cases q : r = 6 ∧ c = 0
    · obtain ⟨rfl, rfl⟩ := q; rw [yeq, yeq]
    · rw [yne q rfl, yne q rfl, yne q rfl]
  rw [ee] at z1
  refine ⟨rep_cong hm.2 z1 (fun x y a b => y3 x y (by omega)), ?_⟩
  have p0 := x2.2
  have p1 : pst σ1 (95 + 22 * i) _ _ _ _ := pst_cong hm p0 (fun x y a b => z2 x y (by omega))
  have p2 := pst_copy (σ' := σ2) (p := 15) hm p1 y1 y2
  have e5 : zw (I i) (σ (66 + 14 * i) 7) 1 5 0 = zw (I i) (Z 1 6 0) 1 5 0 := by
    show yset (I i 1) 6 0 (σ (66 + 14 * i) 7) 5 0 = yset (I i 1) 6 0 (Z 1 6 0) 5 0
    rw [yne (by omega) rfl, yne (by omega) rfl]
  rw [e5] at p2
  exact pst_U p2 (fun k a b => by show zw (I i) _ (3 + k) = zw (I i) _ (3 + k); unfold zw; rw [if_neg (by omega), if_neg (by omega)])
theorem c_image {g : Launch × XG × va_G} {σ : YS} {Z : YZ} {I : Int → YZ} {M : YS} {N : Int} {i : Int} (hx : xW σ Z I M) (hg : wG Z I M N) (hN : N < 100000) : YI g 94 [(2, 0), (0, i)] σ (fun b σ' => b = (kimage Z I M i).1 ∧ xW σ' (kimage Z I M i).2.1 (kimage Z I M i).2.2.1 (kimage Z I M i).2.2.2 ∧ mfr σ σ') := by
  refine y_start rfl rfl rfl ?_
  have ⟨⟨hr, hu⟩, x2, x3, ⟨x4, x5⟩, x6⟩ := hx
  have ⟨⟨he, hd, hn, hu2, h67, hk⟩, g2, g3, g4⟩ := hg
  have ⟨⟨f1, f2, f3, f4⟩, f5, f6, g7, g8⟩ := hr
  have ⟨e1, e2, e3⟩ := he
  have ⟨u1, u2, u3⟩ := hu
  have x60 : σ 0 11 = M 3 0 := x6 0 (by omega) (by omega)
  have x61 : σ 0 12 = M 3 1 := x6 1 (by omega) (by omega)
  have x62 : σ 0 13 = M 3 2 := x6 2 (by omega) (by omega)
  have g40 := g4 0 (by omega) (by omega)
  have g41 := g4 1 (by omega) (by omega)
  have g42 := g4 2 (by omega) (by omega)
  have f5 : ∀ c, 0 ≤ c → c < 9 → σ 2 c = Z 1 0 c := f5
  have f6 : ∀ i, 0 ≤ i → i < Z 0 1 0 → repm σ (4 + 3 * i) (Z 0) (Z 1) i := f6
  refine y_iload rfl rfl ?_
  refine y_iflt rfl (fun q1 => ?_) (fun q1 => ?_)
  · skip
    refine y_aload rfl rfl rfl ?_
    refine y_push rfl ?_
    refine y_vi (as := [(2, 0), (0, (-2))]) (S := []) rfl rfl rfl rfl rfl rfl (by decide) rfl (c_bad (by omega)) ?_
    rintro _ _ ⟨rfl, rfl⟩
    refine y_iret rfl rfl ⟨_, rfl, ?_⟩
    have hK : kimage Z I M i = (-2, Z, I, bump M 0) := if_neg (by omega)
    rw [hK]
    exact ⟨rfl, xW_bump hg hx (by omega) rfl rfl, mfr_s (mfr_0 _) (by omega)⟩
  · skip
    refine y_iload rfl rfl ?_
    refine y_push rfl ?_
    refine y_iclt rfl (fun q6 => ?_) (fun q6 => ?_)
    · skip
      refine y_aload rfl rfl rfl ?_
      refine y_gfr (t := 65) rfl rfl (by decide) rfl (by decide) ?_
      refine y_iload rfl rfl ?_
      refine y_aald (ty := 10) (v := (66 + 14 * i)) (n := 2) rfl rfl (by decide) rfl (by omega) rfl ?_
      refine y_aload rfl rfl rfl ?_
      refine y_gfr (t := 1) rfl rfl (by decide) rfl (by decide) ?_
      refine y_vu (as := [(2, (66 + 14 * i)), (2, 1)]) (S := []) rfl rfl rfl rfl rfl rfl (yS_0 (yS_img (i := i) (by omega))).1 (yS_c (yS_img (i := i) (by omega))) (c_scopy (s := 66 + 14 * i) (z := 1) (yS_img (i := i) (by omega)) yS_1 (by omega) hr he) ?_
      rintro σ1 ⟨z1, z2⟩
      refine y_aload rfl rfl rfl ?_
      refine y_gfr (t := 94) rfl rfl (by decide) rfl (by decide) ?_
      refine y_iload rfl rfl ?_
      refine y_aald (ty := 9) (v := (95 + 22 * i)) (n := 2) rfl rfl (by decide) rfl (by omega) rfl ?_
      refine y_aload rfl rfl rfl ?_
      refine y_gfr (t := 15) rfl rfl (by decide) rfl (by decide) ?_
      refine y_vu (as := [(2, (95 + 22 * i)), (2, 15)]) (S := []) rfl rfl rfl rfl rfl rfl (by have := yP_0 (yP_img (i := i) (by omega)); omega) (yP_c (yP_img (i := i) (by omega))) (c_pcopy (yP_img (i := i) (by omega)) yP_15 (by omega)) ?_
      rintro σ2 ⟨y1, y2, y3⟩
      refine y_aload rfl rfl rfl ?_
      refine y_gfr (t := 139) rfl rfl (by decide) rfl (by decide) ?_
      refine y_iload rfl rfl ?_
      refine y_push rfl ?_
      refine y_bast (n := 2) rfl rfl (by decide) rfl (by omega) (by decide) ?_
      refine y_push rfl ?_
      refine y_iret rfl rfl ⟨_, rfl, ?_⟩
      have hK : kimage Z I M i = (1, Z, iset I i Z, yset M 0 i 1) := if_pos (by omega)
      rw [hK]
      exact ⟨rfl, xW_image hg hx (by omega) z1 z2 y1 y2 y3, mfr_s (mfr_t (mfr_y z2 (by omega)) (mfr_y y3 (by omega))) (by omega)⟩
    · skip
      refine y_aload rfl rfl rfl ?_
      refine y_push rfl ?_
      refine y_vi (as := [(2, 0), (0, (-2))]) (S := []) rfl rfl rfl rfl rfl rfl (by decide) rfl (c_bad (by omega)) ?_
      rintro _ _ ⟨rfl, rfl⟩
      refine y_iret rfl rfl ⟨_, rfl, ?_⟩
      have hK : kimage Z I M i = (-2, Z, I, bump M 0) := if_neg (by omega)
      rw [hK]
      exact ⟨rfl, xW_bump hg hx (by omega) rfl rfl, mfr_s (mfr_0 _) (by omega)⟩
theorem c_from {g : Launch × XG × va_G} {σ : YS} {Z : YZ} {I : Int → YZ} {M : YS} {N : Int} {i : Int} (hx : xW σ Z I M) (hg : wG Z I M N) (hN : N < 100000) : YI g 98 [(2, 0), (0, i)] σ (fun b σ' => b = (kfrom Z I M i).1 ∧ xW σ' (kfrom Z I M i).2.1 I (kfrom Z I M i).2.2 ∧ mfr σ σ') := by
  refine y_start rfl rfl rfl ?_
  have ⟨⟨hr, hu⟩, x2, x3, ⟨x4, x5⟩, x6⟩ := hx
  have ⟨⟨he, hd, hn, hu2, h67, hk⟩, g2, g3, g4⟩ := hg
  have ⟨⟨f1, f2, f3, f4⟩, f5, f6, g7, g8⟩ := hr
  have ⟨e1, e2, e3⟩ := he
  have ⟨u1, u2, u3⟩ := hu
  have x60 : σ 0 11 = M 3 0 := x6 0 (by omega) (by omega)
  have x61 : σ 0 12 = M 3 1 := x6 1 (by omega) (by omega)
  have x62 : σ 0 13 = M 3 2 := x6 2 (by omega) (by omega)
  have g40 := g4 0 (by omega) (by omega)
  have g41 := g4 1 (by omega) (by omega)
  have g42 := g4 2 (by omega) (by omega)
  have f5 : ∀ c, 0 ≤ c → c < 9 → σ 2 c = Z 1 0 c := f5
  have f6 : ∀ i, 0 ≤ i → i < Z 0 1 0 → repm σ (4 + 3 * i) (Z 0) (Z 1) i := f6
  refine y_iload rfl rfl ?_
  refine y_iflt rfl (fun q1 => ?_) (fun q1 => ?_)
  · skip
    refine y_aload rfl rfl rfl ?_
    refine y_push rfl ?_
    refine y_vi (as := [(2, 0), (0, (-2))]) (S := []) rfl rfl rfl rfl rfl rfl (by decide) rfl (c_bad (by omega)) ?_
    rintro _ _ ⟨rfl, rfl⟩
    refine y_iret rfl rfl ⟨_, rfl, ?_⟩
    have hK : kfrom Z I M i = (_, Z, bump M 0) := if_pos (by omega)
    rw [hK]
    exact ⟨rfl, xW_bump hg hx (by omega) rfl rfl, mfr_s (mfr_0 _) (by omega)⟩
  · skip
    refine y_iload rfl rfl ?_
    refine y_push rfl ?_
    refine y_iclt rfl (fun q6 => ?_) (fun q6 => ?_)
    · skip
      have x3i := x3 i (by omega) (by omega)
      have g2i := g2 i (by omega) (by omega)
      refine y_aload rfl rfl rfl ?_
      refine y_gfr (t := 139) rfl rfl (by decide) rfl (by decide) ?_
      refine y_iload rfl rfl ?_
      refine y_bald (v := (σ 139 i)) (n := 2) rfl rfl (by decide) rfl (by omega) rfl ?_
      refine y_ifne rfl (fun q22 => ?_) (fun q22 => ?_)
      · skip
        have hM : M 0 i = 1 := by omega
        have hzi := x2 i (by omega) (by omega) hM
        have gi := g2i.2 hM
        refine y_aload rfl rfl rfl ?_
        refine y_gfr (t := 1) rfl rfl (by decide) rfl (by decide) ?_
        refine y_aload rfl rfl rfl ?_
        refine y_gfr (t := 65) rfl rfl (by decide) rfl (by decide) ?_
        refine y_iload rfl rfl ?_
        refine y_aald (ty := 10) (v := (66 + 14 * i)) (n := 2) rfl rfl (by decide) rfl (by omega) rfl ?_
        refine y_vu (as := [(2, 1), (2, (66 + 14 * i))]) (S := []) rfl rfl rfl rfl rfl rfl (yS_0 yS_1).1 (yS_c yS_1) (c_scopy (s := 1) (z := 66 + 14 * i) yS_1 (yS_img (i := i) (by omega)) (by omega) hzi.1 gi.1) ?_
        rintro σ1 ⟨z1, z2⟩
        refine y_aload rfl rfl rfl ?_
        refine y_gfr (t := 15) rfl rfl (by decide) rfl (by decide) ?_
        refine y_aload rfl rfl rfl ?_
        refine y_gfr (t := 94) rfl rfl (by decide) rfl (by decide) ?_
        refine y_iload rfl rfl ?_
        refine y_aald (ty := 9) (v := (95 + 22 * i)) (n := 2) rfl rfl (by decide) rfl (by omega) rfl ?_
        refine y_vu (as := [(2, 15), (2, (95 + 22 * i))]) (S := []) rfl rfl rfl rfl rfl rfl (by have := yP_0 yP_15; omega) (yP_c yP_15) (c_pcopy yP_15 (yP_img (i := i) (by omega)) (by omega)) ?_
        rintro σ2 ⟨y1, y2, y3⟩
        refine y_push rfl ?_
        refine y_iret rfl rfl ⟨_, rfl, ?_⟩
        have hK : kfrom Z I M i = (1, zw (I i) (Z 1 6 0), M) := (if_neg (by omega)).trans (if_neg (by omega))
        rw [hK]
        exact ⟨rfl, xW_from hg hx (by omega) hM z1 z2 y1 y2 y3, mfr_t (mfr_y z2 (by omega)) (mfr_y y3 (by omega))⟩
      · skip
        refine y_aload rfl rfl rfl ?_
        refine y_dup rfl rfl ?_
        refine y_gfi (v := (σ 0 12)) rfl rfl (by decide) rfl (by decide) rfl rfl ?_
        refine y_push rfl ?_
        refine y_iadd (v := ((σ 0 12) + 1)) rfl rfl (by omega) ?_
        refine y_pfi (j := 12) rfl rfl (by decide) rfl rfl rfl rfl rfl ?_
        refine y_push rfl ?_
        refine y_iret rfl rfl ⟨_, rfl, ?_⟩
        have hK : kfrom Z I M i = (_, Z, bump M 1) := (if_neg (by omega)).trans (if_pos (by omega))
        rw [hK]
        exact ⟨rfl, xW_bump hg hx (by omega) rfl rfl, mfr_s (mfr_0 _) (by omega)⟩
    · skip
      refine y_aload rfl rfl rfl ?_
      refine y_push rfl ?_
      refine y_vi (as := [(2, 0), (0, (-2))]) (S := []) rfl rfl rfl rfl rfl rfl (by decide) rfl (c_bad (by omega)) ?_
      rintro _ _ ⟨rfl, rfl⟩
      refine y_iret rfl rfl ⟨_, rfl, ?_⟩
      have hK : kfrom Z I M i = (_, Z, bump M 0) := if_pos (by omega)
      rw [hK]
      exact ⟨rfl, xW_bump hg hx (by omega) rfl rfl, mfr_s (mfr_0 _) (by omega)⟩
def krun (Z : YZ) (M : YS) (m c q : Int) : YK := if (0 ≤ m ∧ m ≤ 400) ∧ (0 ≤ c ∧ c < Z 0 0 0) ∧ (0 ≤ q ∧ q ≤ 1) ∧ ¬ (q = 1 ∧ c ≠ 0) then (if q = 0 then msteps (Z 0) (Z 1) m.toNat 0 c else mgo (Z 0) (msteps (Z 0) (Z 1) m.toNat) (Z 0 1 0).toNat, Z, M) else (-10, Z, bump M 0)
theorem mgo_w {E D : YS} {v : Int} (n m : Nat) : mgo E (msteps E (yset D 6 0 v) n) m = mgo E (msteps E D n) m := mgo_cong (fun i => msteps_w (by omega) n) _
theorem c_run {g : Launch × XG × va_G} {σ : YS} {Z : YZ} {I : Int → YZ} {M : YS} {N : Int} {m c q : Int} (hx : xW σ Z I M) (hg : wG Z I M N) (hN : N < 100000) : YI g 109 [(2, 0), (0, m), (0, c), (0, q)] σ (fun b σ' => b = (krun Z M m c q).1 ∧ xW σ' (krun Z M m c q).2.1 I (krun Z M m c q).2.2 ∧ mfr σ σ') := by
  refine y_start rfl rfl rfl ?_
  have ⟨⟨hr, hu⟩, x2, x3, ⟨x4, x5⟩, x6⟩ := hx
  have ⟨⟨he, hd, hn, hu2, h67, hk⟩, g2, g3, g4⟩ := hg
  have ⟨⟨f1, f2, f3, f4⟩, f5, f6, g7, g8⟩ := hr
  have ⟨e1, e2, e3⟩ := he
  have ⟨u1, u2, u3⟩ := hu
  have x60 : σ 0 11 = M 3 0 := x6 0 (by omega) (by omega)
  have x61 : σ 0 12 = M 3 1 := x6 1 (by omega) (by omega)
  have x62 : σ 0 13 = M 3 2 := x6 2 (by omega) (by omega)
  have g40 := g4 0 (by omega) (by omega)
  have g41 := g4 1 (by omega) (by omega)
  have g42 := g4 2 (by omega) (by omega)
  have f5 : ∀ c, 0 ≤ c → c < 9 → σ 2 c = Z 1 0 c := f5
  have f6 : ∀ i, 0 ≤ i → i < Z 0 1 0 → repm σ (4 + 3 * i) (Z 0) (Z 1) i := f6
  refine y_iload rfl rfl ?_
  refine y_iflt rfl (fun q1 => ?_) (fun q1 => ?_)
  · skip
    refine y_aload rfl rfl rfl ?_
    refine y_push rfl ?_
    refine y_vi (as := [(2, 0), (0, (-10))]) (S := []) rfl rfl rfl rfl rfl rfl (by decide) rfl (c_bad (by omega)) ?_
    rintro _ _ ⟨rfl, rfl⟩
    refine y_iret rfl rfl ⟨_, rfl, ?_⟩
    have hK : krun Z M m c q = (_, Z, bump M 0) := if_neg (by omega)
    rw [hK]
    exact ⟨rfl, xW_bump hg hx (by omega) rfl rfl, mfr_s (mfr_0 _) (by omega)⟩
  · skip
    refine y_iload rfl rfl ?_
    refine y_push rfl ?_
    refine y_icgt rfl (fun q8 => ?_) (fun q8 => ?_)
    · skip
      refine y_aload rfl rfl rfl ?_
      refine y_push rfl ?_
      refine y_vi (as := [(2, 0), (0, (-10))]) (S := []) rfl rfl rfl rfl rfl rfl (by decide) rfl (c_bad (by omega)) ?_
      rintro _ _ ⟨rfl, rfl⟩
      refine y_iret rfl rfl ⟨_, rfl, ?_⟩
      have hK : krun Z M m c q = (_, Z, bump M 0) := if_neg (by omega)
      rw [hK]
      exact ⟨rfl, xW_bump hg hx (by omega) rfl rfl, mfr_s (mfr_0 _) (by omega)⟩
    · skip
      refine y_aload rfl rfl rfl ?_
      refine y_gfr (t := 1) rfl rfl (by decide) rfl (by decide) ?_
      refine y_iload rfl rfl ?_
      refine y_vi (as := [(2, 1), (0, c)]) (S := []) rfl rfl rfl rfl rfl rfl (yS_0 yS_1).1 (yS_c yS_1) (c_hasCell yS_1) ?_
      rintro _ _ ⟨rfl, rfl⟩
      refine y_ifeq rfl (fun q19 => ?_) (fun q19 => ?_)
      · skip
        replace q19 := yb_0.mp q19
        refine y_aload rfl rfl rfl ?_
        refine y_push rfl ?_
        refine y_vi (as := [(2, 0), (0, (-10))]) (S := []) rfl rfl rfl rfl rfl rfl (by decide) rfl (c_bad (by omega)) ?_
        rintro _ _ ⟨rfl, rfl⟩
        refine y_iret rfl rfl ⟨_, rfl, ?_⟩
        have hK : krun Z M m c q = (_, Z, bump M 0) := if_neg (by omega)
        rw [hK]
        exact ⟨rfl, xW_bump hg hx (by omega) rfl rfl, mfr_s (mfr_0 _) (by omega)⟩
      · skip
        replace q19 := yb_1.mp q19
        refine y_iload rfl rfl ?_
        refine y_iflt rfl (fun q23 => ?_) (fun q23 => ?_)
        · skip
          refine y_aload rfl rfl rfl ?_
          refine y_push rfl ?_
          refine y_vi (as := [(2, 0), (0, (-10))]) (S := []) rfl rfl rfl rfl rfl rfl (by decide) rfl (c_bad (by omega)) ?_
          rintro _ _ ⟨rfl, rfl⟩
          refine y_iret rfl rfl ⟨_, rfl, ?_⟩
          have hK : krun Z M m c q = (_, Z, bump M 0) := if_neg (by omega)
          rw [hK]
          exact ⟨rfl, xW_bump hg hx (by omega) rfl rfl, mfr_s (mfr_0 _) (by omega)⟩
        · skip
          refine y_iload rfl rfl ?_
          refine y_push rfl ?_
          refine y_icgt rfl (fun q28 => ?_) (fun q28 => ?_)
          · skip
            refine y_aload rfl rfl rfl ?_
            refine y_push rfl ?_
            refine y_vi (as := [(2, 0), (0, (-10))]) (S := []) rfl rfl rfl rfl rfl rfl (by decide) rfl (c_bad (by omega)) ?_
            rintro _ _ ⟨rfl, rfl⟩
            refine y_iret rfl rfl ⟨_, rfl, ?_⟩
            have hK : krun Z M m c q = (_, Z, bump M 0) := if_neg (by omega)
            rw [hK]
            exact ⟨rfl, xW_bump hg hx (by omega) rfl rfl, mfr_s (mfr_0 _) (by omega)⟩
          · skip
            refine y_iload rfl rfl ?_
            refine y_push rfl ?_
            refine y_icne rfl (fun q33 => ?_) (fun q33 => ?_)
            · skip
              refine y_aload rfl rfl rfl ?_
              refine y_gfr (t := 37) rfl rfl (by decide) rfl (by decide) ?_
              refine y_aload rfl rfl rfl ?_
              refine y_gfr (t := 1) rfl rfl (by decide) rfl (by decide) ?_
              refine y_vu (as := [(2, 37), (2, 1)]) (S := []) rfl rfl rfl rfl rfl rfl (yS_0 yS_37).1 (yS_c yS_37) (c_scopy (s := 37) (z := 1) yS_37 yS_1 (by omega) hr he) ?_
              rintro σ1 ⟨z1, z2⟩
              refine y_aload rfl rfl rfl ?_
              refine y_gfr (t := 37) rfl rfl (by decide) rfl (by decide) ?_
              refine y_iload rfl rfl ?_
              refine y_vu (as := [(2, 37), (0, m)]) (S := []) rfl rfl rfl rfl rfl rfl (yS_0 yS_37).1 (yS_c yS_37) (c_advanceBy yS_37 z1 he (dG_w6 hd) (by rw [yne (by omega) rfl]; omega) (by omega)) ?_
              rintro σ2 ⟨y1, y2⟩
              refine y_iload rfl rfl ?_
              refine y_ifne rfl (fun q67 => ?_) (fun q67 => ?_)
              · skip
                refine y_aload rfl rfl rfl ?_
                refine y_gfr (t := 37) rfl rfl (by decide) rfl (by decide) ?_
                refine y_vi (as := [(2, 37)]) (S := []) rfl rfl rfl rfl rfl rfl (yS_0 yS_37).1 (yS_c yS_37) (c_awake yS_37 (by rw [y1.1.2.1]; exact e2)) ?_
                rintro _ _ ⟨rfl, rfl⟩
                refine y_iret rfl rfl ⟨_, rfl, ?_⟩
                have hK : krun Z M m c q = (if q = 0 then msteps (Z 0) (Z 1) m.toNat 0 c else mgo (Z 0) (msteps (Z 0) (Z 1) m.toNat) (Z 0 1 0).toNat, Z, M) := if_pos (by omega)
                rw [hK]
                exact ⟨by dsimp only; rw [if_neg (by omega), y1.1.2.1, maw_go e2.2 y1 _ (by omega), mgo_w], xW_scr hg hx (fun x y a b => by rw [y2 x y (by omega), z2 x y (by omega)]), mfr_t (mfr_y z2 (by omega)) (mfr_y y2 (by omega))⟩
              · skip
                refine y_aload rfl rfl rfl ?_
                refine y_gfr (t := 37) rfl rfl (by decide) rfl (by decide) ?_
                refine y_gfr (t := 38) rfl (yS_c yS_37) (yS_0 yS_37).1 rfl (by decide) ?_
                refine y_iload rfl rfl ?_
                refine y_iald (v := (σ2 38 c)) (n := 9) rfl rfl (by decide) rfl (by omega) rfl ?_
                refine y_goto rfl ?_
                refine y_iret rfl rfl ⟨_, rfl, ?_⟩
                have hK : krun Z M m c q = (if q = 0 then msteps (Z 0) (Z 1) m.toNat 0 c else mgo (Z 0) (msteps (Z 0) (Z 1) m.toNat) (Z 0 1 0).toNat, Z, M) := if_pos (by omega)
                rw [hK]
                have yc : σ2 38 c = msteps (Z 0) (yset (Z 1) 6 0 (σ 37 7)) m.toNat 0 c := y1.2.1 c (by omega) (by omega)
                exact ⟨by dsimp only; rw [if_pos (by omega), yc, msteps_w (by omega)], xW_scr hg hx (fun x y a b => by rw [y2 x y (by omega), z2 x y (by omega)]), mfr_t (mfr_y z2 (by omega)) (mfr_y y2 (by omega))⟩
            · skip
              refine y_iload rfl rfl ?_
              refine y_ifeq rfl (fun q37 => ?_) (fun q37 => ?_)
              · skip
                refine y_aload rfl rfl rfl ?_
                refine y_gfr (t := 37) rfl rfl (by decide) rfl (by decide) ?_
                refine y_aload rfl rfl rfl ?_
                refine y_gfr (t := 1) rfl rfl (by decide) rfl (by decide) ?_
                refine y_vu (as := [(2, 37), (2, 1)]) (S := []) rfl rfl rfl rfl rfl rfl (yS_0 yS_37).1 (yS_c yS_37) (c_scopy (s := 37) (z := 1) yS_37 yS_1 (by omega) hr he) ?_
                rintro σ1 ⟨z1, z2⟩
                refine y_aload rfl rfl rfl ?_
                refine y_gfr (t := 37) rfl rfl (by decide) rfl (by decide) ?_
                refine y_iload rfl rfl ?_
                refine y_vu (as := [(2, 37), (0, m)]) (S := []) rfl rfl rfl rfl rfl rfl (yS_0 yS_37).1 (yS_c yS_37) (c_advanceBy yS_37 z1 he (dG_w6 hd) (by rw [yne (by omega) rfl]; omega) (by omega)) ?_
                rintro σ2 ⟨y1, y2⟩
                refine y_iload rfl rfl ?_
                refine y_ifne rfl (fun q67 => ?_) (fun q67 => ?_)
                · skip
                  refine y_aload rfl rfl rfl ?_
                  refine y_gfr (t := 37) rfl rfl (by decide) rfl (by decide) ?_
                  refine y_vi (as := [(2, 37)]) (S := []) rfl rfl rfl rfl rfl rfl (yS_0 yS_37).1 (yS_c yS_37) (c_awake yS_37 (by rw [y1.1.2.1]; exact e2)) ?_
                  rintro _ _ ⟨rfl, rfl⟩
                  refine y_iret rfl rfl ⟨_, rfl, ?_⟩
                  have hK : krun Z M m c q = (if q = 0 then msteps (Z 0) (Z 1) m.toNat 0 c else mgo (Z 0) (msteps (Z 0) (Z 1) m.toNat) (Z 0 1 0).toNat, Z, M) := if_pos (by omega)
                  rw [hK]
                  exact ⟨by dsimp only; rw [if_neg (by omega), y1.1.2.1, maw_go e2.2 y1 _ (by omega), mgo_w], xW_scr hg hx (fun x y a b => by rw [y2 x y (by omega), z2 x y (by omega)]), mfr_t (mfr_y z2 (by omega)) (mfr_y y2 (by omega))⟩
                · skip
                  refine y_aload rfl rfl rfl ?_
                  refine y_gfr (t := 37) rfl rfl (by decide) rfl (by decide) ?_
                  refine y_gfr (t := 38) rfl (yS_c yS_37) (yS_0 yS_37).1 rfl (by decide) ?_
                  refine y_iload rfl rfl ?_
                  refine y_iald (v := (σ2 38 c)) (n := 9) rfl rfl (by decide) rfl (by omega) rfl ?_
                  refine y_goto rfl ?_
                  refine y_iret rfl rfl ⟨_, rfl, ?_⟩
                  have hK : krun Z M m c q = (if q = 0 then msteps (Z 0) (Z 1) m.toNat 0 c else mgo (Z 0) (msteps (Z 0) (Z 1) m.toNat) (Z 0 1 0).toNat, Z, M) := if_pos (by omega)
                  rw [hK]
                  have yc : σ2 38 c = msteps (Z 0) (yset (Z 1) 6 0 (σ 37 7)) m.toNat 0 c := y1.2.1 c (by omega) (by omega)
                  exact ⟨by dsimp only; rw [if_pos (by omega), yc, msteps_w (by omega)], xW_scr hg hx (fun x y a b => by rw [y2 x y (by omega), z2 x y (by omega)]), mfr_t (mfr_y z2 (by omega)) (mfr_y y2 (by omega))⟩
              · skip
                refine y_aload rfl rfl rfl ?_
                refine y_push rfl ?_
                refine y_vi (as := [(2, 0), (0, (-10))]) (S := []) rfl rfl rfl rfl rfl rfl (by decide) rfl (c_bad (by omega)) ?_
                rintro _ _ ⟨rfl, rfl⟩
                refine y_iret rfl rfl ⟨_, rfl, ?_⟩
                have hK : krun Z M m c q = (_, Z, bump M 0) := if_neg (by omega)
                rw [hK]
                exact ⟨rfl, xW_bump hg hx (by omega) rfl rfl, mfr_s (mfr_0 _) (by omega)⟩
theorem c_stops {g : Launch × XG × va_G} {σ : YS} {Z : YZ} {I : Int → YZ} {M : YS} {N : Int}  (hx : xW σ Z I M) (hg : wG Z I M N) (hN : N < 100000) : YI g 66 [(2, 0)] σ (fun b σ' => sets (Z 0) (Z 1) b ∧ xW σ' Z I M ∧ mfr σ σ') := by
  refine y_start rfl rfl rfl ?_
  have ⟨⟨hr, hu⟩, x2, x3, ⟨x4, x5⟩, x6⟩ := hx
  have ⟨⟨he, hd, hn, hu2, h67, hk⟩, g2, g3, g4⟩ := hg
  have ⟨⟨f1, f2, f3, f4⟩, f5, f6, g7, g8⟩ := hr
  have ⟨e1, e2, e3⟩ := he
  have ⟨u1, u2, u3⟩ := hu
  have x60 : σ 0 11 = M 3 0 := x6 0 (by omega) (by omega)
  have x61 : σ 0 12 = M 3 1 := x6 1 (by omega) (by omega)
  have x62 : σ 0 13 = M 3 2 := x6 2 (by omega) (by omega)
  have g40 := g4 0 (by omega) (by omega)
  have g41 := g4 1 (by omega) (by omega)
  have g42 := g4 2 (by omega) (by omega)
  have f5 : ∀ c, 0 ≤ c → c < 9 → σ 2 c = Z 1 0 c := f5
  have f6 : ∀ i, 0 ≤ i → i < Z 0 1 0 → repm σ (4 + 3 * i) (Z 0) (Z 1) i := f6
  refine y_aload rfl rfl rfl ?_
  refine y_gfr (t := 37) rfl rfl (by decide) rfl (by decide) ?_
  refine y_aload rfl rfl rfl ?_
  refine y_gfr (t := 1) rfl rfl (by decide) rfl (by decide) ?_
  refine y_vu (as := [(2, 37), (2, 1)]) (S := []) rfl rfl rfl rfl rfl rfl (yS_0 yS_37).1 (yS_c yS_37) (c_scopy (s := 37) (z := 1) yS_37 yS_1 (by omega) hr he) ?_
  rintro σ1 ⟨z1, z2⟩
  refine y_aload rfl rfl rfl ?_
  refine y_gfr (t := 37) rfl rfl (by decide) rfl (by decide) ?_
  refine y_vi (as := [(2, 37)]) (S := []) rfl rfl rfl rfl rfl rfl (yS_0 yS_37).1 (yS_c yS_37) (c_settle yS_37 z1 he (dG_w6 hd) (by rw [yne (by omega) rfl]; omega)) ?_
  rintro b_ σ2 ⟨y1, y2, y3, y4⟩
  refine y_iret rfl rfl ⟨_, rfl, ?_⟩
  exact ⟨sets_w y1, xW_scr hg hx (fun x y a b => by rw [y3 x y (by omega), z2 x y (by omega)]), mfr_t (mfr_y z2 (by omega)) (mfr_y y3 (by omega))⟩
theorem mixr_s {f : Int → Int} {h k : Int} (hk : 0 ≤ k) : mixr f (k + 1).toNat h = yladd (ylmul 31 (mixr f k.toNat h)) (f k) := by
  rw [show (k + 1).toNat = k.toNat + 1 by omega]
  show ymix (mixr f k.toNat h) (f (k.toNat : Int)) = _
  rw [show ((k.toNat : Nat) : Int) = k by omega]
  rfl
theorem l_digestOn {g : Launch × XG × va_G} {σ : YS} {a i h : Int} {E D : YS} (ha : yN a) (hm : repm σ a E D i) (he : eGm E i) (hd : dGm E D i) : ∀ (nn : Nat) (q : Int) (k : Int), E 3 i - k < (nn : Int) → (0 ≤ k ∧ k ≤ E 3 i) → (q = mixr (msg E i) k.toNat (ymix (ymix (ymix (ymix (ymix (ymix h (E 2 i)) (D 1 i)) (D 2 i)) (D 3 i)) (D 4 i)) (E 3 i))) → YW g 142 82 [some (2, a), some (1, q), none, some (0, k)] [] σ (fun rv σ' => ∃ b, rv = some (1, b) ∧ (σ = σ' ∧ mixm E D i h = b)) := by
  intro nn
  induction nn with
  | zero =>
    intro q k hn h0 h1
    exfalso
    omega
  | succ nn ih =>
    intro q k hn h0 h1
    have ⟨⟨l1, l2, l3, l4⟩, h2, ⟨h3, h4, h5⟩, h6, h7⟩ := hm
    have ⟨t1, t2, t3⟩ := he
    have hd4 := hd.2.2.2
    refine y_iload rfl rfl ?_
    refine y_aload rfl rfl rfl ?_
    refine y_gfi (v := (σ a 2)) rfl (yN_c ha) (by have := yN_0 ha; omega) rfl (by decide) rfl rfl ?_
    refine y_icge rfl (fun q87 => ?_) (fun q87 => ?_)
    · skip
      refine y_lload rfl rfl ?_
      refine y_jret rfl rfl ⟨_, rfl, ?_⟩
      exact ⟨rfl, by rw [h1, show k = E 3 i by omega]; rfl⟩
    · skip
      refine y_ldc2 (v := 31) rfl rfl ?_
      refine y_lload rfl rfl ?_
      refine y_lmul (v := (ylmul 31 q)) rfl rfl ?_
      refine y_aload rfl rfl rfl ?_
      refine y_gfr (t := (a + 1)) rfl (yN_c ha) (by have := yN_0 ha; omega) rfl (by have := yN_0 ha; omega) ?_
      refine y_iload rfl rfl ?_
      refine y_iald (v := (σ (a + 1) k)) (n := 24) rfl (yN_s ha) (by have := yN_0 ha; omega) rfl (by omega) rfl ?_
      refine y_i2l rfl ?_
      refine y_ladd (v := (yladd (ylmul 31 q) (σ (a + 1) k))) rfl rfl ?_
      refine y_lstore (L' := [some (2, a), some (1, (yladd (ylmul 31 q) (σ (a + 1) k))), none, some (0, k)]) rfl rfl rfl rfl ?_
      refine y_iinc (L' := [some (2, a), some (1, (yladd (ylmul 31 q) (σ (a + 1) k))), none, some (0, (k + 1))]) rfl rfl rfl rfl rfl (by omega) ?_
      refine y_goto rfl ?_
      exact ih _ (k + 1) (by omega) (by omega) (by rw [mixr_s (by omega), ← h1, l2 k (by omega) (by omega)])
theorem c_digestOn {g : Launch × XG × va_G} {σ : YS} {a i h : Int} {E D : YS} (ha : yN a) (hm : repm σ a E D i) (he : eGm E i) (hd : dGm E D i) : YJ g 142 [(2, a), (1, h)] σ (fun b σ' => σ = σ' ∧ mixm E D i h = b) := by
  refine y_start rfl rfl rfl ?_
  have ⟨⟨l1, l2, l3, l4⟩, h2, ⟨h3, h4, h5⟩, h6, h7⟩ := hm
  have ⟨t1, t2, t3⟩ := he
  have hd4 := hd.2.2.2
  refine y_ldc2 (v := 31) rfl rfl ?_
  refine y_lload rfl rfl ?_
  refine y_lmul (v := (ylmul 31 h)) rfl rfl ?_
  refine y_aload rfl rfl rfl ?_
  refine y_gfi (v := (σ a 4)) rfl (yN_c ha) (by have := yN_0 ha; omega) rfl (by decide) rfl rfl ?_
  refine y_i2l rfl ?_
  refine y_ladd (v := (yladd (ylmul 31 h) (σ a 4))) rfl rfl ?_
  refine y_lstore (L' := [some (2, a), some (1, (yladd (ylmul 31 h) (σ a 4))), none, none]) rfl rfl rfl rfl ?_
  refine y_ldc2 (v := 31) rfl rfl ?_
  refine y_lload rfl rfl ?_
  refine y_lmul (v := (ylmul 31 (yladd (ylmul 31 h) (σ a 4)))) rfl rfl ?_
  refine y_aload rfl rfl rfl ?_
  refine y_gfi (v := (σ a 5)) rfl (yN_c ha) (by have := yN_0 ha; omega) rfl (by decide) rfl rfl ?_
  refine y_i2l rfl ?_
  refine y_ladd (v := (yladd (ylmul 31 (yladd (ylmul 31 h) (σ a 4))) (σ a 5))) rfl rfl ?_
  refine y_lstore (L' := [some (2, a), some (1, (yladd (ylmul 31 (yladd (ylmul 31 h) (σ a 4))) (σ a 5))), none, none]) rfl rfl rfl rfl ?_
  refine y_ldc2 (v := 31) rfl rfl ?_
  refine y_lload rfl rfl ?_
  refine y_lmul (v := (ylmul 31 (yladd (ylmul 31 (yladd (ylmul 31 h) (σ a 4))) (σ a 5)))) rfl rfl ?_
  refine y_aload rfl rfl rfl ?_
  refine y_gfi (v := (σ a 6)) rfl (yN_c ha) (by have := yN_0 ha; omega) rfl (by decide) rfl rfl ?_
  refine y_i2l rfl ?_
  refine y_ladd (v := (yladd (ylmul 31 (yladd (ylmul 31 (yladd (ylmul 31 h) (σ a 4))) (σ a 5))) (σ a 6))) rfl rfl ?_
  refine y_lstore (L' := [some (2, a), some (1, (yladd (ylmul 31 (yladd (ylmul 31 (yladd (ylmul 31 h) (σ a 4))) (σ a 5))) (σ a 6))), none, none]) rfl rfl rfl rfl ?_
  refine y_ldc2 (v := 31) rfl rfl ?_
  refine y_lload rfl rfl ?_
  refine y_lmul (v := (ylmul 31 (yladd (ylmul 31 (yladd (ylmul 31 (yladd (ylmul 31 h) (σ a 4))) (σ a 5))) (σ a 6)))) rfl rfl ?_
  refine y_aload rfl rfl rfl ?_
  refine y_gfi (v := (σ a 7)) rfl (yN_c ha) (by have := yN_0 ha; omega) rfl (by decide) rfl rfl ?_
  refine y_i2l rfl ?_
  refine y_ladd (v := (yladd (ylmul 31 (yladd (ylmul 31 (yladd (ylmul 31 (yladd (ylmul 31 h) (σ a 4))) (σ a 5))) (σ a 6))) (σ a 7))) rfl rfl ?_
  refine y_lstore (L' := [some (2, a), some (1, (yladd (ylmul 31 (yladd (ylmul 31 (yladd (ylmul 31 (yladd (ylmul 31 h) (σ a 4))) (σ a 5))) (σ a 6))) (σ a 7))), none, none]) rfl rfl rfl rfl ?_
  refine y_ldc2 (v := 31) rfl rfl ?_
  refine y_lload rfl rfl ?_
  refine y_lmul (v := (ylmul 31 (yladd (ylmul 31 (yladd (ylmul 31 (yladd (ylmul 31 (yladd (ylmul 31 h) (σ a 4))) (σ a 5))) (σ a 6))) (σ a 7)))) rfl rfl ?_
  refine y_aload rfl rfl rfl ?_
  refine y_vi (as := [(2, a)]) (S := [(1, (ylmul 31 (yladd (ylmul 31 (yladd (ylmul 31 (yladd (ylmul 31 (yladd (ylmul 31 h) (σ a 4))) (σ a 5))) (σ a 6))) (σ a 7))))]) rfl rfl rfl rfl rfl rfl (by have := yN_0 ha; omega) (yN_c ha) (c_hasStopped ha) ?_
  rintro _ _ ⟨rfl, rfl⟩
  refine y_ifeq rfl (fun q57 => ?_) (fun q57 => ?_)
  · skip
    replace q57 := yb_0.mp q57
    have hD4 : D 4 i = 0 := h6.mpr q57
    refine y_push rfl ?_
    refine y_i2l rfl ?_
    refine y_ladd (v := (yladd (ylmul 31 (yladd (ylmul 31 (yladd (ylmul 31 (yladd (ylmul 31 (yladd (ylmul 31 h) (σ a 4))) (σ a 5))) (σ a 6))) (σ a 7))) 0)) rfl rfl ?_
    refine y_lstore (L' := [some (2, a), some (1, (yladd (ylmul 31 (yladd (ylmul 31 (yladd (ylmul 31 (yladd (ylmul 31 (yladd (ylmul 31 h) (σ a 4))) (σ a 5))) (σ a 6))) (σ a 7))) 0)), none, none]) rfl rfl rfl rfl ?_
    refine y_ldc2 (v := 31) rfl rfl ?_
    refine y_lload rfl rfl ?_
    refine y_lmul (v := (ylmul 31 (yladd (ylmul 31 (yladd (ylmul 31 (yladd (ylmul 31 (yladd (ylmul 31 (yladd (ylmul 31 h) (σ a 4))) (σ a 5))) (σ a 6))) (σ a 7))) 0))) rfl rfl ?_
    refine y_aload rfl rfl rfl ?_
    refine y_gfi (v := (σ a 2)) rfl (yN_c ha) (by have := yN_0 ha; omega) rfl (by decide) rfl rfl ?_
    refine y_i2l rfl ?_
    refine y_ladd (v := (yladd (ylmul 31 (yladd (ylmul 31 (yladd (ylmul 31 (yladd (ylmul 31 (yladd (ylmul 31 (yladd (ylmul 31 h) (σ a 4))) (σ a 5))) (σ a 6))) (σ a 7))) 0)) (σ a 2))) rfl rfl ?_
    refine y_lstore (L' := [some (2, a), some (1, (yladd (ylmul 31 (yladd (ylmul 31 (yladd (ylmul 31 (yladd (ylmul 31 (yladd (ylmul 31 (yladd (ylmul 31 h) (σ a 4))) (σ a 5))) (σ a 6))) (σ a 7))) 0)) (σ a 2))), none, none]) rfl rfl rfl rfl ?_
    refine y_push rfl ?_
    refine y_istore (L' := [some (2, a), some (1, (yladd (ylmul 31 (yladd (ylmul 31 (yladd (ylmul 31 (yladd (ylmul 31 (yladd (ylmul 31 (yladd (ylmul 31 h) (σ a 4))) (σ a 5))) (σ a 6))) (σ a 7))) 0)) (σ a 2))), none, some (0, 0)]) rfl rfl rfl rfl ?_
    refine l_digestOn ha hm he hd 25 _ 0 (by omega) (by omega) ?_
    show (yladd (ylmul 31 (yladd (ylmul 31 (yladd (ylmul 31 (yladd (ylmul 31 (yladd (ylmul 31 (yladd (ylmul 31 h) (σ a 4))) (σ a 5))) (σ a 6))) (σ a 7))) 0)) (σ a 2)) = (ymix (ymix (ymix (ymix (ymix (ymix h (E 2 i)) (D 1 i)) (D 2 i)) (D 3 i)) (D 4 i)) (E 3 i))
    rw [h2, h3, h4, h5, l1, hD4]
    rfl
  · skip
    replace q57 := yb_1.mp q57
    have hD4 : D 4 i = 1 := by have : ¬ D 4 i = 0 := fun z => h6.mp z q57; omega
    refine y_push rfl ?_
    refine y_goto rfl ?_
    refine y_i2l rfl ?_
    refine y_ladd (v := (yladd (ylmul 31 (yladd (ylmul 31 (yladd (ylmul 31 (yladd (ylmul 31 (yladd (ylmul 31 h) (σ a 4))) (σ a 5))) (σ a 6))) (σ a 7))) 1)) rfl rfl ?_
    refine y_lstore (L' := [some (2, a), some (1, (yladd (ylmul 31 (yladd (ylmul 31 (yladd (ylmul 31 (yladd (ylmul 31 (yladd (ylmul 31 h) (σ a 4))) (σ a 5))) (σ a 6))) (σ a 7))) 1)), none, none]) rfl rfl rfl rfl ?_
    refine y_ldc2 (v := 31) rfl rfl ?_
    refine y_lload rfl rfl ?_
    refine y_lmul (v := (ylmul 31 (yladd (ylmul 31 (yladd (ylmul 31 (yladd (ylmul 31 (yladd (ylmul 31 (yladd (ylmul 31 h) (σ a 4))) (σ a 5))) (σ a 6))) (σ a 7))) 1))) rfl rfl ?_
    refine y_aload rfl rfl rfl ?_
    refine y_gfi (v := (σ a 2)) rfl (yN_c ha) (by have := yN_0 ha; omega) rfl (by decide) rfl rfl ?_
    refine y_i2l rfl ?_
    refine y_ladd (v := (yladd (ylmul 31 (yladd (ylmul 31 (yladd (ylmul 31 (yladd (ylmul 31 (yladd (ylmul 31 (yladd (ylmul 31 h) (σ a 4))) (σ a 5))) (σ a 6))) (σ a 7))) 1)) (σ a 2))) rfl rfl ?_
    refine y_lstore (L' := [some (2, a), some (1, (yladd (ylmul 31 (yladd (ylmul 31 (yladd (ylmul 31 (yladd (ylmul 31 (yladd (ylmul 31 (yladd (ylmul 31 h) (σ a 4))) (σ a 5))) (σ a 6))) (σ a 7))) 1)) (σ a 2))), none, none]) rfl rfl rfl rfl ?_
    refine y_push rfl ?_
    refine y_istore (L' := [some (2, a), some (1, (yladd (ylmul 31 (yladd (ylmul 31 (yladd (ylmul 31 (yladd (ylmul 31 (yladd (ylmul 31 (yladd (ylmul 31 h) (σ a 4))) (σ a 5))) (σ a 6))) (σ a 7))) 1)) (σ a 2))), none, some (0, 0)]) rfl rfl rfl rfl ?_
    refine l_digestOn ha hm he hd 25 _ 0 (by omega) (by omega) ?_
    show (yladd (ylmul 31 (yladd (ylmul 31 (yladd (ylmul 31 (yladd (ylmul 31 (yladd (ylmul 31 (yladd (ylmul 31 h) (σ a 4))) (σ a 5))) (σ a 6))) (σ a 7))) 1)) (σ a 2)) = (ymix (ymix (ymix (ymix (ymix (ymix h (E 2 i)) (D 1 i)) (D 2 i)) (D 3 i)) (D 4 i)) (E 3 i))
    rw [h2, h3, h4, h5, l1, hD4]
    rfl
theorem l_digest4 {g : Launch × XG × va_G} {σ : YS} {Z : YZ} {I : Int → YZ} {M : YS} {N : Int}  (hx : xW σ Z I M) (hg : wG Z I M N) (hN : N < 100000) : ∀ (nn : Nat) (h : Int) (k : Int), 4 - k < (nn : Int) → (0 ≤ k ∧ k ≤ 4) → (h = mixr (Z 0 7) k.toNat (mixms (Z 0) (Z 1) (Z 0 1 0).toNat (mixr (Z 1 0) (Z 0 0 0).toNat (mixr (khow Z M) 5 809)))) → YW g 106 101 [some (2, 0), some (1, h), none, some (0, k)] [] σ (fun rv σ' => ∃ b, rv = some (1, b) ∧ ((σ = σ' ∧ kdigest Z M = b))) := by
  intro nn
  induction nn with
  | zero =>
    intro h k hn h0 h1
    exfalso
    omega
  | succ nn ih =>
    intro h k hn h0 h1
    have ⟨⟨hr, hu⟩, x2, x3, ⟨x4, x5⟩, x6⟩ := hx
    have ⟨⟨he, hd, hn, hu2, h67, hk⟩, g2, g3, g4⟩ := hg
    have ⟨⟨f1, f2, f3, f4⟩, f5, f6, g7, g8⟩ := hr
    have ⟨e1, e2, e3⟩ := he
    have ⟨u1, u2, u3⟩ := hu
    have x60 : σ 0 11 = M 3 0 := x6 0 (by omega) (by omega)
    have x61 : σ 0 12 = M 3 1 := x6 1 (by omega) (by omega)
    have x62 : σ 0 13 = M 3 2 := x6 2 (by omega) (by omega)
    have g40 := g4 0 (by omega) (by omega)
    have g41 := g4 1 (by omega) (by omega)
    have g42 := g4 2 (by omega) (by omega)
    have f5 : ∀ c, 0 ≤ c → c < 9 → σ 2 c = Z 1 0 c := f5
    have f6 : ∀ i, 0 ≤ i → i < Z 0 1 0 → repm σ (4 + 3 * i) (Z 0) (Z 1) i := f6
    have h58 : ∀ j, 0 ≤ j → j < 4 → σ 13 j = Z 0 7 j := g8
    refine y_iload rfl rfl ?_
    refine y_push rfl ?_
    refine y_icge rfl (fun q103 => ?_) (fun q103 => ?_)
    · skip
      refine y_lload rfl rfl ?_
      refine y_jret rfl rfl ⟨_, rfl, ?_⟩
      exact ⟨rfl, by rw [h1, show k = 4 by omega]; rfl⟩
    · skip
      refine y_ldc2 (v := 31) rfl rfl ?_
      refine y_lload rfl rfl ?_
      refine y_lmul (v := (ylmul 31 h)) rfl rfl ?_
      refine y_aload rfl rfl rfl ?_
      refine y_gfr (t := 1) rfl rfl (by decide) rfl (by decide) ?_
      refine y_gfr (t := 13) rfl (yS_c yS_1) (yS_0 yS_1).1 rfl (by decide) ?_
      refine y_iload rfl rfl ?_
      refine y_iald (v := (σ 13 k)) (n := 4) rfl rfl (by decide) rfl (by omega) rfl ?_
      refine y_i2l rfl ?_
      refine y_ladd (v := (yladd (ylmul 31 h) (σ 13 k))) rfl rfl ?_
      refine y_lstore (L' := [some (2, 0), some (1, (yladd (ylmul 31 h) (σ 13 k))), none, some (0, k)]) rfl rfl rfl rfl ?_
      refine y_iinc (L' := [some (2, 0), some (1, (yladd (ylmul 31 h) (σ 13 k))), none, some (0, (k + 1))]) rfl rfl rfl rfl rfl (by omega) ?_
      refine y_goto rfl ?_
      exact ih _ (k + 1) (by omega) (by omega) (by rw [mixr_s (by omega), ← h1, ← h58 k (by omega) (by omega)])
theorem l_digest3 {g : Launch × XG × va_G} {σ : YS} {Z : YZ} {I : Int → YZ} {M : YS} {N : Int}  (hx : xW σ Z I M) (hg : wG Z I M N) (hN : N < 100000) : ∀ (nn : Nat) (h : Int) (k : Int), Z 0 1 0 - k < (nn : Int) → (0 ≤ k ∧ k ≤ Z 0 1 0) → (h = mixms (Z 0) (Z 1) k.toNat (mixr (Z 1 0) (Z 0 0 0).toNat (mixr (khow Z M) 5 809))) → YW g 106 68 [some (2, 0), some (1, h), none, some (0, k)] [] σ (fun rv σ' => ∃ b, rv = some (1, b) ∧ ((σ = σ' ∧ kdigest Z M = b))) := by
  intro nn
  induction nn with
  | zero =>
    intro h k hn h0 h1
    exfalso
    omega
  | succ nn ih =>
    intro h k hn h0 h1
    have ⟨⟨hr, hu⟩, x2, x3, ⟨x4, x5⟩, x6⟩ := hx
    have ⟨⟨he, hd, hn, hu2, h67, hk⟩, g2, g3, g4⟩ := hg
    have ⟨⟨f1, f2, f3, f4⟩, f5, f6, g7, g8⟩ := hr
    have ⟨e1, e2, e3⟩ := he
    have ⟨u1, u2, u3⟩ := hu
    have x60 : σ 0 11 = M 3 0 := x6 0 (by omega) (by omega)
    have x61 : σ 0 12 = M 3 1 := x6 1 (by omega) (by omega)
    have x62 : σ 0 13 = M 3 2 := x6 2 (by omega) (by omega)
    have g40 := g4 0 (by omega) (by omega)
    have g41 := g4 1 (by omega) (by omega)
    have g42 := g4 2 (by omega) (by omega)
    have f5 : ∀ c, 0 ≤ c → c < 9 → σ 2 c = Z 1 0 c := f5
    have f6 : ∀ i, 0 ≤ i → i < Z 0 1 0 → repm σ (4 + 3 * i) (Z 0) (Z 1) i := f6
    have h58 : ∀ j, 0 ≤ j → j < 4 → σ 13 j = Z 0 7 j := g8
    refine y_iload rfl rfl ?_
    refine y_aload rfl rfl rfl ?_
    refine y_gfr (t := 1) rfl rfl (by decide) rfl (by decide) ?_
    refine y_gfi (v := (σ 1 5)) rfl (yS_c yS_1) (yS_0 yS_1).1 rfl (by decide) rfl rfl ?_
    refine y_icge rfl (fun q76 => ?_) (fun q76 => ?_)
    · skip
      refine y_push rfl ?_
      refine y_istore (L' := [some (2, 0), some (1, h), none, some (0, 0)]) rfl rfl rfl rfl ?_
      exact l_digest4 hx hg hN 5 _ 0 (by omega) (by omega) (by rw [h1, show k = Z 0 1 0 by omega]; rfl)
    · skip
      refine y_aload rfl rfl rfl ?_
      refine y_gfr (t := 1) rfl rfl (by decide) rfl (by decide) ?_
      refine y_gfr (t := 3) rfl (yS_c yS_1) (yS_0 yS_1).1 rfl (by decide) ?_
      refine y_iload rfl rfl ?_
      refine y_aald (v := (4 + 3 * k)) (n := 3) rfl (yS_m yS_1) (by have := yS_0 yS_1; omega) rfl (by omega) rfl ?_
      refine y_lload rfl rfl ?_
      refine y_vj (as := [(2, (4 + 3 * k)), (1, h)]) (S := []) rfl rfl rfl rfl rfl rfl (by have := yN_0 (yS_n (s := 1) (i := k) yS_1 (by omega)); omega) (yN_c (yS_n (s := 1) (i := k) yS_1 (by omega))) (c_digestOn (E := Z 0) (D := Z 1) (i := k) (h := h) (yS_n (s := 1) (i := k) yS_1 (by omega)) (hr.2.2.1 k (by omega) (by omega)) (e3 k (by omega) (by omega)) (hd.2 k (by omega) (by omega))) ?_
      rintro _ _ ⟨rfl, rfl⟩
      refine y_lstore (L' := [some (2, 0), some (1, (mixm (Z 0) (Z 1) k h)), none, some (0, k)]) rfl rfl rfl rfl ?_
      refine y_iinc (L' := [some (2, 0), some (1, (mixm (Z 0) (Z 1) k h)), none, some (0, (k + 1))]) rfl rfl rfl rfl rfl (by omega) ?_
      refine y_goto rfl ?_
      refine ih _ (k + 1) (by omega) (by omega) ?_
      rw [show (k + 1).toNat = k.toNat + 1 by omega]
      show mixm (Z 0) (Z 1) k h = mixm (Z 0) (Z 1) (k.toNat : Int) (mixms (Z 0) (Z 1) k.toNat _)
      rw [← h1, show ((k.toNat : Nat) : Int) = k by omega]
theorem l_digest2 {g : Launch × XG × va_G} {σ : YS} {Z : YZ} {I : Int → YZ} {M : YS} {N : Int}  (hx : xW σ Z I M) (hg : wG Z I M N) (hN : N < 100000) : ∀ (nn : Nat) (h : Int) (k : Int), Z 0 0 0 - k < (nn : Int) → (0 ≤ k ∧ k ≤ Z 0 0 0) → (h = mixr (Z 1 0) k.toNat (mixr (khow Z M) 5 809)) → YW g 106 32 [some (2, 0), some (1, h), none, some (0, k)] [] σ (fun rv σ' => ∃ b, rv = some (1, b) ∧ ((σ = σ' ∧ kdigest Z M = b))) := by
  intro nn
  induction nn with
  | zero =>
    intro h k hn h0 h1
    exfalso
    omega
  | succ nn ih =>
    intro h k hn h0 h1
    have ⟨⟨hr, hu⟩, x2, x3, ⟨x4, x5⟩, x6⟩ := hx
    have ⟨⟨he, hd, hn, hu2, h67, hk⟩, g2, g3, g4⟩ := hg
    have ⟨⟨f1, f2, f3, f4⟩, f5, f6, g7, g8⟩ := hr
    have ⟨e1, e2, e3⟩ := he
    have ⟨u1, u2, u3⟩ := hu
    have x60 : σ 0 11 = M 3 0 := x6 0 (by omega) (by omega)
    have x61 : σ 0 12 = M 3 1 := x6 1 (by omega) (by omega)
    have x62 : σ 0 13 = M 3 2 := x6 2 (by omega) (by omega)
    have g40 := g4 0 (by omega) (by omega)
    have g41 := g4 1 (by omega) (by omega)
    have g42 := g4 2 (by omega) (by omega)
    have f5 : ∀ c, 0 ≤ c → c < 9 → σ 2 c = Z 1 0 c := f5
    have f6 : ∀ i, 0 ≤ i → i < Z 0 1 0 → repm σ (4 + 3 * i) (Z 0) (Z 1) i := f6
    have h58 : ∀ j, 0 ≤ j → j < 4 → σ 13 j = Z 0 7 j := g8
    refine y_iload rfl rfl ?_
    refine y_aload rfl rfl rfl ?_
    refine y_gfr (t := 1) rfl rfl (by decide) rfl (by decide) ?_
    refine y_gfi (v := (σ 1 4)) rfl (yS_c yS_1) (yS_0 yS_1).1 rfl (by decide) rfl rfl ?_
    refine y_icge rfl (fun q40 => ?_) (fun q40 => ?_)
    · skip
      refine y_push rfl ?_
      refine y_istore (L' := [some (2, 0), some (1, h), none, some (0, 0)]) rfl rfl rfl rfl ?_
      exact l_digest3 hx hg hN 4 _ 0 (by omega) (by omega) (by rw [h1, show k = Z 0 0 0 by omega]; rfl)
    · skip
      refine y_ldc2 (v := 31) rfl rfl ?_
      refine y_lload rfl rfl ?_
      refine y_lmul (v := (ylmul 31 h)) rfl rfl ?_
      refine y_aload rfl rfl rfl ?_
      refine y_gfr (t := 1) rfl rfl (by decide) rfl (by decide) ?_
      refine y_gfr (t := 2) rfl (yS_c yS_1) (yS_0 yS_1).1 rfl (by decide) ?_
      refine y_iload rfl rfl ?_
      refine y_iald (v := (σ 2 k)) (n := 9) rfl rfl (by decide) rfl (by omega) rfl ?_
      refine y_i2l rfl ?_
      refine y_ladd (v := (yladd (ylmul 31 h) (σ 2 k))) rfl rfl ?_
      refine y_lstore (L' := [some (2, 0), some (1, (yladd (ylmul 31 h) (σ 2 k))), none, some (0, k)]) rfl rfl rfl rfl ?_
      refine y_iinc (L' := [some (2, 0), some (1, (yladd (ylmul 31 h) (σ 2 k))), none, some (0, (k + 1))]) rfl rfl rfl rfl rfl (by omega) ?_
      refine y_goto rfl ?_
      exact ih _ (k + 1) (by omega) (by omega) (by rw [mixr_s (by omega), ← h1, ← f5 k (by omega) (by omega)])
theorem l_digest1 {g : Launch × XG × va_G} {σ : YS} {Z : YZ} {I : Int → YZ} {M : YS} {N : Int}  (hx : xW σ Z I M) (hg : wG Z I M N) (hN : N < 100000) : ∀ (nn : Nat) (h : Int) (k : Int), 5 - k < (nn : Int) → (0 ≤ k ∧ k ≤ 5) → (h = mixr (khow Z M) k.toNat 809) → YW g 106 6 [some (2, 0), some (1, h), none, some (0, k)] [] σ (fun rv σ' => ∃ b, rv = some (1, b) ∧ ((σ = σ' ∧ kdigest Z M = b))) := by
  intro nn
  induction nn with
  | zero =>
    intro h k hn h0 h1
    exfalso
    omega
  | succ nn ih =>
    intro h k hn h0 h1
    have ⟨⟨hr, hu⟩, x2, x3, ⟨x4, x5⟩, x6⟩ := hx
    have ⟨⟨he, hd, hn, hu2, h67, hk⟩, g2, g3, g4⟩ := hg
    have ⟨⟨f1, f2, f3, f4⟩, f5, f6, g7, g8⟩ := hr
    have ⟨e1, e2, e3⟩ := he
    have ⟨u1, u2, u3⟩ := hu
    have x60 : σ 0 11 = M 3 0 := x6 0 (by omega) (by omega)
    have x61 : σ 0 12 = M 3 1 := x6 1 (by omega) (by omega)
    have x62 : σ 0 13 = M 3 2 := x6 2 (by omega) (by omega)
    have g40 := g4 0 (by omega) (by omega)
    have g41 := g4 1 (by omega) (by omega)
    have g42 := g4 2 (by omega) (by omega)
    have f5 : ∀ c, 0 ≤ c → c < 9 → σ 2 c = Z 1 0 c := f5
    have f6 : ∀ i, 0 ≤ i → i < Z 0 1 0 → repm σ (4 + 3 * i) (Z 0) (Z 1) i := f6
    have h58 : ∀ j, 0 ≤ j → j < 4 → σ 13 j = Z 0 7 j := g8
    refine y_iload rfl rfl ?_
    refine y_push rfl ?_
    refine y_icgt rfl (fun q8 => ?_) (fun q8 => ?_)
    · skip
      refine y_push rfl ?_
      refine y_istore (L' := [some (2, 0), some (1, h), none, some (0, 0)]) rfl rfl rfl rfl ?_
      exact l_digest2 hx hg hN 10 _ 0 (by omega) (by omega) (by rw [h1, show k = 5 by omega]; rfl)
    · skip
      refine y_ldc2 (v := 31) rfl rfl ?_
      refine y_lload rfl rfl ?_
      refine y_lmul (v := (ylmul 31 h)) rfl rfl ?_
      refine y_aload rfl rfl rfl ?_
      refine y_iload rfl rfl ?_
      refine y_vi (as := [(2, 0), (0, k)]) (S := [(1, (ylmul 31 h))]) rfl rfl rfl rfl rfl rfl (by decide) rfl (c_howMany hx hg hN (by omega)) ?_
      rintro _ _ ⟨rfl, rfl⟩
      refine y_i2l rfl ?_
      refine y_ladd (v := (yladd (ylmul 31 h) (khow Z M k))) rfl rfl ?_
      refine y_lstore (L' := [some (2, 0), some (1, (yladd (ylmul 31 h) (khow Z M k))), none, some (0, k)]) rfl rfl rfl rfl ?_
      refine y_iinc (L' := [some (2, 0), some (1, (yladd (ylmul 31 h) (khow Z M k))), none, some (0, (k + 1))]) rfl rfl rfl rfl rfl (by omega) ?_
      refine y_goto rfl ?_
      exact ih _ (k + 1) (by omega) (by omega) (by rw [mixr_s (by omega), ← h1])
theorem c_digest {g : Launch × XG × va_G} {σ : YS} {Z : YZ} {I : Int → YZ} {M : YS} {N : Int}  (hx : xW σ Z I M) (hg : wG Z I M N) (hN : N < 100000) : YJ g 106 [(2, 0)] σ (fun b σ' => (σ = σ' ∧ kdigest Z M = b)) := by
  refine y_start rfl rfl rfl ?_
  refine y_ldc2 (v := 809) rfl rfl ?_
  refine y_lstore (L' := [some (2, 0), some (1, 809), none, none]) rfl rfl rfl rfl ?_
  refine y_push rfl ?_
  refine y_istore (L' := [some (2, 0), some (1, 809), none, some (0, 0)]) rfl rfl rfl rfl ?_
  exact l_digest1 hx hg hN 6 809 0 (by omega) (by omega) rfl
