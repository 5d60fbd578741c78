theorem ylam_r {k : Int} (h : 0 ≤ k ∧ k < 6) : ylam k = if k = 2 ∨ k = 5 then 1 else 0 := by
  rcases (by omega : k = 0 ∨ k = 1 ∨ k = 2 ∨ k = 3 ∨ k = 4 ∨ k = 5) with rfl | rfl | rfl | rfl | rfl | rfl <;> rfl
theorem yfet_r {k : Int} (h : 0 ≤ k ∧ k < 6) : yfet k = mtimes k := by
  rcases (by omega : k = 0 ∨ k = 1 ∨ k = 2 ∨ k = 3 ∨ k = 4 ∨ k = 5) with rfl | rfl | rfl | rfl | rfl | rfl <;> rfl
theorem c_goal {g : Launch × XG × va_G} {σ : YS} {k c sg u n : Int} (hk : 0 ≤ k ∧ k < 6) (hu : 0 ≤ u) (hc : 0 ≤ c ∧ c < 100) (hn : 0 ≤ n ∧ n ≤ 9) : YI g 117 [(0, k), (0, c), (0, sg), (0, u), (0, n)] σ (fun b σ' => σ = σ' ∧ mgoal k c sg u n = b) := by
  refine y_start rfl rfl rfl ?_
  have hl := ylam_r hk
  refine y_gets3 rfl ?_
  refine y_iload rfl rfl ?_
  refine y_iald3 rfl (by omega) ?_
  refine y_push rfl ?_
  refine y_icne rfl (fun q6 => ?_) (fun q6 => ?_)
  · skip
    refine y_iload rfl rfl ?_
    refine y_ifne rfl (fun q19 => ?_) (fun q19 => ?_)
    · skip
      refine y_iload rfl rfl ?_
      refine y_push rfl ?_
      refine y_icne rfl (fun q32 => ?_) (fun q32 => ?_)
      · skip
        refine y_iload rfl rfl ?_
        refine y_iret rfl rfl ⟨_, rfl, ?_⟩
        exact ⟨rfl, by unfold mgoal; (repeat' split) <;> omega⟩
      · skip
        refine y_iload rfl rfl ?_
        refine y_iload rfl rfl ?_
        refine y_push rfl ?_
        refine y_isub (v := (n - 1)) rfl rfl (by omega) ?_
        refine y_icge rfl (fun q40 => ?_) (fun q40 => ?_)
        · skip
          refine y_iload rfl rfl ?_
          refine y_iret rfl rfl ⟨_, rfl, ?_⟩
          exact ⟨rfl, by unfold mgoal; (repeat' split) <;> omega⟩
        · skip
          refine y_iload rfl rfl ?_
          refine y_push rfl ?_
          refine y_iadd (v := (c + 1)) rfl rfl (by omega) ?_
          refine y_iret rfl rfl ⟨_, rfl, ?_⟩
          exact ⟨rfl, by unfold mgoal; (repeat' split) <;> omega⟩
    · skip
      refine y_iload rfl rfl ?_
      refine y_ifle rfl (fun q23 => ?_) (fun q23 => ?_)
      · skip
        refine y_iload rfl rfl ?_
        refine y_push rfl ?_
        refine y_icne rfl (fun q32 => ?_) (fun q32 => ?_)
        · skip
          refine y_iload rfl rfl ?_
          refine y_iret rfl rfl ⟨_, rfl, ?_⟩
          exact ⟨rfl, by unfold mgoal; (repeat' split) <;> omega⟩
        · skip
          refine y_iload rfl rfl ?_
          refine y_iload rfl rfl ?_
          refine y_push rfl ?_
          refine y_isub (v := (n - 1)) rfl rfl (by omega) ?_
          refine y_icge rfl (fun q40 => ?_) (fun q40 => ?_)
          · skip
            refine y_iload rfl rfl ?_
            refine y_iret rfl rfl ⟨_, rfl, ?_⟩
            exact ⟨rfl, by unfold mgoal; (repeat' split) <;> omega⟩
          · skip
            refine y_iload rfl rfl ?_
            refine y_push rfl ?_
            refine y_iadd (v := (c + 1)) rfl rfl (by omega) ?_
            refine y_iret rfl rfl ⟨_, rfl, ?_⟩
            exact ⟨rfl, by unfold mgoal; (repeat' split) <;> omega⟩
      · skip
        refine y_iload rfl rfl ?_
        refine y_push rfl ?_
        refine y_isub (v := (c - 1)) rfl rfl (by omega) ?_
        refine y_iret rfl rfl ⟨_, rfl, ?_⟩
        exact ⟨rfl, by unfold mgoal; (repeat' split) <;> omega⟩
  · skip
    refine y_iload rfl rfl ?_
    refine y_push rfl ?_
    refine y_irem (v := (u % 2)) rfl rfl (by omega) ?_
    refine y_push rfl ?_
    refine y_icne rfl (fun q13 => ?_) (fun q13 => ?_)
    · skip
      refine y_iload rfl rfl ?_
      refine y_ifne rfl (fun q19 => ?_) (fun q19 => ?_)
      · skip
        refine y_iload rfl rfl ?_
        refine y_push rfl ?_
        refine y_icne rfl (fun q32 => ?_) (fun q32 => ?_)
        · skip
          refine y_iload rfl rfl ?_
          refine y_iret rfl rfl ⟨_, rfl, ?_⟩
          exact ⟨rfl, by unfold mgoal; (repeat' split) <;> omega⟩
        · skip
          refine y_iload rfl rfl ?_
          refine y_iload rfl rfl ?_
          refine y_push rfl ?_
          refine y_isub (v := (n - 1)) rfl rfl (by omega) ?_
          refine y_icge rfl (fun q40 => ?_) (fun q40 => ?_)
          · skip
            refine y_iload rfl rfl ?_
            refine y_iret rfl rfl ⟨_, rfl, ?_⟩
            exact ⟨rfl, by unfold mgoal; (repeat' split) <;> omega⟩
          · skip
            refine y_iload rfl rfl ?_
            refine y_push rfl ?_
            refine y_iadd (v := (c + 1)) rfl rfl (by omega) ?_
            refine y_iret rfl rfl ⟨_, rfl, ?_⟩
            exact ⟨rfl, by unfold mgoal; (repeat' split) <;> omega⟩
      · skip
        refine y_iload rfl rfl ?_
        refine y_ifle rfl (fun q23 => ?_) (fun q23 => ?_)
        · skip
          refine y_iload rfl rfl ?_
          refine y_push rfl ?_
          refine y_icne rfl (fun q32 => ?_) (fun q32 => ?_)
          · skip
            refine y_iload rfl rfl ?_
            refine y_iret rfl rfl ⟨_, rfl, ?_⟩
            exact ⟨rfl, by unfold mgoal; (repeat' split) <;> omega⟩
          · skip
            refine y_iload rfl rfl ?_
            refine y_iload rfl rfl ?_
            refine y_push rfl ?_
            refine y_isub (v := (n - 1)) rfl rfl (by omega) ?_
            refine y_icge rfl (fun q40 => ?_) (fun q40 => ?_)
            · skip
              refine y_iload rfl rfl ?_
              refine y_iret rfl rfl ⟨_, rfl, ?_⟩
              exact ⟨rfl, by unfold mgoal; (repeat' split) <;> omega⟩
            · skip
              refine y_iload rfl rfl ?_
              refine y_push rfl ?_
              refine y_iadd (v := (c + 1)) rfl rfl (by omega) ?_
              refine y_iret rfl rfl ⟨_, rfl, ?_⟩
              exact ⟨rfl, by unfold mgoal; (repeat' split) <;> omega⟩
        · skip
          refine y_iload rfl rfl ?_
          refine y_push rfl ?_
          refine y_isub (v := (c - 1)) rfl rfl (by omega) ?_
          refine y_iret rfl rfl ⟨_, rfl, ?_⟩
          exact ⟨rfl, by unfold mgoal; (repeat' split) <;> omega⟩
    · skip
      refine y_iload rfl rfl ?_
      refine y_iret rfl rfl ⟨_, rfl, ?_⟩
      exact ⟨rfl, by unfold mgoal; (repeat' split) <;> omega⟩
theorem c_holds {g : Launch × XG × va_G} {σ : YS} {s i q : Int} {E D : YS} (hs : yS s) (hr : rep σ s E D) (he : eG E) (hd : dG E D) (hn : 0 ≤ D 5 0 ∧ D 5 0 < 1000000) (hi : 0 ≤ i ∧ i < E 1 0) : YI g 148 [(2, s), (2, (s + 3 + 3 * i)), (0, q)] σ (fun b σ' => σ = σ' ∧ yb (mholds D i q) = b) := by
  refine y_start rfl rfl rfl ?_
  have ⟨⟨f1, f2, f3, f4⟩, f5, f6, g7, g8⟩ := hr
  have f7 := mth_7 g7
  have ⟨e1, e2, e3⟩ := he
  have s0 := yS_0 hs
  have ⟨⟨b1, b2, b3, b4⟩, a5, ⟨a6, a7, a8⟩, a9, a10⟩ := f6 i hi.1 hi.2
  have ⟨⟨d1, d2⟩, ⟨d3, d4⟩, ⟨d5, d6⟩, d7⟩ := hd.2 i hi.1 hi.2
  have ⟨⟨e4, e5⟩, ⟨e6, e7⟩, e8⟩ := e3 i hi.1 hi.2
  have w1 : σ (s + 1) (σ (s + 3 + 3 * i) 5) = D 0 (D 1 i) := by rw [a6]; exact f5 _ (by omega) (by omega)
  have w2 := hd.1 (D 1 i) (by omega) (by omega)
  refine y_iload rfl rfl ?_
  refine y_tsw4 rfl rfl (by decide) rfl rfl rfl rfl rfl (fun q1 => ?_) (fun q1 => ?_) (fun q1 => ?_) (fun q1 => ?_) (fun q1 => ?_)
  · skip
    refine y_push rfl ?_
    refine y_zret rfl rfl (by decide) ⟨_, rfl, ?_⟩
    exact ⟨rfl, by unfold yb; (repeat' split) <;> omega⟩
  · skip
    refine y_aload rfl rfl rfl ?_
    refine y_gfr (t := (s + 1)) rfl (yS_c hs) (yS_0 hs).1 rfl (by have := yS_0 hs; omega) ?_
    refine y_aload rfl rfl rfl ?_
    refine y_gfi (v := (σ (s + 3 + 3 * i) 5)) rfl (yN_c (yS_n (s := s) (i := i) hs (by omega))) (by have := yN_0 (yS_n (s := s) (i := i) hs (by omega)); omega) rfl (by decide) rfl rfl ?_
    refine y_iald (v := (σ (s + 1) (σ (s + 3 + 3 * i) 5))) (n := 9) rfl (yS_w hs) (by have := yS_0 hs; omega) rfl (by omega) rfl ?_
    refine y_ifle rfl (fun q41 => ?_) (fun q41 => ?_)
    · skip
      refine y_push rfl ?_
      refine y_zret rfl rfl (by decide) ⟨_, rfl, ?_⟩
      exact ⟨rfl, by unfold yb; (repeat' split) <;> omega⟩
    · skip
      refine y_push rfl ?_
      refine y_goto rfl ?_
      refine y_zret rfl rfl (by decide) ⟨_, rfl, ?_⟩
      exact ⟨rfl, by unfold yb; (repeat' split) <;> omega⟩
  · skip
    refine y_aload rfl rfl rfl ?_
    refine y_gfr (t := (s + 1)) rfl (yS_c hs) (yS_0 hs).1 rfl (by have := yS_0 hs; omega) ?_
    refine y_aload rfl rfl rfl ?_
    refine y_gfi (v := (σ (s + 3 + 3 * i) 5)) rfl (yN_c (yS_n (s := s) (i := i) hs (by omega))) (by have := yN_0 (yS_n (s := s) (i := i) hs (by omega)); omega) rfl (by decide) rfl rfl ?_
    refine y_iald (v := (σ (s + 1) (σ (s + 3 + 3 * i) 5))) (n := 9) rfl (yS_w hs) (by have := yS_0 hs; omega) rfl (by omega) rfl ?_
    refine y_ifne rfl (fun q59 => ?_) (fun q59 => ?_)
    · skip
      refine y_push rfl ?_
      refine y_zret rfl rfl (by decide) ⟨_, rfl, ?_⟩
      exact ⟨rfl, by unfold yb; (repeat' split) <;> omega⟩
    · skip
      refine y_push rfl ?_
      refine y_goto rfl ?_
      refine y_zret rfl rfl (by decide) ⟨_, rfl, ?_⟩
      exact ⟨rfl, by unfold yb; (repeat' split) <;> omega⟩
  · skip
    refine y_aload rfl rfl rfl ?_
    refine y_gfi (v := (σ (s + 3 + 3 * i) 6)) rfl (yN_c (yS_n (s := s) (i := i) hs (by omega))) (by have := yN_0 (yS_n (s := s) (i := i) hs (by omega)); omega) rfl (by decide) rfl rfl ?_
    refine y_ifle rfl (fun q72 => ?_) (fun q72 => ?_)
    · skip
      refine y_push rfl ?_
      refine y_zret rfl rfl (by decide) ⟨_, rfl, ?_⟩
      exact ⟨rfl, by unfold yb; (repeat' split) <;> omega⟩
    · skip
      refine y_push rfl ?_
      refine y_goto rfl ?_
      refine y_zret rfl rfl (by decide) ⟨_, rfl, ?_⟩
      exact ⟨rfl, by unfold yb; (repeat' split) <;> omega⟩
  · skip
    refine y_aload rfl rfl rfl ?_
    refine y_gfi (v := (σ (s + 3 + 3 * i) 6)) rfl (yN_c (yS_n (s := s) (i := i) hs (by omega))) (by have := yN_0 (yS_n (s := s) (i := i) hs (by omega)); omega) rfl (by decide) rfl rfl ?_
    refine y_ifne rfl (fun q85 => ?_) (fun q85 => ?_)
    · skip
      refine y_push rfl ?_
      refine y_zret rfl rfl (by decide) ⟨_, rfl, ?_⟩
      exact ⟨rfl, by unfold yb; (repeat' split) <;> omega⟩
    · skip
      refine y_push rfl ?_
      refine y_goto rfl ?_
      refine y_zret rfl rfl (by decide) ⟨_, rfl, ?_⟩
      exact ⟨rfl, by unfold yb; (repeat' split) <;> omega⟩
theorem l_alone {g : Launch × XG × va_G} {σ : YS} {s i : Int} {E D : YS} (hs : yS s) (hr : rep σ s E D) (he : eG E) (hd : dG E D) (hn : 0 ≤ D 5 0 ∧ D 5 0 < 1000000) (hi : 0 ≤ i ∧ i < E 1 0) : ∀ (nn : Nat) (q : Int), E 1 0 - q < (nn : Int) → (0 ≤ q) → (q ≤ E 1 0) → (∀ p, 0 ≤ p → p < q → ¬ mnear E D i p) → YW g 149 2 [some (2, s), some (0, i), some (0, q)] [] σ (fun rv σ' => ∃ b, rv = some (0, b) ∧ (σ = σ' ∧ yb (malone E D i) = b)) := by
  intro nn
  induction nn with
  | zero =>
    intro q hn h0 h1 h2
    exfalso
    omega
  | succ nn ih =>
    intro q hn h0 h1 h2
    have ⟨⟨f1, f2, f3, f4⟩, f5, f6, g7, g8⟩ := hr
    have f7 := mth_7 g7
    have ⟨e1, e2, e3⟩ := he
    have s0 := yS_0 hs
    have ⟨⟨b1, b2, b3, b4⟩, a5, ⟨a6, a7, a8⟩, a9, a10⟩ := f6 i hi.1 hi.2
    have ⟨⟨d1, d2⟩, ⟨d3, d4⟩, ⟨d5, d6⟩, d7⟩ := hd.2 i hi.1 hi.2
    have ⟨⟨e4, e5⟩, ⟨e6, e7⟩, e8⟩ := e3 i hi.1 hi.2
    have w1 : σ (s + 1) (σ (s + 3 + 3 * i) 5) = D 0 (D 1 i) := by rw [a6]; exact f5 _ (by omega) (by omega)
    have w2 := hd.1 (D 1 i) (by omega) (by omega)
    refine y_iload rfl rfl ?_
    refine y_aload rfl rfl rfl ?_
    refine y_gfi (v := (σ s 5)) rfl (yS_c hs) (yS_0 hs).1 rfl (by decide) rfl rfl ?_
    refine y_icge rfl (fun q7 => ?_) (fun q7 => ?_)
    · skip
      refine y_push rfl ?_
      refine y_zret rfl rfl (by decide) ⟨_, rfl, ?_⟩
      exact ⟨rfl, yb_t ⟨fun z => h2 0 (by omega) (by have := z.1; omega) z, fun z => h2 1 (by omega) (by have := z.1; omega) z, fun z => h2 2 (by omega) (by have := z.1; omega) z⟩⟩
    · skip
      refine y_iload rfl rfl ?_
      refine y_iload rfl rfl ?_
      refine y_iceq rfl (fun q12 => ?_) (fun q12 => ?_)
      · skip
        refine y_iinc (L' := [some (2, s), some (0, i), some (0, (q + 1))]) rfl rfl rfl rfl rfl (by omega) ?_
        refine y_goto rfl ?_
        exact ih (q + 1) (by omega) (by omega) (by omega) (fun p hp1 hp2 z => by rcases (by omega : p < q ∨ p = q) with y | rfl; exact h2 p hp1 y z; obtain ⟨z1, z2, z3, z4⟩ := z; have := (f6 p (by omega) (by omega)).2.2.1.1; omega)
      · skip
        refine y_aload rfl rfl rfl ?_
        refine y_gfr (t := (s + 2)) rfl (yS_c hs) (yS_0 hs).1 rfl (by have := yS_0 hs; omega) ?_
        refine y_iload rfl rfl ?_
        refine y_aald (v := ((s + 3) + 3 * q)) (n := 3) rfl (yS_m hs) (by have := yS_0 hs; omega) rfl (by omega) rfl ?_
        refine y_gfi (v := (σ ((s + 3) + 3 * q) 5)) rfl (yN_c (yS_n (s := s) (i := q) hs (by omega))) (by have := yN_0 (yS_n (s := s) (i := q) hs (by omega)); omega) rfl (by decide) rfl rfl ?_
        refine y_aload rfl rfl rfl ?_
        refine y_gfr (t := (s + 2)) rfl (yS_c hs) (yS_0 hs).1 rfl (by have := yS_0 hs; omega) ?_
        refine y_iload rfl rfl ?_
        refine y_aald (v := ((s + 3) + 3 * i)) (n := 3) rfl (yS_m hs) (by have := yS_0 hs; omega) rfl (by omega) rfl ?_
        refine y_gfi (v := (σ ((s + 3) + 3 * i) 5)) rfl (yN_c (yS_n (s := s) (i := i) hs (by omega))) (by have := yN_0 (yS_n (s := s) (i := i) hs (by omega)); omega) rfl (by decide) rfl rfl ?_
        refine y_icne rfl (fun q33 => ?_) (fun q33 => ?_)
        · skip
          refine y_iinc (L' := [some (2, s), some (0, i), some (0, (q + 1))]) rfl rfl rfl rfl rfl (by omega) ?_
          refine y_goto rfl ?_
          exact ih (q + 1) (by omega) (by omega) (by omega) (fun p hp1 hp2 z => by rcases (by omega : p < q ∨ p = q) with y | rfl; exact h2 p hp1 y z; obtain ⟨z1, z2, z3, z4⟩ := z; have := (f6 p (by omega) (by omega)).2.2.1.1; omega)
        · skip
          refine y_push rfl ?_
          refine y_zret rfl rfl (by decide) ⟨_, rfl, ?_⟩
          have hz : mnear E D i q := ⟨by omega, q12, f7 q (by omega) (by omega), by have := (f6 q (by omega) (by omega)).2.2.1.1; omega⟩
          exact ⟨rfl, yb_f (fun z => by rcases (by omega : q = 0 ∨ q = 1 ∨ q = 2) with rfl | rfl | rfl; exact z.1 hz; exact z.2.1 hz; exact z.2.2 hz)⟩
theorem c_alone {g : Launch × XG × va_G} {σ : YS} {s i : Int} {E D : YS} (hs : yS s) (hr : rep σ s E D) (he : eG E) (hd : dG E D) (hn : 0 ≤ D 5 0 ∧ D 5 0 < 1000000) (hi : 0 ≤ i ∧ i < E 1 0) : YI g 149 [(2, s), (0, i)] σ (fun b σ' => σ = σ' ∧ yb (malone E D i) = b) := by
  refine y_start rfl rfl rfl ?_
  refine y_push rfl ?_
  refine y_istore (L' := [some (2, s), some (0, i), some (0, 0)]) rfl rfl rfl rfl ?_
  exact l_alone hs hr he hd hn hi ((E 1 0).toNat + 1) 0 (by have := he.2.1; omega) (by omega) (by have := he.2.1; omega) (fun p _ _ => by omega)
theorem dG_fetch1 {E D : YS} {i : Int} (h : dG E D) (he : eG E) (hi : 0 ≤ i ∧ i < E 1 0) : dG E (mfetch1 D i) := by
  have ⟨⟨d1, d2⟩, ⟨d3, d4⟩, ⟨d5, d6⟩, d7⟩ := h.2 i hi.1 hi.2
  have := he.1
  have hw := h.1 (D 1 i) (by omega) (by omega)
  unfold mfetch1
  split
  · exact dG_m (dG_w h (by omega)) hi (by omega)
  · exact h
theorem dG_fetch {E : YS} {i : Int} (he : eG E) (hi : 0 ≤ i ∧ i < E 1 0) : ∀ (n : Nat) (D : YS), dG E D → dG E (mfetch D i n)
  | 0, D, h => h
  | n + 1, D, h => dG_fetch he hi n _ (dG_fetch1 h he hi)
theorem dG_put {E D : YS} {i : Int} (h : dG E D) (he : eG E) (hi : 0 ≤ i ∧ i < E 1 0) : dG E (mput D i) := by
  have ⟨⟨d1, d2⟩, ⟨d3, d4⟩, ⟨d5, d6⟩, d7⟩ := h.2 i hi.1 hi.2
  have := he.1
  have hw := h.1 (D 1 i) (by omega) (by omega)
  unfold mput
  split
  · exact dG_w (dG_m h hi (by omega)) (by omega)
  · exact h
theorem mfetch_k {D : YS} {i r c : Int} (hr : r = 1 ∨ 3 ≤ r) : ∀ n : Nat, mfetch D i n r c = D r c
  | 0 => rfl
  | n + 1 => by
    show mfetch (mfetch1 D i) i n r c = D r c
    rw [mfetch_k hr n]
    unfold mfetch1
    split
    · rw [yne (by omega) rfl, yne (by omega) rfl]
    · rfl
theorem mfetch1_k {D : YS} {i r c : Int} (hr : r = 1 ∨ 3 ≤ r) : mfetch1 D i r c = D r c := by
  unfold mfetch1
  split
  · rw [yne (by omega) rfl, yne (by omega) rfl]
  · rfl
theorem l_fetch {g : Launch × XG × va_G} {σ : YS} {s i : Int} {E F : YS} (hs : yS s) (he : eG E) (hi : 0 ≤ i ∧ i < E 1 0) : ∀ (nn : Nat) (τ : YS) (C : YS) (k : Int), mtimes (E 2 i) - k < (nn : Int) → (0 ≤ k) → (rep τ s E C) → (dG E C) → (yfr σ τ s (s + 11)) → (0 ≤ C 5 0 ∧ C 5 0 < 1000000) → (k ≤ mtimes (E 2 i)) → (mfetch C i (mtimes (E 2 i) - k).toNat = F) → YW g 151 2 [some (2, s), some (2, (s + 3 + 3 * i)), some (0, k)] [] τ (fun rv σ' => rv = none ∧ (rep σ' s E F ∧ yfr σ σ' s (s + 11))) := by
  intro nn
  induction nn with
  | zero =>
    intro τ C k hn h0 h1 h2 h3 h4 h5 h6
    exfalso
    omega
  | succ nn ih =>
    intro τ C k hn h0 h1 h2 h3 h4 h5 h6
    have ⟨⟨f1, f2, f3, f4⟩, f5, f6, g7, g8⟩ := h1
    have f7 := mth_7 g7
    have ⟨e1, e2, e3⟩ := he
    have s0 := yS_0 hs
    have ⟨⟨b1, b2, b3, b4⟩, a5, ⟨a6, a7, a8⟩, a9, a10⟩ := f6 i hi.1 hi.2
    have ⟨⟨d1, d2⟩, ⟨d3, d4⟩, ⟨d5, d6⟩, d7⟩ := h2.2 i hi.1 hi.2
    have ⟨⟨e4, e5⟩, ⟨e6, e7⟩, e8⟩ := e3 i hi.1 hi.2
    have w1 : τ (s + 1) (τ (s + 3 + 3 * i) 5) = C 0 (C 1 i) := by rw [a6]; exact f5 _ (by omega) (by omega)
    have w2 := h2.1 (C 1 i) (by omega) (by omega)
    have hf : yfet (τ (s + 3 + 3 * i) 4) = mtimes (E 2 i) := by rw [a5]; exact yfet_r (by omega)
    have hmt : 0 ≤ mtimes (E 2 i) ∧ mtimes (E 2 i) ≤ 20 := by unfold mtimes; (repeat' split) <;> omega
    refine y_iload rfl rfl ?_
    refine y_gets2 rfl ?_
    refine y_aload rfl rfl rfl ?_
    refine y_gfi (v := (τ (s + 3 + 3 * i) 4)) rfl (yN_c (yS_n (s := s) (i := i) hs (by omega))) (by have := yN_0 (yS_n (s := s) (i := i) hs (by omega)); omega) rfl (by decide) rfl rfl ?_
    refine y_iald2 rfl (by omega) ?_
    refine y_icge rfl (fun q11 => ?_) (fun q11 => ?_)
    · skip
      refine y_ret rfl rfl ⟨rfl, ?_⟩
      rw [show (mtimes (E 2 i) - k).toNat = 0 by omega] at h6
      exact ⟨by rw [← h6]; exact h1, h3⟩
    · skip
      refine y_aload rfl rfl rfl ?_
      refine y_gfr (t := (s + 1)) rfl (yS_c hs) (yS_0 hs).1 rfl (by have := yS_0 hs; omega) ?_
      refine y_aload rfl rfl rfl ?_
      refine y_gfi (v := (τ (s + 3 + 3 * i) 5)) rfl (yN_c (yS_n (s := s) (i := i) hs (by omega))) (by have := yN_0 (yS_n (s := s) (i := i) hs (by omega)); omega) rfl (by decide) rfl rfl ?_
      refine y_iald (v := (τ (s + 1) (τ (s + 3 + 3 * i) 5))) (n := 9) rfl (yS_w hs) (by have := yS_0 hs; omega) rfl (by omega) rfl ?_
      refine y_ifle rfl (fun q23 => ?_) (fun q23 => ?_)
      · skip
        refine y_iinc (L' := [some (2, s), some (2, (s + 3 + 3 * i)), some (0, (k + 1))]) rfl rfl rfl rfl rfl (by omega) ?_
        refine y_goto rfl ?_
        have hm : mfetch1 C i = C := if_neg (by omega)
        refine ih τ C (k + 1) (by omega) (by omega) h1 h2 h3 h4 (by omega) ?_
        rw [show (mtimes (E 2 i) - k).toNat = (mtimes (E 2 i) - (k + 1)).toNat + 1 by omega] at h6; unfold mfetch at h6; rw [hm] at h6; exact h6
      · skip
        refine y_aload rfl rfl rfl ?_
        refine y_gfi (v := (τ (s + 3 + 3 * i) 6)) rfl (yN_c (yS_n (s := s) (i := i) hs (by omega))) (by have := yN_0 (yS_n (s := s) (i := i) hs (by omega)); omega) rfl (by decide) rfl rfl ?_
        refine y_push rfl ?_
        refine y_icge rfl (fun q32 => ?_) (fun q32 => ?_)
        · skip
          refine y_iinc (L' := [some (2, s), some (2, (s + 3 + 3 * i)), some (0, (k + 1))]) rfl rfl rfl rfl rfl (by omega) ?_
          refine y_goto rfl ?_
          have hm : mfetch1 C i = C := if_neg (by omega)
          refine ih τ C (k + 1) (by omega) (by omega) h1 h2 h3 h4 (by omega) ?_
          rw [show (mtimes (E 2 i) - k).toNat = (mtimes (E 2 i) - (k + 1)).toNat + 1 by omega] at h6; unfold mfetch at h6; rw [hm] at h6; exact h6
        · skip
          refine y_aload rfl rfl rfl ?_
          refine y_gfr (t := (s + 1)) rfl (yS_c hs) (yS_0 hs).1 rfl (by have := yS_0 hs; omega) ?_
          refine y_aload rfl rfl rfl ?_
          refine y_gfi (v := (τ (s + 3 + 3 * i) 5)) rfl (yN_c (yS_n (s := s) (i := i) hs (by omega))) (by have := yN_0 (yS_n (s := s) (i := i) hs (by omega)); omega) rfl (by decide) rfl rfl ?_
          refine y_dup2 rfl rfl rfl ?_
          refine y_iald (v := (τ (s + 1) (τ (s + 3 + 3 * i) 5))) (n := 9) rfl (yS_w hs) (by have := yS_0 hs; omega) rfl (by omega) rfl ?_
          refine y_push rfl ?_
          refine y_isub (v := ((τ (s + 1) (τ (s + 3 + 3 * i) 5)) - 1)) rfl rfl (by omega) ?_
          refine y_iast (n := 9) rfl (yS_w hs) (by have := yS_0 hs; omega) rfl (by omega) ?_
          refine y_aload rfl rfl rfl ?_
          refine y_dup rfl rfl ?_
          refine y_gfi (v := (τ (s + 3 + 3 * i) 6)) rfl (yN_c (yS_n (s := s) (i := i) hs (by omega))) (by have := yN_0 (yS_n (s := s) (i := i) hs (by omega)); omega) rfl (by decide) rfl (yne (by omega) rfl) ?_
          refine y_push rfl ?_
          refine y_iadd (v := ((τ (s + 3 + 3 * i) 6) + 1)) rfl rfl (by omega) ?_
          refine y_pfi (j := 6) rfl (yN_c (yS_n (s := s) (i := i) hs (by omega))) (by have := yN_0 (yS_n (s := s) (i := i) hs (by omega)); omega) rfl rfl rfl rfl rfl ?_
          refine y_iinc (L' := [some (2, s), some (2, (s + 3 + 3 * i)), some (0, (k + 1))]) rfl rfl rfl rfl rfl (by omega) ?_
          refine y_goto rfl ?_
          have hm : mfetch1 C i = yset (yset C 0 (C 1 i) (C 0 (C 1 i) - 1)) 2 i (C 2 i + 1) := if_pos (by omega)
          refine ih _ (mfetch1 C i) (k + 1) (by omega) (by omega) ?_ (dG_fetch1 h2 he hi) ?_ ?_ ?_ ?_
          · rw [hm, w1, a6, a7]; exact rep_man (rep_w h1 (by omega)) hi (by omega)
          · exact yfr_set (yfr_set h3 (by omega)) (by omega)
          · rw [mfetch1_k (by omega)]; exact h4
          · omega
          · rw [show (mtimes (E 2 i) - k).toNat = (mtimes (E 2 i) - (k + 1)).toNat + 1 by omega] at h6; exact h6
theorem c_fetch {g : Launch × XG × va_G} {σ : YS} {s i : Int} {E D : YS} (hs : yS s) (hr : rep σ s E D) (he : eG E) (hd : dG E D) (hn : 0 ≤ D 5 0 ∧ D 5 0 < 1000000) (hi : 0 ≤ i ∧ i < E 1 0) : YU g 151 [(2, s), (2, (s + 3 + 3 * i))] σ (fun σ' => rep σ' s E (mfetch D i (mtimes (E 2 i)).toNat) ∧ yfr σ σ' s (s + 11)) := by
  refine y_start rfl rfl rfl ?_
  refine y_push rfl ?_
  refine y_istore (L' := [some (2, s), some (2, (s + 3 + 3 * i)), some (0, 0)]) rfl rfl rfl rfl ?_
  have hmt : 0 ≤ mtimes (E 2 i) ∧ mtimes (E 2 i) ≤ 20 := by unfold mtimes; (repeat' split) <;> omega
  exact l_fetch hs he hi 21 σ D 0 (by omega) (by omega) hr hd (yfr_refl _ _ _) hn (by omega) (by rw [Int.sub_zero])
theorem c_put {g : Launch × XG × va_G} {σ : YS} {s i : Int} {E D : YS} (hs : yS s) (hr : rep σ s E D) (he : eG E) (hd : dG E D) (hn : 0 ≤ D 5 0 ∧ D 5 0 < 1000000) (hi : 0 ≤ i ∧ i < E 1 0) : YU g 152 [(2, s), (2, (s + 3 + 3 * i))] σ (fun σ' => rep σ' s E (mput D i) ∧ yfr σ σ' s (s + 11)) := by
  refine y_start rfl rfl rfl ?_
  have ⟨⟨f1, f2, f3, f4⟩, f5, f6, g7, g8⟩ := hr
  have f7 := mth_7 g7
  have ⟨e1, e2, e3⟩ := he
  have s0 := yS_0 hs
  have ⟨⟨b1, b2, b3, b4⟩, a5, ⟨a6, a7, a8⟩, a9, a10⟩ := f6 i hi.1 hi.2
  have ⟨⟨d1, d2⟩, ⟨d3, d4⟩, ⟨d5, d6⟩, d7⟩ := hd.2 i hi.1 hi.2
  have ⟨⟨e4, e5⟩, ⟨e6, e7⟩, e8⟩ := e3 i hi.1 hi.2
  have w1 : σ (s + 1) (σ (s + 3 + 3 * i) 5) = D 0 (D 1 i) := by rw [a6]; exact f5 _ (by omega) (by omega)
  have w2 := hd.1 (D 1 i) (by omega) (by omega)
  refine y_aload rfl rfl rfl ?_
  refine y_gfi (v := (σ (s + 3 + 3 * i) 6)) rfl (yN_c (yS_n (s := s) (i := i) hs (by omega))) (by have := yN_0 (yS_n (s := s) (i := i) hs (by omega)); omega) rfl (by decide) rfl rfl ?_
  refine y_ifle rfl (fun q4 => ?_) (fun q4 => ?_)
  · skip
    refine y_ret rfl rfl ⟨rfl, ?_⟩
    have hm : mput D i = D := if_neg (by omega)
    exact ⟨by rw [hm]; exact hr, yfr_refl _ _ _⟩
  · skip
    refine y_aload rfl rfl rfl ?_
    refine y_gfr (t := (s + 1)) rfl (yS_c hs) (yS_0 hs).1 rfl (by have := yS_0 hs; omega) ?_
    refine y_aload rfl rfl rfl ?_
    refine y_gfi (v := (σ (s + 3 + 3 * i) 5)) rfl (yN_c (yS_n (s := s) (i := i) hs (by omega))) (by have := yN_0 (yS_n (s := s) (i := i) hs (by omega)); omega) rfl (by decide) rfl rfl ?_
    refine y_iald (v := (σ (s + 1) (σ (s + 3 + 3 * i) 5))) (n := 9) rfl (yS_w hs) (by have := yS_0 hs; omega) rfl (by omega) rfl ?_
    refine y_push rfl ?_
    refine y_icge rfl (fun q18 => ?_) (fun q18 => ?_)
    · skip
      refine y_ret rfl rfl ⟨rfl, ?_⟩
      have hm : mput D i = D := if_neg (by omega)
      exact ⟨by rw [hm]; exact hr, yfr_refl _ _ _⟩
    · skip
      refine y_aload rfl rfl rfl ?_
      refine y_dup rfl rfl ?_
      refine y_gfi (v := (σ (s + 3 + 3 * i) 6)) rfl (yN_c (yS_n (s := s) (i := i) hs (by omega))) (by have := yN_0 (yS_n (s := s) (i := i) hs (by omega)); omega) rfl (by decide) rfl rfl ?_
      refine y_push rfl ?_
      refine y_isub (v := ((σ (s + 3 + 3 * i) 6) - 1)) rfl rfl (by omega) ?_
      refine y_pfi (j := 6) rfl (yN_c (yS_n (s := s) (i := i) hs (by omega))) (by have := yN_0 (yS_n (s := s) (i := i) hs (by omega)); omega) rfl rfl rfl rfl rfl ?_
      refine y_aload rfl rfl rfl ?_
      refine y_gfr (t := (s + 1)) rfl (yS_c hs) (yS_0 hs).1 rfl (by have := yS_0 hs; omega) ?_
      refine y_aload rfl rfl rfl ?_
      refine y_gfi (v := (σ (s + 3 + 3 * i) 5)) rfl (yN_c (yS_n (s := s) (i := i) hs (by omega))) (by have := yN_0 (yS_n (s := s) (i := i) hs (by omega)); omega) rfl (by decide) rfl (yne (by omega) rfl) ?_
      refine y_dup2 rfl rfl rfl ?_
      refine y_iald (v := (σ (s + 1) (σ (s + 3 + 3 * i) 5))) (n := 9) rfl (yS_w hs) (by have := yS_0 hs; omega) rfl (by omega) (yne (by omega) rfl) ?_
      refine y_push rfl ?_
      refine y_iadd (v := ((σ (s + 1) (σ (s + 3 + 3 * i) 5)) + 1)) rfl rfl (by omega) ?_
      refine y_iast (n := 9) rfl (yS_w hs) (by have := yS_0 hs; omega) rfl (by omega) ?_
      refine y_ret rfl rfl ⟨rfl, ?_⟩
      have hm : mput D i = yset (yset D 2 i (D 2 i - 1)) 0 (D 1 i) (D 0 (D 1 i) + 1) := if_pos (by omega)
      exact ⟨by rw [hm, w1, a6, a7]; exact rep_w (rep_man hr hi (by omega)) (by omega), yfr_set (yfr_set (yfr_refl _ _ _) (by omega)) (by omega)⟩
theorem dG_work {E D : YS} {i sg : Int} (h : dG E D) (he : eG E) (hi : 0 ≤ i ∧ i < E 1 0) : dG E (mwork E D i sg) := by
  have ⟨⟨d1, d2⟩, ⟨d3, d4⟩, ⟨d5, d6⟩, d7⟩ := h.2 i hi.1 hi.2
  have := he.1
  unfold mwork
  split
  · exact dG_fetch he hi _ _ h
  split
  · exact dG_put h he hi
  split
  · exact dG_m h hi (by omega)
  · refine dG_m h hi (Or.inl ⟨rfl, ?_⟩)
    unfold mgoal
    (repeat' split) <;> omega
theorem mput_k {D : YS} {i r c : Int} (hr : r = 1 ∨ 3 ≤ r) : mput D i r c = D r c := by
  unfold mput
  split
  · rw [yne (by omega) rfl, yne (by omega) rfl]
  · rfl
theorem mwork_k {E D : YS} {i sg r c : Int} (hr : r = 3 ∨ 5 ≤ r) : mwork E D i sg r c = D r c := by
  unfold mwork
  split
  · exact mfetch_k (by omega) _
  split
  · exact mput_k (by omega)
  split <;> exact yne (by omega) rfl
theorem c_work {g : Launch × XG × va_G} {σ : YS} {s i sg : Int} {E D : YS} (hs : yS s) (hr : rep σ s E D) (he : eG E) (hd : dG E D) (hn : 0 ≤ D 5 0 ∧ D 5 0 < 1000000) (hi : 0 ≤ i ∧ i < E 1 0) : YU g 150 [(2, s), (2, (s + 3 + 3 * i)), (0, sg)] σ (fun σ' => rep σ' s E (mwork E D i sg) ∧ yfr σ σ' s (s + 11)) := by
  refine y_start rfl rfl rfl ?_
  have ⟨⟨f1, f2, f3, f4⟩, f5, f6, g7, g8⟩ := hr
  have f7 := mth_7 g7
  have ⟨e1, e2, e3⟩ := he
  have s0 := yS_0 hs
  have ⟨⟨b1, b2, b3, b4⟩, a5, ⟨a6, a7, a8⟩, a9, a10⟩ := f6 i hi.1 hi.2
  have ⟨⟨d1, d2⟩, ⟨d3, d4⟩, ⟨d5, d6⟩, d7⟩ := hd.2 i hi.1 hi.2
  have ⟨⟨e4, e5⟩, ⟨e6, e7⟩, e8⟩ := e3 i hi.1 hi.2
  have w1 : σ (s + 1) (σ (s + 3 + 3 * i) 5) = D 0 (D 1 i) := by rw [a6]; exact f5 _ (by omega) (by omega)
  have w2 := hd.1 (D 1 i) (by omega) (by omega)
  refine y_aload rfl rfl rfl ?_
  refine y_gfi (v := (σ (s + 3 + 3 * i) 4)) rfl (yN_c (yS_n (s := s) (i := i) hs (by omega))) (by have := yN_0 (yS_n (s := s) (i := i) hs (by omega)); omega) rfl (by decide) rfl rfl ?_
  refine y_push rfl ?_
  refine y_icne rfl (fun q5 => ?_) (fun q5 => ?_)
  · skip
    refine y_push rfl ?_
    refine y_istore (L' := [some (2, s), some (2, (s + 3 + 3 * i)), some (0, sg), some (0, 0)]) rfl rfl rfl rfl ?_
    refine y_iload rfl rfl ?_
    refine y_push rfl ?_
    refine y_icne rfl (fun q28 => ?_) (fun q28 => ?_)
    · skip
      refine y_iload rfl rfl ?_
      refine y_push rfl ?_
      refine y_icne rfl (fun q45 => ?_) (fun q45 => ?_)
      · skip
        refine y_iload rfl rfl ?_
        refine y_push rfl ?_
        refine y_icne rfl (fun q62 => ?_) (fun q62 => ?_)
        · skip
          refine y_aload rfl rfl rfl ?_
          refine y_aload rfl rfl rfl ?_
          refine y_gfi (v := (σ (s + 3 + 3 * i) 4)) rfl (yN_c (yS_n (s := s) (i := i) hs (by omega))) (by have := yN_0 (yS_n (s := s) (i := i) hs (by omega)); omega) rfl (by decide) rfl rfl ?_
          refine y_aload rfl rfl rfl ?_
          refine y_gfi (v := (σ (s + 3 + 3 * i) 5)) rfl (yN_c (yS_n (s := s) (i := i) hs (by omega))) (by have := yN_0 (yS_n (s := s) (i := i) hs (by omega)); omega) rfl (by decide) rfl rfl ?_
          refine y_iload rfl rfl ?_
          refine y_aload rfl rfl rfl ?_
          refine y_gfi (v := (σ s 6)) rfl (yS_c hs) (yS_0 hs).1 rfl (by decide) rfl rfl ?_
          refine y_aload rfl rfl rfl ?_
          refine y_gfi (v := (σ s 4)) rfl (yS_c hs) (yS_0 hs).1 rfl (by decide) rfl rfl ?_
          refine y_ni (as := [(0, (σ (s + 3 + 3 * i) 4)), (0, (σ (s + 3 + 3 * i) 5)), (0, sg), (0, (σ s 6)), (0, (σ s 4))]) (S := [(2, (s + 3 + 3 * i))]) rfl rfl rfl rfl rfl (c_goal (by omega) (by omega) (by omega) (by omega)) ?_
          rintro _ _ ⟨rfl, rfl⟩
          refine y_pfi (j := 5) rfl (yN_c (yS_n (s := s) (i := i) hs (by omega))) (by have := yN_0 (yS_n (s := s) (i := i) hs (by omega)); omega) rfl rfl rfl rfl rfl ?_
          refine y_ret rfl rfl ⟨rfl, ?_⟩
          exact ⟨by unfold mwork; rw [if_neg (by omega), if_neg (by omega), if_neg (by omega), a5, a6, f1, f3]; exact rep_man hr hi (by omega), yfr_set (yfr_refl _ _ _) (by omega)⟩
        · skip
          refine y_aload rfl rfl rfl ?_
          refine y_push rfl ?_
          refine y_pfz (j := 8) rfl (yN_c (yS_n (s := s) (i := i) hs (by omega))) (by have := yN_0 (yS_n (s := s) (i := i) hs (by omega)); omega) rfl rfl rfl rfl rfl (by decide) ?_
          refine y_goto rfl ?_
          refine y_ret rfl rfl ⟨rfl, ?_⟩
          exact ⟨by unfold mwork; rw [if_neg (by omega), if_neg (by omega), if_pos (by omega)]; exact rep_man hr hi (by omega), yfr_set (yfr_refl _ _ _) (by omega)⟩
      · skip
        refine y_iload rfl rfl ?_
        refine y_ifne rfl (fun q49 => ?_) (fun q49 => ?_)
        · exfalso; omega
        · skip
          refine y_aload rfl rfl rfl ?_
          refine y_aload rfl rfl rfl ?_
          refine y_vu (as := [(2, s), (2, (s + 3 + 3 * i))]) (S := []) rfl rfl rfl rfl rfl rfl (yS_0 hs).1 (yS_c hs) (c_put hs hr he hd hn hi) ?_
          rintro σ' ⟨z1, z2⟩
          refine y_goto rfl ?_
          refine y_ret rfl rfl ⟨rfl, ?_⟩
          exact ⟨by unfold mwork; rw [if_neg (by omega), if_pos (by omega)]; exact z1, z2⟩
    · skip
      refine y_iload rfl rfl ?_
      refine y_ifne rfl (fun q32 => ?_) (fun q32 => ?_)
      · exfalso; omega
      · skip
        refine y_aload rfl rfl rfl ?_
        refine y_aload rfl rfl rfl ?_
        refine y_vu (as := [(2, s), (2, (s + 3 + 3 * i))]) (S := []) rfl rfl rfl rfl rfl rfl (yS_0 hs).1 (yS_c hs) (c_fetch hs hr he hd hn hi) ?_
        rintro σ' ⟨z1, z2⟩
        refine y_goto rfl ?_
        refine y_ret rfl rfl ⟨rfl, ?_⟩
        exact ⟨by unfold mwork; rw [if_pos (by omega)]; exact z1, z2⟩
  · skip
    refine y_aload rfl rfl rfl ?_
    refine y_gfi (v := (σ s 6)) rfl (yS_c hs) (yS_0 hs).1 rfl (by decide) rfl rfl ?_
    refine y_push rfl ?_
    refine y_irem (v := ((σ s 6) % 7)) rfl rfl (by omega) ?_
    refine y_push rfl ?_
    refine y_icne rfl (fun q17 => ?_) (fun q17 => ?_)
    · skip
      refine y_push rfl ?_
      refine y_istore (L' := [some (2, s), some (2, (s + 3 + 3 * i)), some (0, sg), some (0, 0)]) rfl rfl rfl rfl ?_
      refine y_iload rfl rfl ?_
      refine y_push rfl ?_
      refine y_icne rfl (fun q28 => ?_) (fun q28 => ?_)
      · skip
        refine y_iload rfl rfl ?_
        refine y_push rfl ?_
        refine y_icne rfl (fun q45 => ?_) (fun q45 => ?_)
        · skip
          refine y_iload rfl rfl ?_
          refine y_push rfl ?_
          refine y_icne rfl (fun q62 => ?_) (fun q62 => ?_)
          · skip
            refine y_aload rfl rfl rfl ?_
            refine y_aload rfl rfl rfl ?_
            refine y_gfi (v := (σ (s + 3 + 3 * i) 4)) rfl (yN_c (yS_n (s := s) (i := i) hs (by omega))) (by have := yN_0 (yS_n (s := s) (i := i) hs (by omega)); omega) rfl (by decide) rfl rfl ?_
            refine y_aload rfl rfl rfl ?_
            refine y_gfi (v := (σ (s + 3 + 3 * i) 5)) rfl (yN_c (yS_n (s := s) (i := i) hs (by omega))) (by have := yN_0 (yS_n (s := s) (i := i) hs (by omega)); omega) rfl (by decide) rfl rfl ?_
            refine y_iload rfl rfl ?_
            refine y_aload rfl rfl rfl ?_
            refine y_gfi (v := (σ s 6)) rfl (yS_c hs) (yS_0 hs).1 rfl (by decide) rfl rfl ?_
            refine y_aload rfl rfl rfl ?_
            refine y_gfi (v := (σ s 4)) rfl (yS_c hs) (yS_0 hs).1 rfl (by decide) rfl rfl ?_
            refine y_ni (as := [(0, (σ (s + 3 + 3 * i) 4)), (0, (σ (s + 3 + 3 * i) 5)), (0, sg), (0, (σ s 6)), (0, (σ s 4))]) (S := [(2, (s + 3 + 3 * i))]) rfl rfl rfl rfl rfl (c_goal (by omega) (by omega) (by omega) (by omega)) ?_
            rintro _ _ ⟨rfl, rfl⟩
            refine y_pfi (j := 5) rfl (yN_c (yS_n (s := s) (i := i) hs (by omega))) (by have := yN_0 (yS_n (s := s) (i := i) hs (by omega)); omega) rfl rfl rfl rfl rfl ?_
            refine y_ret rfl rfl ⟨rfl, ?_⟩
            exact ⟨by unfold mwork; rw [if_neg (by omega), if_neg (by omega), if_neg (by omega), a5, a6, f1, f3]; exact rep_man hr hi (by omega), yfr_set (yfr_refl _ _ _) (by omega)⟩
          · skip
            refine y_aload rfl rfl rfl ?_
            refine y_push rfl ?_
            refine y_pfz (j := 8) rfl (yN_c (yS_n (s := s) (i := i) hs (by omega))) (by have := yN_0 (yS_n (s := s) (i := i) hs (by omega)); omega) rfl rfl rfl rfl rfl (by decide) ?_
            refine y_goto rfl ?_
            refine y_ret rfl rfl ⟨rfl, ?_⟩
            exact ⟨by unfold mwork; rw [if_neg (by omega), if_neg (by omega), if_pos (by omega)]; exact rep_man hr hi (by omega), yfr_set (yfr_refl _ _ _) (by omega)⟩
        · skip
          refine y_iload rfl rfl ?_
          refine y_ifne rfl (fun q49 => ?_) (fun q49 => ?_)
          · exfalso; omega
          · skip
            refine y_aload rfl rfl rfl ?_
            refine y_aload rfl rfl rfl ?_
            refine y_vu (as := [(2, s), (2, (s + 3 + 3 * i))]) (S := []) rfl rfl rfl rfl rfl rfl (yS_0 hs).1 (yS_c hs) (c_put hs hr he hd hn hi) ?_
            rintro σ' ⟨z1, z2⟩
            refine y_goto rfl ?_
            refine y_ret rfl rfl ⟨rfl, ?_⟩
            exact ⟨by unfold mwork; rw [if_neg (by omega), if_pos (by omega)]; exact z1, z2⟩
      · skip
        refine y_iload rfl rfl ?_
        refine y_ifne rfl (fun q32 => ?_) (fun q32 => ?_)
        · exfalso; omega
        · skip
          refine y_aload rfl rfl rfl ?_
          refine y_aload rfl rfl rfl ?_
          refine y_vu (as := [(2, s), (2, (s + 3 + 3 * i))]) (S := []) rfl rfl rfl rfl rfl rfl (yS_0 hs).1 (yS_c hs) (c_fetch hs hr he hd hn hi) ?_
          rintro σ' ⟨z1, z2⟩
          refine y_goto rfl ?_
          refine y_ret rfl rfl ⟨rfl, ?_⟩
          exact ⟨by unfold mwork; rw [if_pos (by omega)]; exact z1, z2⟩
    · skip
      refine y_push rfl ?_
      refine y_goto rfl ?_
      refine y_istore (L' := [some (2, s), some (2, (s + 3 + 3 * i)), some (0, sg), some (0, 1)]) rfl rfl rfl rfl ?_
      refine y_iload rfl rfl ?_
      refine y_push rfl ?_
      refine y_icne rfl (fun q28 => ?_) (fun q28 => ?_)
      · skip
        refine y_iload rfl rfl ?_
        refine y_push rfl ?_
        refine y_icne rfl (fun q45 => ?_) (fun q45 => ?_)
        · skip
          refine y_iload rfl rfl ?_
          refine y_push rfl ?_
          refine y_icne rfl (fun q62 => ?_) (fun q62 => ?_)
          · skip
            refine y_aload rfl rfl rfl ?_
            refine y_aload rfl rfl rfl ?_
            refine y_gfi (v := (σ (s + 3 + 3 * i) 4)) rfl (yN_c (yS_n (s := s) (i := i) hs (by omega))) (by have := yN_0 (yS_n (s := s) (i := i) hs (by omega)); omega) rfl (by decide) rfl rfl ?_
            refine y_aload rfl rfl rfl ?_
            refine y_gfi (v := (σ (s + 3 + 3 * i) 5)) rfl (yN_c (yS_n (s := s) (i := i) hs (by omega))) (by have := yN_0 (yS_n (s := s) (i := i) hs (by omega)); omega) rfl (by decide) rfl rfl ?_
            refine y_iload rfl rfl ?_
            refine y_aload rfl rfl rfl ?_
            refine y_gfi (v := (σ s 6)) rfl (yS_c hs) (yS_0 hs).1 rfl (by decide) rfl rfl ?_
            refine y_aload rfl rfl rfl ?_
            refine y_gfi (v := (σ s 4)) rfl (yS_c hs) (yS_0 hs).1 rfl (by decide) rfl rfl ?_
            refine y_ni (as := [(0, (σ (s + 3 + 3 * i) 4)), (0, (σ (s + 3 + 3 * i) 5)), (0, sg), (0, (σ s 6)), (0, (σ s 4))]) (S := [(2, (s + 3 + 3 * i))]) rfl rfl rfl rfl rfl (c_goal (by omega) (by omega) (by omega) (by omega)) ?_
            rintro _ _ ⟨rfl, rfl⟩
            refine y_pfi (j := 5) rfl (yN_c (yS_n (s := s) (i := i) hs (by omega))) (by have := yN_0 (yS_n (s := s) (i := i) hs (by omega)); omega) rfl rfl rfl rfl rfl ?_
            refine y_ret rfl rfl ⟨rfl, ?_⟩
            exact ⟨by unfold mwork; rw [if_neg (by omega), if_neg (by omega), if_neg (by omega), a5, a6, f1, f3]; exact rep_man hr hi (by omega), yfr_set (yfr_refl _ _ _) (by omega)⟩
          · skip
            refine y_aload rfl rfl rfl ?_
            refine y_push rfl ?_
            refine y_pfz (j := 8) rfl (yN_c (yS_n (s := s) (i := i) hs (by omega))) (by have := yN_0 (yS_n (s := s) (i := i) hs (by omega)); omega) rfl rfl rfl rfl rfl (by decide) ?_
            refine y_goto rfl ?_
            refine y_ret rfl rfl ⟨rfl, ?_⟩
            exact ⟨by unfold mwork; rw [if_neg (by omega), if_neg (by omega), if_pos (by omega)]; exact rep_man hr hi (by omega), yfr_set (yfr_refl _ _ _) (by omega)⟩
        · skip
          refine y_iload rfl rfl ?_
          refine y_ifne rfl (fun q49 => ?_) (fun q49 => ?_)
          · skip
            refine y_iload rfl rfl ?_
            refine y_push rfl ?_
            refine y_icne rfl (fun q62 => ?_) (fun q62 => ?_)
            · skip
              refine y_aload rfl rfl rfl ?_
              refine y_aload rfl rfl rfl ?_
              refine y_gfi (v := (σ (s + 3 + 3 * i) 4)) rfl (yN_c (yS_n (s := s) (i := i) hs (by omega))) (by have := yN_0 (yS_n (s := s) (i := i) hs (by omega)); omega) rfl (by decide) rfl rfl ?_
              refine y_aload rfl rfl rfl ?_
              refine y_gfi (v := (σ (s + 3 + 3 * i) 5)) rfl (yN_c (yS_n (s := s) (i := i) hs (by omega))) (by have := yN_0 (yS_n (s := s) (i := i) hs (by omega)); omega) rfl (by decide) rfl rfl ?_
              refine y_iload rfl rfl ?_
              refine y_aload rfl rfl rfl ?_
              refine y_gfi (v := (σ s 6)) rfl (yS_c hs) (yS_0 hs).1 rfl (by decide) rfl rfl ?_
              refine y_aload rfl rfl rfl ?_
              refine y_gfi (v := (σ s 4)) rfl (yS_c hs) (yS_0 hs).1 rfl (by decide) rfl rfl ?_
              refine y_ni (as := [(0, (σ (s + 3 + 3 * i) 4)), (0, (σ (s + 3 + 3 * i) 5)), (0, sg), (0, (σ s 6)), (0, (σ s 4))]) (S := [(2, (s + 3 + 3 * i))]) rfl rfl rfl rfl rfl (c_goal (by omega) (by omega) (by omega) (by omega)) ?_
              rintro _ _ ⟨rfl, rfl⟩
              refine y_pfi (j := 5) rfl (yN_c (yS_n (s := s) (i := i) hs (by omega))) (by have := yN_0 (yS_n (s := s) (i := i) hs (by omega)); omega) rfl rfl rfl rfl rfl ?_
              refine y_ret rfl rfl ⟨rfl, ?_⟩
              exact ⟨by unfold mwork; rw [if_neg (by omega), if_neg (by omega), if_neg (by omega), a5, a6, f1, f3]; exact rep_man hr hi (by omega), yfr_set (yfr_refl _ _ _) (by omega)⟩
            · skip
              refine y_aload rfl rfl rfl ?_
              refine y_push rfl ?_
              refine y_pfz (j := 8) rfl (yN_c (yS_n (s := s) (i := i) hs (by omega))) (by have := yN_0 (yS_n (s := s) (i := i) hs (by omega)); omega) rfl rfl rfl rfl rfl (by decide) ?_
              refine y_goto rfl ?_
              refine y_ret rfl rfl ⟨rfl, ?_⟩
              exact ⟨by unfold mwork; rw [if_neg (by omega), if_neg (by omega), if_pos (by omega)]; exact rep_man hr hi (by omega), yfr_set (yfr_refl _ _ _) (by omega)⟩
          · exfalso; omega
      · skip
        refine y_iload rfl rfl ?_
        refine y_ifne rfl (fun q32 => ?_) (fun q32 => ?_)
        · skip
          refine y_iload rfl rfl ?_
          refine y_push rfl ?_
          refine y_icne rfl (fun q45 => ?_) (fun q45 => ?_)
          · skip
            refine y_iload rfl rfl ?_
            refine y_push rfl ?_
            refine y_icne rfl (fun q62 => ?_) (fun q62 => ?_)
            · skip
              refine y_aload rfl rfl rfl ?_
              refine y_aload rfl rfl rfl ?_
              refine y_gfi (v := (σ (s + 3 + 3 * i) 4)) rfl (yN_c (yS_n (s := s) (i := i) hs (by omega))) (by have := yN_0 (yS_n (s := s) (i := i) hs (by omega)); omega) rfl (by decide) rfl rfl ?_
              refine y_aload rfl rfl rfl ?_
              refine y_gfi (v := (σ (s + 3 + 3 * i) 5)) rfl (yN_c (yS_n (s := s) (i := i) hs (by omega))) (by have := yN_0 (yS_n (s := s) (i := i) hs (by omega)); omega) rfl (by decide) rfl rfl ?_
              refine y_iload rfl rfl ?_
              refine y_aload rfl rfl rfl ?_
              refine y_gfi (v := (σ s 6)) rfl (yS_c hs) (yS_0 hs).1 rfl (by decide) rfl rfl ?_
              refine y_aload rfl rfl rfl ?_
              refine y_gfi (v := (σ s 4)) rfl (yS_c hs) (yS_0 hs).1 rfl (by decide) rfl rfl ?_
              refine y_ni (as := [(0, (σ (s + 3 + 3 * i) 4)), (0, (σ (s + 3 + 3 * i) 5)), (0, sg), (0, (σ s 6)), (0, (σ s 4))]) (S := [(2, (s + 3 + 3 * i))]) rfl rfl rfl rfl rfl (c_goal (by omega) (by omega) (by omega) (by omega)) ?_
              rintro _ _ ⟨rfl, rfl⟩
              refine y_pfi (j := 5) rfl (yN_c (yS_n (s := s) (i := i) hs (by omega))) (by have := yN_0 (yS_n (s := s) (i := i) hs (by omega)); omega) rfl rfl rfl rfl rfl ?_
              refine y_ret rfl rfl ⟨rfl, ?_⟩
              exact ⟨by unfold mwork; rw [if_neg (by omega), if_neg (by omega), if_neg (by omega), a5, a6, f1, f3]; exact rep_man hr hi (by omega), yfr_set (yfr_refl _ _ _) (by omega)⟩
            · skip
              refine y_aload rfl rfl rfl ?_
              refine y_push rfl ?_
              refine y_pfz (j := 8) rfl (yN_c (yS_n (s := s) (i := i) hs (by omega))) (by have := yN_0 (yS_n (s := s) (i := i) hs (by omega)); omega) rfl rfl rfl rfl rfl (by decide) ?_
              refine y_goto rfl ?_
              refine y_ret rfl rfl ⟨rfl, ?_⟩
              exact ⟨by unfold mwork; rw [if_neg (by omega), if_neg (by omega), if_pos (by omega)]; exact rep_man hr hi (by omega), yfr_set (yfr_refl _ _ _) (by omega)⟩
          · skip
            refine y_iload rfl rfl ?_
            refine y_ifne rfl (fun q49 => ?_) (fun q49 => ?_)
            · skip
              refine y_iload rfl rfl ?_
              refine y_push rfl ?_
              refine y_icne rfl (fun q62 => ?_) (fun q62 => ?_)
              · skip
                refine y_aload rfl rfl rfl ?_
                refine y_aload rfl rfl rfl ?_
                refine y_gfi (v := (σ (s + 3 + 3 * i) 4)) rfl (yN_c (yS_n (s := s) (i := i) hs (by omega))) (by have := yN_0 (yS_n (s := s) (i := i) hs (by omega)); omega) rfl (by decide) rfl rfl ?_
                refine y_aload rfl rfl rfl ?_
                refine y_gfi (v := (σ (s + 3 + 3 * i) 5)) rfl (yN_c (yS_n (s := s) (i := i) hs (by omega))) (by have := yN_0 (yS_n (s := s) (i := i) hs (by omega)); omega) rfl (by decide) rfl rfl ?_
                refine y_iload rfl rfl ?_
                refine y_aload rfl rfl rfl ?_
                refine y_gfi (v := (σ s 6)) rfl (yS_c hs) (yS_0 hs).1 rfl (by decide) rfl rfl ?_
                refine y_aload rfl rfl rfl ?_
                refine y_gfi (v := (σ s 4)) rfl (yS_c hs) (yS_0 hs).1 rfl (by decide) rfl rfl ?_
                refine y_ni (as := [(0, (σ (s + 3 + 3 * i) 4)), (0, (σ (s + 3 + 3 * i) 5)), (0, sg), (0, (σ s 6)), (0, (σ s 4))]) (S := [(2, (s + 3 + 3 * i))]) rfl rfl rfl rfl rfl (c_goal (by omega) (by omega) (by omega) (by omega)) ?_
                rintro _ _ ⟨rfl, rfl⟩
                refine y_pfi (j := 5) rfl (yN_c (yS_n (s := s) (i := i) hs (by omega))) (by have := yN_0 (yS_n (s := s) (i := i) hs (by omega)); omega) rfl rfl rfl rfl rfl ?_
                refine y_ret rfl rfl ⟨rfl, ?_⟩
                exact ⟨by unfold mwork; rw [if_neg (by omega), if_neg (by omega), if_neg (by omega), a5, a6, f1, f3]; exact rep_man hr hi (by omega), yfr_set (yfr_refl _ _ _) (by omega)⟩
              · skip
                refine y_aload rfl rfl rfl ?_
                refine y_push rfl ?_
                refine y_pfz (j := 8) rfl (yN_c (yS_n (s := s) (i := i) hs (by omega))) (by have := yN_0 (yS_n (s := s) (i := i) hs (by omega)); omega) rfl rfl rfl rfl rfl (by decide) ?_
                refine y_goto rfl ?_
                refine y_ret rfl rfl ⟨rfl, ?_⟩
                exact ⟨by unfold mwork; rw [if_neg (by omega), if_neg (by omega), if_pos (by omega)]; exact rep_man hr hi (by omega), yfr_set (yfr_refl _ _ _) (by omega)⟩
            · exfalso; omega
        · exfalso; omega
theorem mfine {E : YS} {i : Int} (h : mfl E i = -1) {j : Int} (h0 : 0 ≤ j) (h1 : j < E 3 i) : (msg E i j = 7 → j + 1 < E 3 i ∧ 0 ≤ mpa E i j ∧ mpa E i j < E 3 i) ∧ (msg E i j = 8 → 0 ≤ mpa E i j ∧ mpa E i j < E 3 i) := by
  have hm : ((mlen E i : Nat) : Int) = E 3 i := by show (((E 3 i).toNat : Nat) : Int) = _; omega
  have := bfine h h0 (by rw [hm]; exact h1)
  rw [hm] at this
  exact this
theorem dG_act {E D : YS} {i : Int} (h : dG E D) (he : eG E) (hi : 0 ≤ i ∧ i < E 1 0) (hz : D 4 i = 0) : dG E (mact E D i) := by
  have ⟨⟨d1, d2⟩, ⟨d3, d4⟩, ⟨d5, d6⟩, d7⟩ := h.2 i hi.1 hi.2
  have ⟨⟨e4, e5⟩, ⟨e6, e7⟩, e8⟩ := he.2.2 i hi.1 hi.2
  have hf := (by omega : 0 < E 3 i ∧ mfl E i = -1)
  unfold mact
  split
  · exact dG_m h hi (by omega)
  have hb := mfine hf.2 (j := D 3 i) (by omega) (by omega)
  split
  · rename_i e
    have := (hb.1 e).2
    refine dG_m h hi (Or.inr (Or.inr (Or.inl ⟨rfl, ?_⟩)))
    split <;> omega
  split
  · rename_i e
    have := hb.2 e
    exact dG_m h hi (Or.inr (Or.inr (Or.inl ⟨rfl, by omega⟩)))
  split
  · exact dG_x h (by omega)
  · exact dG_m (dG_work h he hi) hi (Or.inr (Or.inr (Or.inl ⟨rfl, by omega⟩)))
theorem c_act {g : Launch × XG × va_G} {σ : YS} {s i : Int} {E D : YS} (hs : yS s) (hr : rep σ s E D) (he : eG E) (hd : dG E D) (hn : 0 ≤ D 5 0 ∧ D 5 0 < 1000000) (hi : 0 ≤ i ∧ i < E 1 0) (hz : D 4 i = 0) : YU g 147 [(2, s), (0, i)] σ (fun σ' => rep σ' s E (mact E D i) ∧ yfr σ σ' s (s + 11)) := by
  refine y_start rfl rfl rfl ?_
  have ⟨⟨f1, f2, f3, f4⟩, f5, f6, g7, g8⟩ := hr
  have f7 := mth_7 g7
  have ⟨e1, e2, e3⟩ := he
  have s0 := yS_0 hs
  have ⟨⟨b1, b2, b3, b4⟩, a5, ⟨a6, a7, a8⟩, a9, a10⟩ := f6 i hi.1 hi.2
  have ⟨⟨d1, d2⟩, ⟨d3, d4⟩, ⟨d5, d6⟩, d7⟩ := hd.2 i hi.1 hi.2
  have ⟨⟨e4, e5⟩, ⟨e6, e7⟩, e8⟩ := e3 i hi.1 hi.2
  have w1 : σ (s + 1) (σ (s + 3 + 3 * i) 5) = D 0 (D 1 i) := by rw [a6]; exact f5 _ (by omega) (by omega)
  have w2 := hd.1 (D 1 i) (by omega) (by omega)
  have hf := (by omega : 0 < E 3 i ∧ mfl E i = -1)
  refine y_aload rfl rfl rfl ?_
  refine y_gfr (t := (s + 2)) rfl (yS_c hs) (yS_0 hs).1 rfl (by have := yS_0 hs; omega) ?_
  refine y_iload rfl rfl ?_
  refine y_aald (v := ((s + 3) + 3 * i)) (n := 3) rfl (yS_m hs) (by have := yS_0 hs; omega) rfl (by omega) rfl ?_
  refine y_astore (L' := [some (2, s), some (0, i), some (2, ((s + 3) + 3 * i)), none]) rfl rfl rfl rfl rfl ?_
  refine y_aload rfl rfl rfl ?_
  refine y_gfi (v := (σ ((s + 3) + 3 * i) 7)) rfl (yN_c (yS_n (s := s) (i := i) hs (by omega))) (by have := yN_0 (yS_n (s := s) (i := i) hs (by omega)); omega) rfl (by decide) rfl rfl ?_
  refine y_aload rfl rfl rfl ?_
  refine y_gfi (v := (σ ((s + 3) + 3 * i) 2)) rfl (yN_c (yS_n (s := s) (i := i) hs (by omega))) (by have := yN_0 (yS_n (s := s) (i := i) hs (by omega)); omega) rfl (by decide) rfl rfl ?_
  refine y_iclt rfl (fun q15 => ?_) (fun q15 => ?_)
  · skip
    have hb := mfine hf.2 (j := D 3 i) (by omega) (by omega)
    have w3 : σ (s + 3 + 3 * i + 1) (σ (s + 3 + 3 * i) 7) = msg E i (D 3 i) := by rw [a8]; exact b2 _ (by omega) (by omega)
    have w4 : msg E i (D 3 i) = 7 ∨ msg E i (D 3 i) = 8 → σ (s + 3 + 3 * i + 2) (σ (s + 3 + 3 * i) 7) = mpa E i (D 3 i) := by intro z; rw [a8]; exact b4 hf.2 _ (by omega) (by omega) z
    have w5 := e8 (D 3 i) (by omega) (by omega)
    refine y_aload rfl rfl rfl ?_
    refine y_gfr (t := (((s + 3) + 3 * i) + 1)) rfl (yN_c (yS_n (s := s) (i := i) hs (by omega))) (by have := yN_0 (yS_n (s := s) (i := i) hs (by omega)); omega) rfl (by have := yN_0 (yS_n (s := s) (i := i) hs (by omega)); omega) ?_
    refine y_aload rfl rfl rfl ?_
    refine y_gfi (v := (σ ((s + 3) + 3 * i) 7)) rfl (yN_c (yS_n (s := s) (i := i) hs (by omega))) (by have := yN_0 (yS_n (s := s) (i := i) hs (by omega)); omega) rfl (by decide) rfl rfl ?_
    refine y_iald (v := (σ (((s + 3) + 3 * i) + 1) (σ ((s + 3) + 3 * i) 7))) (n := 24) rfl (yN_s (yS_n (s := s) (i := i) hs (by omega))) (by have := yN_0 (yS_n (s := s) (i := i) hs (by omega)); omega) rfl (by omega) rfl ?_
    refine y_istore (L' := [some (2, s), some (0, i), some (2, ((s + 3) + 3 * i)), some (0, (σ (((s + 3) + 3 * i) + 1) (σ ((s + 3) + 3 * i) 7)))]) rfl rfl rfl rfl ?_
    refine y_iload rfl rfl ?_
    refine y_push rfl ?_
    refine y_icne rfl (fun q37 => ?_) (fun q37 => ?_)
    · skip
      have hb2 := hb.2
      refine y_iload rfl rfl ?_
      refine y_push rfl ?_
      refine y_icne rfl (fun q89 => ?_) (fun q89 => ?_)
      · skip
        refine y_iload rfl rfl ?_
        refine y_push rfl ?_
        refine y_icne rfl (fun q111 => ?_) (fun q111 => ?_)
        · skip
          have wn : ¬ (msg E i (D 3 i) = 6 ∧ E 2 i ≠ 3 ∧ malone E D i) := fun z => by omega
          refine y_aload rfl rfl rfl ?_
          refine y_aload rfl rfl rfl ?_
          refine y_iload rfl rfl ?_
          refine y_vu (as := [(2, s), (2, ((s + 3) + 3 * i)), (0, (σ (((s + 3) + 3 * i) + 1) (σ ((s + 3) + 3 * i) 7)))]) (S := []) rfl rfl rfl rfl rfl rfl (yS_0 hs).1 (yS_c hs) (c_work hs hr he hd hn hi) ?_
          rintro σ' ⟨z1, z2⟩
          rw [w3] at z1
          have wa : σ' (s + 3 + 3 * i) 7 = D 3 i := by rw [(z1.2.2.1 i hi.1 hi.2).2.2.1.2.2, mwork_k (by omega)]
          refine y_aload rfl rfl rfl ?_
          refine y_dup rfl rfl ?_
          refine y_gfi (v := (σ' ((s + 3) + 3 * i) 7)) rfl (yN_c (yS_n (s := s) (i := i) hs (by omega))) (by have := yN_0 (yS_n (s := s) (i := i) hs (by omega)); omega) rfl (by decide) rfl rfl ?_
          refine y_push rfl ?_
          refine y_iadd (v := ((σ' ((s + 3) + 3 * i) 7) + 1)) rfl rfl (by omega) ?_
          refine y_pfi (j := 7) rfl (yN_c (yS_n (s := s) (i := i) hs (by omega))) (by have := yN_0 (yS_n (s := s) (i := i) hs (by omega)); omega) rfl rfl rfl rfl rfl ?_
          refine y_ret rfl rfl ⟨rfl, ?_⟩
          exact ⟨by unfold mact; rw [if_neg (by omega), if_neg (by omega), if_neg (by omega), if_neg wn, wa]; exact rep_man z1 hi (by omega), yfr_set z2 (by omega)⟩
        · skip
          refine y_aload rfl rfl rfl ?_
          refine y_gfi (v := (σ ((s + 3) + 3 * i) 4)) rfl (yN_c (yS_n (s := s) (i := i) hs (by omega))) (by have := yN_0 (yS_n (s := s) (i := i) hs (by omega)); omega) rfl (by decide) rfl rfl ?_
          refine y_push rfl ?_
          refine y_iceq rfl (fun q119 => ?_) (fun q119 => ?_)
          · skip
            have wn : ¬ (msg E i (D 3 i) = 6 ∧ E 2 i ≠ 3 ∧ malone E D i) := fun z => z.2.1 (by omega)
            refine y_aload rfl rfl rfl ?_
            refine y_aload rfl rfl rfl ?_
            refine y_iload rfl rfl ?_
            refine y_vu (as := [(2, s), (2, ((s + 3) + 3 * i)), (0, (σ (((s + 3) + 3 * i) + 1) (σ ((s + 3) + 3 * i) 7)))]) (S := []) rfl rfl rfl rfl rfl rfl (yS_0 hs).1 (yS_c hs) (c_work hs hr he hd hn hi) ?_
            rintro σ' ⟨z1, z2⟩
            rw [w3] at z1
            have wa : σ' (s + 3 + 3 * i) 7 = D 3 i := by rw [(z1.2.2.1 i hi.1 hi.2).2.2.1.2.2, mwork_k (by omega)]
            refine y_aload rfl rfl rfl ?_
            refine y_dup rfl rfl ?_
            refine y_gfi (v := (σ' ((s + 3) + 3 * i) 7)) rfl (yN_c (yS_n (s := s) (i := i) hs (by omega))) (by have := yN_0 (yS_n (s := s) (i := i) hs (by omega)); omega) rfl (by decide) rfl rfl ?_
            refine y_push rfl ?_
            refine y_iadd (v := ((σ' ((s + 3) + 3 * i) 7) + 1)) rfl rfl (by omega) ?_
            refine y_pfi (j := 7) rfl (yN_c (yS_n (s := s) (i := i) hs (by omega))) (by have := yN_0 (yS_n (s := s) (i := i) hs (by omega)); omega) rfl rfl rfl rfl rfl ?_
            refine y_ret rfl rfl ⟨rfl, ?_⟩
            exact ⟨by unfold mact; rw [if_neg (by omega), if_neg (by omega), if_neg (by omega), if_neg wn, wa]; exact rep_man z1 hi (by omega), yfr_set z2 (by omega)⟩
          · skip
            refine y_aload rfl rfl rfl ?_
            refine y_iload rfl rfl ?_
            refine y_vi (as := [(2, s), (0, i)]) (S := []) rfl rfl rfl rfl rfl rfl (yS_0 hs).1 (yS_c hs) (c_alone hs hr he hd hn hi) ?_
            rintro _ _ ⟨rfl, rfl⟩
            refine y_ifeq rfl (fun q127 => ?_) (fun q127 => ?_)
            · skip
              replace q127 := yb_0.mp q127
              have wn : ¬ (msg E i (D 3 i) = 6 ∧ E 2 i ≠ 3 ∧ malone E D i) := fun z => q127 z.2.2
              refine y_aload rfl rfl rfl ?_
              refine y_aload rfl rfl rfl ?_
              refine y_iload rfl rfl ?_
              refine y_vu (as := [(2, s), (2, ((s + 3) + 3 * i)), (0, (σ (((s + 3) + 3 * i) + 1) (σ ((s + 3) + 3 * i) 7)))]) (S := []) rfl rfl rfl rfl rfl rfl (yS_0 hs).1 (yS_c hs) (c_work hs hr he hd hn hi) ?_
              rintro σ' ⟨z1, z2⟩
              rw [w3] at z1
              have wa : σ' (s + 3 + 3 * i) 7 = D 3 i := by rw [(z1.2.2.1 i hi.1 hi.2).2.2.1.2.2, mwork_k (by omega)]
              refine y_aload rfl rfl rfl ?_
              refine y_dup rfl rfl ?_
              refine y_gfi (v := (σ' ((s + 3) + 3 * i) 7)) rfl (yN_c (yS_n (s := s) (i := i) hs (by omega))) (by have := yN_0 (yS_n (s := s) (i := i) hs (by omega)); omega) rfl (by decide) rfl rfl ?_
              refine y_push rfl ?_
              refine y_iadd (v := ((σ' ((s + 3) + 3 * i) 7) + 1)) rfl rfl (by omega) ?_
              refine y_pfi (j := 7) rfl (yN_c (yS_n (s := s) (i := i) hs (by omega))) (by have := yN_0 (yS_n (s := s) (i := i) hs (by omega)); omega) rfl rfl rfl rfl rfl ?_
              refine y_ret rfl rfl ⟨rfl, ?_⟩
              exact ⟨by unfold mact; rw [if_neg (by omega), if_neg (by omega), if_neg (by omega), if_neg wn, wa]; exact rep_man z1 hi (by omega), yfr_set z2 (by omega)⟩
            · skip
              replace q127 := yb_1.mp q127
              refine y_aload rfl rfl rfl ?_
              refine y_dup rfl rfl ?_
              refine y_gfi (v := (σ s 7)) rfl (yS_c hs) (yS_0 hs).1 rfl (by decide) rfl rfl ?_
              refine y_push rfl ?_
              refine y_iload rfl rfl ?_
              refine y_ishl (v := (yshl 1 i)) rfl rfl ?_
              refine y_ior (v := (yor (σ s 7) (yshl 1 i))) rfl rfl ?_
              refine y_pfi (j := 7) rfl (yS_c hs) (yS_0 hs).1 rfl rfl rfl rfl rfl ?_
              refine y_goto rfl ?_
              refine y_ret rfl rfl ⟨rfl, ?_⟩
              exact ⟨by unfold mact; rw [if_neg (by omega), if_neg (by omega), if_neg (by omega), if_pos ⟨by omega, by omega, q127⟩, f4]; exact rep_wait hr, yfr_set (yfr_refl _ _ _) (by omega)⟩
      · skip
        have hb3 := hb.2 (by omega)
        have w7 := w4 (by omega)
        refine y_aload rfl rfl rfl ?_
        refine y_aload rfl rfl rfl ?_
        refine y_gfr (t := (((s + 3) + 3 * i) + 2)) rfl (yN_c (yS_n (s := s) (i := i) hs (by omega))) (by have := yN_0 (yS_n (s := s) (i := i) hs (by omega)); omega) rfl (by have := yN_0 (yS_n (s := s) (i := i) hs (by omega)); omega) ?_
        refine y_aload rfl rfl rfl ?_
        refine y_gfi (v := (σ ((s + 3) + 3 * i) 7)) rfl (yN_c (yS_n (s := s) (i := i) hs (by omega))) (by have := yN_0 (yS_n (s := s) (i := i) hs (by omega)); omega) rfl (by decide) rfl rfl ?_
        refine y_iald (v := (σ (((s + 3) + 3 * i) + 2) (σ ((s + 3) + 3 * i) 7))) (n := 24) rfl (yN_p (yS_n (s := s) (i := i) hs (by omega))) (by have := yN_0 (yS_n (s := s) (i := i) hs (by omega)); omega) rfl (by omega) rfl ?_
        refine y_pfi (j := 7) rfl (yN_c (yS_n (s := s) (i := i) hs (by omega))) (by have := yN_0 (yS_n (s := s) (i := i) hs (by omega)); omega) rfl rfl rfl rfl rfl ?_
        refine y_goto rfl ?_
        refine y_ret rfl rfl ⟨rfl, ?_⟩
        refine ⟨?_, yfr_set (yfr_refl _ _ _) (by omega)⟩
        unfold mact
        rw [if_neg (by omega)]
        rw [if_neg (by omega), if_pos (by omega), w4 (by omega)]
        exact rep_man hr hi (by omega)
    · skip
      have hb1 := hb.1 (by omega)
      have w6 : σ (s + 3 + 3 * i + 1) (σ (s + 3 + 3 * i) 7 + 1) = msg E i (D 3 i + 1) := by rw [a8]; exact b2 _ (by omega) (by omega)
      refine y_aload rfl rfl rfl ?_
      refine y_aload rfl rfl rfl ?_
      refine y_aload rfl rfl rfl ?_
      refine y_aload rfl rfl rfl ?_
      refine y_gfr (t := (((s + 3) + 3 * i) + 1)) rfl (yN_c (yS_n (s := s) (i := i) hs (by omega))) (by have := yN_0 (yS_n (s := s) (i := i) hs (by omega)); omega) rfl (by have := yN_0 (yS_n (s := s) (i := i) hs (by omega)); omega) ?_
      refine y_aload rfl rfl rfl ?_
      refine y_gfi (v := (σ ((s + 3) + 3 * i) 7)) rfl (yN_c (yS_n (s := s) (i := i) hs (by omega))) (by have := yN_0 (yS_n (s := s) (i := i) hs (by omega)); omega) rfl (by decide) rfl rfl ?_
      refine y_push rfl ?_
      refine y_iadd (v := ((σ ((s + 3) + 3 * i) 7) + 1)) rfl rfl (by omega) ?_
      refine y_iald (v := (σ (((s + 3) + 3 * i) + 1) ((σ ((s + 3) + 3 * i) 7) + 1))) (n := 24) rfl (yN_s (yS_n (s := s) (i := i) hs (by omega))) (by have := yN_0 (yS_n (s := s) (i := i) hs (by omega)); omega) rfl (by omega) rfl ?_
      refine y_vi (as := [(2, s), (2, ((s + 3) + 3 * i)), (0, (σ (((s + 3) + 3 * i) + 1) ((σ ((s + 3) + 3 * i) 7) + 1)))]) (S := [(2, ((s + 3) + 3 * i))]) rfl rfl rfl rfl rfl rfl (yS_0 hs).1 (yS_c hs) (c_holds hs hr he hd hn hi) ?_
      rintro _ _ ⟨rfl, rfl⟩
      refine y_ifeq rfl (fun q57 => ?_) (fun q57 => ?_)
      · skip
        replace q57 := yb_0.mp q57
        rw [w6] at q57
        have w7 := w4 (by omega)
        refine y_aload rfl rfl rfl ?_
        refine y_gfr (t := (((s + 3) + 3 * i) + 2)) rfl (yN_c (yS_n (s := s) (i := i) hs (by omega))) (by have := yN_0 (yS_n (s := s) (i := i) hs (by omega)); omega) rfl (by have := yN_0 (yS_n (s := s) (i := i) hs (by omega)); omega) ?_
        refine y_aload rfl rfl rfl ?_
        refine y_gfi (v := (σ ((s + 3) + 3 * i) 7)) rfl (yN_c (yS_n (s := s) (i := i) hs (by omega))) (by have := yN_0 (yS_n (s := s) (i := i) hs (by omega)); omega) rfl (by decide) rfl rfl ?_
        refine y_iald (v := (σ (((s + 3) + 3 * i) + 2) (σ ((s + 3) + 3 * i) 7))) (n := 24) rfl (yN_p (yS_n (s := s) (i := i) hs (by omega))) (by have := yN_0 (yS_n (s := s) (i := i) hs (by omega)); omega) rfl (by omega) rfl ?_
        refine y_push rfl ?_
        refine y_iadd (v := ((σ (((s + 3) + 3 * i) + 2) (σ ((s + 3) + 3 * i) 7)) + 1)) rfl rfl (by omega) ?_
        refine y_pfi (j := 7) rfl (yN_c (yS_n (s := s) (i := i) hs (by omega))) (by have := yN_0 (yS_n (s := s) (i := i) hs (by omega)); omega) rfl rfl rfl rfl rfl ?_
        refine y_goto rfl ?_
        refine y_ret rfl rfl ⟨rfl, ?_⟩
        refine ⟨?_, yfr_set (yfr_refl _ _ _) (by omega)⟩
        unfold mact
        rw [if_neg (by omega)]
        rw [if_pos (by omega), if_neg q57, w4 (by omega)]
        exact rep_man hr hi (by omega)
      · skip
        replace q57 := yb_1.mp q57
        rw [w6] at q57
        refine y_aload rfl rfl rfl ?_
        refine y_gfi (v := (σ ((s + 3) + 3 * i) 7)) rfl (yN_c (yS_n (s := s) (i := i) hs (by omega))) (by have := yN_0 (yS_n (s := s) (i := i) hs (by omega)); omega) rfl (by decide) rfl rfl ?_
        refine y_push rfl ?_
        refine y_iadd (v := ((σ ((s + 3) + 3 * i) 7) + 2)) rfl rfl (by omega) ?_
        refine y_goto rfl ?_
        refine y_pfi (j := 7) rfl (yN_c (yS_n (s := s) (i := i) hs (by omega))) (by have := yN_0 (yS_n (s := s) (i := i) hs (by omega)); omega) rfl rfl rfl rfl rfl ?_
        refine y_goto rfl ?_
        refine y_ret rfl rfl ⟨rfl, ?_⟩
        refine ⟨?_, yfr_set (yfr_refl _ _ _) (by omega)⟩
        unfold mact
        rw [if_neg (by omega)]
        rw [if_pos (by omega), if_pos q57, a8]
        exact rep_man hr hi (by omega)
  · skip
    refine y_aload rfl rfl rfl ?_
    refine y_push rfl ?_
    refine y_pfz (j := 8) rfl (yN_c (yS_n (s := s) (i := i) hs (by omega))) (by have := yN_0 (yS_n (s := s) (i := i) hs (by omega)); omega) rfl rfl rfl rfl rfl (by decide) ?_
    refine y_ret rfl rfl ⟨rfl, ?_⟩
    exact ⟨by unfold mact; rw [if_pos (by omega)]; exact rep_man hr hi (by omega), yfr_set (yfr_refl _ _ _) (by omega)⟩
theorem mact_k {E D : YS} {i r c : Int} (hr : r = 5 ∨ 7 ≤ r) : mact E D i r c = D r c := by
  unfold mact
  split
  · exact yne (by omega) rfl
  split
  · exact yne (by omega) rfl
  split
  · exact yne (by omega) rfl
  split
  · exact yne (by omega) rfl
  · rw [yne (by omega) rfl, mwork_k (by omega)]
theorem macts_k {E D : YS} {r c : Int} (hr : r = 5 ∨ 7 ≤ r) : ∀ n : Nat, macts E D n r c = D r c
  | 0 => rfl
  | n + 1 => by
    unfold macts
    split
    · rw [mact_k hr, macts_k hr n]
    · exact macts_k hr n
theorem dG_acts {E D : YS} (h : dG E D) (he : eG E) : ∀ n : Nat, (n : Int) ≤ E 1 0 → dG E (macts E D n)
  | 0, _ => h
  | n + 1, hn => by
    have ih := dG_acts h he n (by omega)
    unfold macts
    split
    · rename_i z
      exact dG_act ih he ⟨by omega, by omega⟩ z.1
    · exact ih
theorem mstep_5 {E D : YS} : mstep E D 5 0 = D 5 0 + 1 := by
  unfold mstep
  rw [yeq, macts_k (by omega), yne (by omega) rfl]
theorem dG_step {E D : YS} (h : dG E D) (he : eG E) : dG E (mstep E D) := by
  have := he.2.1
  exact dG_x (dG_acts (dG_x h (by omega)) he _ (by omega)) (by omega)
theorem macts_s {E D : YS} {i : Int} (h : 0 ≤ i) : macts E D (i + 1).toNat = if macts E D i.toNat 4 i = 0 ∧ mth E i then mact E (macts E D i.toNat) i else macts E D i.toNat := by
  rw [show (i + 1).toNat = i.toNat + 1 by omega]
  show (if macts E D i.toNat 4 (i.toNat : Int) = 0 ∧ mth E (i.toNat : Int) then mact E (macts E D i.toNat) (i.toNat : Int) else _) = _
  rw [show ((i.toNat : Nat) : Int) = i by omega]
theorem maw_go {σ : YS} {s : Int} {E D : YS} (hm : E 1 0 ≤ 3) (h : rep σ s E D) : ∀ n : Nat, (n : Int) ≤ E 1 0 → maw σ s n = mgo E D n
  | 0, _ => rfl
  | n + 1, hn => by
    unfold maw mgo
    rw [maw_go hm h n (by omega)]
    have h4 := (h.2.2.1 n (by omega) (by omega)).2.2.2.1
    have h5 := mth_7 h.2.2.2.1 n (by omega) (by omega)
    by_cases z : mst σ (s + 3 + 3 * n)
    · rw [if_pos z, if_neg (fun y => h4.mp y.1 z)]
    · rw [if_neg z, if_pos ⟨h4.mpr z, h5⟩]
theorem l_advance {g : Launch × XG × va_G} {σ : YS} {s : Int} {E D : YS} (hs : yS s) (he : eG E) : ∀ (nn : Nat) (τ : YS) (C : YS) (i : Int), E 1 0 - i < (nn : Int) → (0 ≤ i) → (i ≤ E 1 0) → (rep τ s E C) → (dG E C) → (C = macts E (yset D 6 0 0) i.toNat) → (yfr σ τ s (s + 11)) → (0 ≤ C 5 0 ∧ C 5 0 < 1000000) → YW g 51 7 [some (2, s), some (0, i)] [] τ (fun rv σ' => ∃ b, rv = some (0, b) ∧ (rep σ' s E (mstep E D) ∧ mgo E (mstep E D) (E 1 0).toNat = b ∧ yfr σ σ' s (s + 11))) := by
  intro nn
  induction nn with
  | zero =>
    intro τ C i hn h0 h1 h2 h3 h4 h5 h6
    exfalso
    omega
  | succ nn ih =>
    intro τ C i hn h0 h1 h2 h3 h4 h5 h6
    have ⟨⟨f1, f2, f3, f4⟩, f5, f6, g7, g8⟩ := h2
    have f7 := mth_7 g7
    have ⟨e1, e2, e3⟩ := he
    have s0 := yS_0 hs
    refine y_iload rfl rfl ?_
    refine y_aload rfl rfl rfl ?_
    refine y_gfi (v := (τ s 5)) rfl (yS_c hs) (yS_0 hs).1 rfl (by decide) rfl rfl ?_
    refine y_icge rfl (fun q12 => ?_) (fun q12 => ?_)
    · skip
      refine y_aload rfl rfl rfl ?_
      refine y_dup rfl rfl ?_
      refine y_gfi (v := (τ s 6)) rfl (yS_c hs) (yS_0 hs).1 rfl (by decide) rfl rfl ?_
      refine y_push rfl ?_
      refine y_iadd (v := ((τ s 6) + 1)) rfl rfl (by omega) ?_
      refine y_pfi (j := 6) rfl (yS_c hs) (yS_0 hs).1 rfl rfl rfl rfl rfl ?_
      refine y_aload rfl rfl rfl ?_
      refine y_vi (as := [(2, s)]) (S := []) rfl rfl rfl rfl rfl rfl (yS_0 hs).1 (yS_c hs) (c_awake hs (by rw [yne (by omega) rfl]; omega)) ?_
      rintro _ _ ⟨rfl, rfl⟩
      refine y_iret rfl rfl ⟨_, rfl, ?_⟩
      have hC : C = macts E (yset D 6 0 0) (E 1 0).toNat := by rw [h4, show (i : Int) = E 1 0 by omega]
      have hR : rep (yset τ s 6 (τ s 6 + 1)) s E (mstep E D) := by unfold mstep; rw [← hC, f3]; exact rep_num h2
      have hq : mgo E (mstep E D) (E 1 0).toNat = maw (yset τ s 6 (τ s 6 + 1)) s (yset τ s 6 (τ s 6 + 1) s 5).toNat := by rw [hR.1.2.1]; exact (maw_go e2.2 hR _ (by omega)).symm
      exact ⟨hR, hq, yfr_set h5 (by omega)⟩
    · skip
      have ⟨⟨b1, b2, b3, b4⟩, a5, ⟨a6, a7, a8⟩, a9, a10⟩ := f6 i (by omega) (by omega)
      refine y_aload rfl rfl rfl ?_
      refine y_gfr (t := (s + 2)) rfl (yS_c hs) (yS_0 hs).1 rfl (by have := yS_0 hs; omega) ?_
      refine y_iload rfl rfl ?_
      refine y_aald (v := ((s + 3) + 3 * i)) (n := 3) rfl (yS_m hs) (by have := yS_0 hs; omega) rfl (by omega) rfl ?_
      refine y_vi (as := [(2, ((s + 3) + 3 * i))]) (S := []) rfl rfl rfl rfl rfl rfl (by have := yN_0 (yS_n (s := s) (i := i) hs (by omega)); omega) (yN_c (yS_n (s := s) (i := i) hs (by omega))) (c_hasStopped (yS_n (s := s) (i := i) hs (by omega))) ?_
      rintro _ _ ⟨rfl, rfl⟩
      refine y_ifne rfl (fun q24 => ?_) (fun q24 => ?_)
      · skip
        replace q24 := yb_1.mp q24
        refine y_iinc (L' := [some (2, s), some (0, (i + 1))]) rfl rfl rfl rfl rfl (by omega) ?_
        refine y_goto rfl ?_
        exact ih τ C (i + 1) (by omega) (by omega) (by omega) h2 h3 (by rw [macts_s h0, ← h4, if_neg (fun y => a9.mp y.1 q24)]) h5 h6
      · skip
        replace q24 := yb_0.mp q24
        refine y_aload rfl rfl rfl ?_
        refine y_iload rfl rfl ?_
        refine y_vu (as := [(2, s), (0, i)]) (S := []) rfl rfl rfl rfl rfl rfl (yS_0 hs).1 (yS_c hs) (c_act hs h2 he h3 h6 ⟨by omega, by omega⟩ (a9.mpr q24)) ?_
        rintro σ' ⟨z1, z2⟩
        refine y_iinc (L' := [some (2, s), some (0, (i + 1))]) rfl rfl rfl rfl rfl (by omega) ?_
        refine y_goto rfl ?_
        exact ih σ' (mact E C i) (i + 1) (by omega) (by omega) (by omega) z1 (dG_act h3 he ⟨by omega, by omega⟩ (a9.mpr q24)) (by rw [macts_s h0, ← h4, if_pos ⟨a9.mpr q24, f7 i (by omega) (by omega)⟩]) (yfr_trans h5 z2) (by rw [mact_k (by omega)]; exact h6)
theorem c_advance {g : Launch × XG × va_G} {σ : YS} {s : Int} {E D : YS} (hs : yS s) (hr : rep σ s E D) (he : eG E) (hd : dG E D) (hn : 0 ≤ D 5 0 ∧ D 5 0 < 1000000) : YI g 51 [(2, s)] σ (fun b σ' => rep σ' s E (mstep E D) ∧ mgo E (mstep E D) (E 1 0).toNat = b ∧ yfr σ σ' s (s + 11)) := by
  refine y_start rfl rfl rfl ?_
  have ⟨⟨f1, f2, f3, f4⟩, f5, f6, g7, g8⟩ := hr
  have f7 := mth_7 g7
  have ⟨e1, e2, e3⟩ := he
  have s0 := yS_0 hs
  refine y_aload rfl rfl rfl ?_
  refine y_push rfl ?_
  refine y_pfi (j := 7) rfl (yS_c hs) (yS_0 hs).1 rfl rfl rfl rfl rfl ?_
  refine y_push rfl ?_
  refine y_istore (L' := [some (2, s), some (0, 0)]) rfl rfl rfl rfl ?_
  exact l_advance hs he 4 _ (yset D 6 0 0) 0 (by omega) (by omega) (by omega) (rep_wait hr) (dG_x hd (by omega)) rfl (yfr_set (yfr_refl _ _ _) (by omega)) (by rw [yne (by omega) rfl]; exact hn)
theorem dG_steps {E D : YS} (h : dG E D) (he : eG E) : ∀ n : Nat, dG E (msteps E D n)
  | 0 => h
  | n + 1 => dG_step (dG_steps h he n) he
theorem msteps_5 {E D : YS} : ∀ n : Nat, msteps E D n 5 0 = D 5 0 + n
  | 0 => by show D 5 0 = _; omega
  | n + 1 => by show mstep E (msteps E D n) 5 0 = _; rw [mstep_5, msteps_5 n]; omega
theorem l_advanceBy {g : Launch × XG × va_G} {σ : YS} {s m : Int} {E D : YS} (hs : yS s) (he : eG E) (hd : dG E D) (hn : 0 ≤ D 5 0 ∧ D 5 0 + m < 1000000) (hm : 0 ≤ m) : ∀ (nn : Nat) (τ : YS) (t : Int), m - t < (nn : Int) → (0 ≤ t) → (t ≤ m) → (rep τ s E (msteps E D t.toNat)) → (yfr σ τ s (s + 11)) → YW g 111 2 [some (2, s), some (0, m), some (0, t)] [] τ (fun rv σ' => rv = none ∧ (rep σ' s E (msteps E D m.toNat) ∧ yfr σ σ' s (s + 11))) := by
  intro nn
  induction nn with
  | zero =>
    intro τ t hn h0 h1 h2 h3
    exfalso
    omega
  | succ nn ih =>
    intro τ t hn h0 h1 h2 h3
    refine y_iload rfl rfl ?_
    refine y_iload rfl rfl ?_
    refine y_icge rfl (fun q4 => ?_) (fun q4 => ?_)
    · skip
      refine y_ret rfl rfl ⟨rfl, ?_⟩
      exact ⟨by rw [show m = t by omega]; exact h2, h3⟩
    · skip
      refine y_aload rfl rfl rfl ?_
      refine y_vi (as := [(2, s)]) (S := []) rfl rfl rfl rfl rfl rfl (yS_0 hs).1 (yS_c hs) (c_advance hs h2 he (dG_steps hd he _) (by rw [msteps_5]; omega)) ?_
      rintro _ σ' ⟨z1, rfl, z2⟩
      refine y_pop rfl rfl ?_
      refine y_iinc (L' := [some (2, s), some (0, m), some (0, (t + 1))]) rfl rfl rfl rfl rfl (by omega) ?_
      refine y_goto rfl ?_
      exact ih σ' (t + 1) (by omega) (by omega) (by omega) (by rw [show (t + 1).toNat = t.toNat + 1 by omega]; exact z1) (yfr_trans h3 z2)
theorem c_advanceBy {g : Launch × XG × va_G} {σ : YS} {s m : Int} {E D : YS} (hs : yS s) (hr : rep σ s E D) (he : eG E) (hd : dG E D) (hn : 0 ≤ D 5 0 ∧ D 5 0 + m < 1000000) (hm : 0 ≤ m) : YU g 111 [(2, s), (0, m)] σ (fun σ' => rep σ' s E (msteps E D m.toNat) ∧ yfr σ σ' s (s + 11)) := by
  refine y_start rfl rfl rfl ?_
  refine y_push rfl ?_
  refine y_istore (L' := [some (2, s), some (0, m), some (0, 0)]) rfl rfl rfl rfl ?_
  exact l_advanceBy hs he hd hn hm (m.toNat + 1) σ 0 (by omega) (by omega) (by omega) hr (yfr_refl _ _ _)
