theorem rmi_cong {σ σ' : YS} {E D : YS} {i : Int} (hi : 0 ≤ i ∧ i < 3) (h3 : E 3 i ≤ 24) (h : rmi σ E D i) (e1 : ∀ x, 555 ≤ x → x ≤ 559 → σ' x i = σ x i) (e2 : σ' 548 (11 + i) = σ 548 (11 + i)) (e3 : ∀ x y, x = 560 ∨ x = 561 → 25 * i ≤ y → y < 25 * i + 24 → σ' x y = σ x y) : rmi σ' E D i := by
  obtain ⟨⟨g1, g2, g3, g4⟩, ⟨g5, g6⟩, g7, g8⟩ := h
  refine ⟨⟨?_, ?_, ?_, ?_⟩, ⟨?_, ?_⟩, fun k a b => ?_, fun z k a b c => ?_⟩
  · rw [e1 _ (by omega) (by omega)]; exact g1
  · rw [e1 _ (by omega) (by omega)]; exact g2
  · rw [e1 _ (by omega) (by omega)]; exact g3
  · rw [e1 _ (by omega) (by omega)]; exact g4
  · rw [e1 _ (by omega) (by omega)]; exact g5
  · rw [e2]; exact g6
  · rw [e3 _ _ (by omega) (by omega) (by omega)]; exact g7 k a b
  · rw [e3 _ _ (by omega) (by omega) (by omega)]; exact g8 z k a b c
theorem rm_548 {σ : YS} {E D : YS} {y v : Int} (h3 : E 1 0 ≤ 3) (h : rm σ E D) (hy : y ≠ 0 ∧ (y < 10 ∨ 13 < y)) : rm (yset σ 548 y v) E D := by
  obtain ⟨⟨h1, h2, h4⟩, h5, h6, h7⟩ := h
  refine ⟨⟨by rw [yne (by omega) rfl]; exact h1, by rw [yne (by omega) rfl]; exact h2, by rw [yne (by omega) rfl]; exact h4⟩, fun c a b => by rw [yne (by omega) rfl]; exact h5 c a b, fun i a b => ?_, fun q a b => by rw [yne (by omega) rfl]; exact h7 q a b⟩
  obtain ⟨⟨g1, g2, g3, g4⟩, ⟨g5, g6⟩, g7, g8⟩ := h6 i a b
  exact ⟨⟨by rw [yne (by omega) rfl]; exact g1, by rw [yne (by omega) rfl]; exact g2, by rw [yne (by omega) rfl]; exact g3, by rw [yne (by omega) rfl]; exact g4⟩, ⟨by rw [yne (by omega) rfl]; exact g5, by rw [yne (by omega) rfl]; exact g6⟩, fun k a b => by rw [yne (by omega) rfl]; exact g7 k a b, fun z k a b c => by rw [yne (by omega) rfl]; exact g8 z k a b c⟩
theorem yshl_c {c : Int} (h : 0 ≤ c ∧ c ≤ 3) : 1 ≤ yshl 1 c ∧ yshl 1 c ≤ 8 := by
  rcases (by omega : c = 0 ∨ c = 1 ∨ c = 2 ∨ c = 3) with rfl | rfl | rfl | rfl <;> decide
theorem yshl_q {c q : Int} (h : 0 ≤ c ∧ c ≤ 3) (hq : 0 ≤ q ∧ q < c) : yand (yshr (yshl 1 c - 1) q) 1 = 1 := by
  rcases (by omega : (c = 1 ∧ q = 0) ∨ (c = 2 ∧ q = 0) ∨ (c = 2 ∧ q = 1) ∨ (c = 3 ∧ q = 0) ∨ (c = 3 ∧ q = 1) ∨ (c = 3 ∧ q = 2)) with ⟨rfl, rfl⟩ | ⟨rfl, rfl⟩ | ⟨rfl, rfl⟩ | ⟨rfl, rfl⟩ | ⟨rfl, rfl⟩ | ⟨rfl, rfl⟩ <;> decide
theorem l_layNow3 {g : Launch × XG × va_G} {σ : YS} {E D : YS}  {m : Int} {nn0 : Nat} (ihO : ∀ (τ : YS) (m : Int), 3 - m < (nn0 : Int) → (0 ≤ m ∧ m ≤ 3) → (∀ c, 0 ≤ c → c < 9 → τ 554 c = D 0 c) → (∀ i, 0 ≤ i → i < m → i < E 1 0 → rmi τ E D i) → mfs σ τ → YW g 55 30 [some (2, 547), some (0, m), none] [] τ (fun rv σ' => rv = none ∧ (rm σ' E D ∧ mfs σ σ'))) (hz : mzs σ 0 E D) (he : eG E) (hd : dG E D) (h67 : E 6 0 = 7) (hm : 0 ≤ m ∧ m < 3) (hnn : 3 - m < (nn0 : Int) + 1) : ∀ (nn : Nat) (τ : YS) (k : Int), σ 548 (26 + m) - k < (nn : Int) → (0 ≤ k ∧ k ≤ σ 548 (26 + m)) → (∀ c, 0 ≤ c → c < 9 → τ 554 c = D 0 c) → (∀ i, 0 ≤ i → i < m → i < E 1 0 → rmi τ E D i) → ((τ 555 m = σ 548 (14 + m) ∧ τ 556 m = σ 548 (17 + m) ∧ τ 557 m = σ 548 (20 + m) ∧ τ 558 m = (if m < E 1 0 then D 4 m else 1) ∧ τ 559 m = σ 548 (26 + m))) → (∀ j, 0 ≤ j → j < k → τ 560 (25 * m + j) = σ 548 (29 + 24 * m + j)) → (mfs σ τ) → YW g 55 108 [some (2, 547), some (0, m), some (0, k)] [] τ (fun rv σ' => rv = none ∧ (rm σ' E D ∧ mfs σ σ')) := by
  intro nn
  induction nn with
  | zero =>
    intro τ k hn h0 h1 h2 h3 h4 h5
    exfalso
    omega
  | succ nn ih =>
    intro τ k hn h0 h1 h2 h3 h4 h5
    have ⟨⟨f1, f2, f3⟩, f5, f6, f7, f8⟩ := hz
    have ⟨e1, e2, e3⟩ := he
    have f10 : σ 548 0 = E 0 0 := f1
    have f20 : σ 548 10 = E 1 0 := f2
    have f30 : σ 548 105 = D 5 0 := f3
    have f50 : ∀ c, 0 ≤ c → c < 9 → σ 548 (1 + c) = D 0 c := f5
    have sz : 0 ≤ σ 548 (26 + m) ∧ σ 548 (26 + m) ≤ 24 := by
      rcases (by omega : m < E 1 0 ∨ E 1 0 ≤ m) with z | z
      · have b5 : σ 548 (26 + m) = E 3 m := (f6 m (by omega) z).2.1
        have := (e3 m (by omega) z).2.1
        omega
      · have : σ 548 (26 + m) = 0 := f7 m z (by omega)
        omega
    have t0 : ∀ y, y ≤ 1581 → τ 548 y = σ 548 y := fun y a => h5 548 y (by omega)
    refine y_iload rfl rfl ?_
    refine y_aload rfl rfl rfl ?_
    refine y_gfr (t := 559) rfl rfl (by decide) rfl (by decide) ?_
    refine y_iload rfl rfl ?_
    refine y_iald (v := (τ 559 m)) (n := 3) rfl rfl (by decide) rfl (by omega) rfl ?_
    refine y_icge rfl (fun q115 => ?_) (fun q115 => ?_)
    · skip
      refine y_aload rfl rfl rfl ?_
      refine y_iload rfl rfl ?_
      have kn : k = σ 548 (26 + m) := by omega
      refine y_vi (as := [(2, 547), (0, m)]) (S := []) rfl rfl rfl rfl rfl rfl (by decide) rfl (m_layAgainst (n := σ 548 (26 + m)) (f := (fun k => σ 548 (29 + 24 * m + k))) (by omega) h3.2.2.2.2 sz (fun j a b => h4 j a (by omega))) ?_
      rintro b_ σ1 ⟨y1, y2⟩
      have fy : mfs τ σ1 := fun x y hx => y2 x y (by omega) (by omega)
      refine y_pop rfl rfl ?_
      refine y_iinc (L' := [some (2, 547), some (0, (m + 1)), some (0, k)]) rfl rfl rfl rfl rfl (by omega) ?_
      refine y_goto rfl ?_
      refine y_forget (M := [some (2, 547), some (0, (m + 1)), none]) ⟨Or.inr rfl, Or.inr rfl, Or.inl rfl, trivial⟩ ?_
      refine ihO σ1 (m + 1) (by omega) (by omega) (fun c a b => by rw [y2 _ _ (by omega) (by omega)]; exact h1 c a b) (fun i a b c => ?_) (mfs_t h5 fy)
      by_cases e : i = m
      · subst e
        have ⟨⟨b1, b2, b3, b4⟩, b5, b6, b7, b8⟩ := f6 i (by omega) c
        have b5 : σ 548 (26 + i) = E 3 i := b5
        have b6 : ∀ k, 0 ≤ k → k < E 3 i → σ 548 (29 + 24 * i + k) = msg E i k := b6
        obtain ⟨c1, c2, c3, c4, c5⟩ := h3
        rw [if_pos c] at c4
        refine ⟨⟨?_, ?_, ?_, ?_⟩, ⟨?_, ?_⟩, fun k x y => ?_, fun z k x y q => ?_⟩
        · rw [y2 _ _ (by omega) (by omega), c1]; exact b2
        · rw [y2 _ _ (by omega) (by omega), c2]; exact b3
        · rw [y2 _ _ (by omega) (by omega), c3]; exact b4
        · rw [y2 _ _ (by omega) (by omega)]; exact c4
        · rw [y2 _ _ (by omega) (by omega), c5]; exact b5
        · rw [y2 _ _ (by omega) (by omega), t0 _ (by omega)]; exact b1
        · rw [y2 _ _ (by omega) (by omega), h4 k x (by omega)]; exact b6 k x y
        · have d4 := (hd.2 i (by omega) c).2.2.2
          have hfl : mfl E i = -1 := by omega
          have cg : ∀ j, 0 ≤ j → j < (E 3 i).toNat → (fun k => σ 548 (29 + 24 * i + k)) j = msg E i j := fun j p q => b6 j (by omega) (by omega)
          have hfl2 : bflaw (fun k => σ 548 (29 + 24 * i + k)) (σ 548 (26 + i)).toNat = -1 := by rw [b5, ← hfl]; exact bflaw_cong cg
          rcases y1 with ⟨_, _, y1⟩ | ⟨_, y1⟩
          · have := y1 k x (by omega) (by show σ 548 (29 + 24 * i + k) = 7 ∨ σ 548 (29 + 24 * i + k) = 8; rw [b6 k x y]; exact q)
            rw [this, b5]
            show bp _ _ k = bp _ _ k
            rw [(bcong _ cg).2.2.2.1]
          · exact absurd hfl2 y1
      · exact rmi_cong (by omega) (e3 i a c).2.1.2 (h2 i a (by omega) c) (fun x _ _ => y2 _ _ (by omega) (by omega)) (y2 _ _ (by omega) (by omega)) (fun x y hx _ _ => y2 _ _ (by omega) (by omega))
    · skip
      refine y_aload rfl rfl rfl ?_
      refine y_gfr (t := 560) rfl rfl (by decide) rfl (by decide) ?_
      refine y_push rfl ?_
      refine y_iload rfl rfl ?_
      refine y_imul (v := (25 * m)) rfl rfl (by omega) ?_
      refine y_iload rfl rfl ?_
      refine y_iadd (v := ((25 * m) + k)) rfl rfl (by omega) ?_
      refine y_aload rfl rfl rfl ?_
      refine y_gfr (t := 548) rfl rfl (by decide) rfl (by decide) ?_
      refine y_push rfl ?_
      refine y_push rfl ?_
      refine y_iload rfl rfl ?_
      refine y_imul (v := (24 * m)) rfl rfl (by omega) ?_
      refine y_iadd (v := (29 + (24 * m))) rfl rfl (by omega) ?_
      refine y_iload rfl rfl ?_
      refine y_iadd (v := ((29 + (24 * m)) + k)) rfl rfl (by omega) ?_
      refine y_iald (v := (τ 548 ((29 + (24 * m)) + k))) (n := 2108) rfl rfl (by decide) rfl (by omega) rfl ?_
      refine y_iast (n := 75) rfl rfl (by decide) rfl (by omega) ?_
      refine y_iinc (L' := [some (2, 547), some (0, m), some (0, (k + 1))]) rfl rfl rfl rfl rfl (by omega) ?_
      refine y_goto rfl ?_
      refine ih (yset τ 560 ((25 * m) + k) (τ 548 ((29 + (24 * m)) + k))) (k + 1) (by omega) (by omega) (fun c a b => by rw [yne (by omega) rfl]; exact h1 c a b) (fun i a b c => rmi_cong (by omega) (e3 i a c).2.1.2 (h2 i a b c) (fun x _ _ => yne (by omega) rfl) (yne (by omega) rfl) (fun x y hx _ _ => yne (by omega) rfl)) (by rw [yne (by omega) rfl, yne (by omega) rfl, yne (by omega) rfl, yne (by omega) rfl, yne (by omega) rfl]; exact h3) (fun j a b => ?_) (mfs_s h5 (by omega))
      by_cases e : j = k
      · subst e; rw [yeq, t0 _ (by omega)]
      · rw [yne (by omega) rfl]; exact h4 j a (by omega)
theorem l_layNow2 {g : Launch × XG × va_G} {σ : YS} {E D : YS}  (hz : mzs σ 0 E D) (he : eG E) (hd : dG E D) (h67 : E 6 0 = 7) : ∀ (nn : Nat) (τ : YS) (m : Int), 3 - m < (nn : Int) → (0 ≤ m ∧ m ≤ 3) → (∀ c, 0 ≤ c → c < 9 → τ 554 c = D 0 c) → (∀ i, 0 ≤ i → i < m → i < E 1 0 → rmi τ E D i) → (mfs σ τ) → YW g 55 30 [some (2, 547), some (0, m), none] [] τ (fun rv σ' => rv = none ∧ (rm σ' E D ∧ mfs σ σ')) := by
  intro nn
  induction nn with
  | zero =>
    intro τ m hn h0 h1 h2 h3
    exfalso
    omega
  | succ nn ih =>
    intro τ m hn h0 h1 h2 h3
    have ⟨⟨f1, f2, f3⟩, f5, f6, f7, f8⟩ := hz
    have ⟨e1, e2, e3⟩ := he
    have f10 : σ 548 0 = E 0 0 := f1
    have f20 : σ 548 10 = E 1 0 := f2
    have f30 : σ 548 105 = D 5 0 := f3
    have f50 : ∀ c, 0 ≤ c → c < 9 → σ 548 (1 + c) = D 0 c := f5
    have t0 : ∀ y, y ≤ 1581 → τ 548 y = σ 548 y := fun y a => h3 548 y (by omega)
    refine y_iload rfl rfl ?_
    refine y_push rfl ?_
    refine y_icge rfl (fun q32 => ?_) (fun q32 => ?_)
    · skip
      refine y_aload rfl rfl rfl ?_
      refine y_aload rfl rfl rfl ?_
      refine y_gfr (t := 548) rfl rfl (by decide) rfl (by decide) ?_
      refine y_push rfl ?_
      refine y_iald (v := (τ 548 105)) (n := 2108) rfl rfl (by decide) rfl (by decide) rfl ?_
      refine y_pfi (j := 18) rfl rfl (by decide) rfl rfl rfl rfl rfl ?_
      refine y_aload rfl rfl rfl ?_
      refine y_push rfl ?_
      refine y_aload rfl rfl rfl ?_
      refine y_gfr (t := 548) rfl rfl (by decide) rfl (by decide) ?_
      refine y_push rfl ?_
      refine y_iald (v := (τ 548 10)) (n := 2108) rfl rfl (by decide) rfl (by decide) (yne (by omega) rfl) ?_
      refine y_ishl (v := (yshl 1 (τ 548 10))) rfl rfl ?_
      refine y_push rfl ?_
      refine y_isub (v := ((yshl 1 (τ 548 10)) - 1)) rfl rfl (by have sc := yshl_c (c := τ 548 10) (by rw [t0 _ (by omega), f20]; exact e2); show -2147483648 ≤ _ ∧ _ ≤ 2147483647; omega) ?_
      refine y_pfi (j := 19) rfl rfl (by decide) rfl rfl rfl rfl rfl ?_
      refine y_ret rfl rfl ⟨rfl, ?_⟩
      have sc := yshl_c e2
      refine ⟨⟨⟨?_, ?_, ?_⟩, fun c a b => ?_, fun i a b => ?_, fun q a b => ?_⟩, mfs_s (mfs_s h3 (by omega)) (by omega)⟩
      · rw [yne (by omega) rfl, yne (by omega) rfl, t0 _ (by omega)]; exact f10
      · rw [yne (by omega) rfl, yne (by omega) rfl, t0 _ (by omega)]; exact f20
      · rw [yne (by omega) rfl, yeq, t0 _ (by omega)]; exact f30
      · rw [yne (by omega) rfl, yne (by omega) rfl]; exact h1 c a b
      · exact rmi_cong (by omega) (e3 i a b).2.1.2 (h2 i a (by omega) b) (fun x _ _ => by rw [yne (by omega) rfl, yne (by omega) rfl]) (by rw [yne (by omega) rfl, yne (by omega) rfl]) (fun x y hx _ _ => by rw [yne (by omega) rfl, yne (by omega) rfl])
      · rw [yeq, t0 _ (by omega), f20]; exact ⟨fun _ => mth_7 h67 q a (by omega), fun _ => yshl_q e2 ⟨a, b⟩⟩
    · skip
      have sz : 0 ≤ σ 548 (26 + m) ∧ σ 548 (26 + m) ≤ 24 := by
        rcases (by omega : m < E 1 0 ∨ E 1 0 ≤ m) with z | z
        · have b5 : σ 548 (26 + m) = E 3 m := (f6 m (by omega) z).2.1
          have := (e3 m (by omega) z).2.1
          omega
        · have : σ 548 (26 + m) = 0 := f7 m z (by omega)
          omega
      refine y_aload rfl rfl rfl ?_
      refine y_gfr (t := 555) rfl rfl (by decide) rfl (by decide) ?_
      refine y_iload rfl rfl ?_
      refine y_aload rfl rfl rfl ?_
      refine y_gfr (t := 548) rfl rfl (by decide) rfl (by decide) ?_
      refine y_push rfl ?_
      refine y_iload rfl rfl ?_
      refine y_iadd (v := (14 + m)) rfl rfl (by omega) ?_
      refine y_iald (v := (τ 548 (14 + m))) (n := 2108) rfl rfl (by decide) rfl (by omega) rfl ?_
      refine y_iast (n := 3) rfl rfl (by decide) rfl (by omega) ?_
      refine y_aload rfl rfl rfl ?_
      refine y_gfr (t := 556) rfl rfl (by decide) rfl (by decide) ?_
      refine y_iload rfl rfl ?_
      refine y_aload rfl rfl rfl ?_
      refine y_gfr (t := 548) rfl rfl (by decide) rfl (by decide) ?_
      refine y_push rfl ?_
      refine y_iload rfl rfl ?_
      refine y_iadd (v := (17 + m)) rfl rfl (by omega) ?_
      refine y_iald (v := (τ 548 (17 + m))) (n := 2108) rfl rfl (by decide) rfl (by omega) (yne (by omega) rfl) ?_
      refine y_iast (n := 3) rfl rfl (by decide) rfl (by omega) ?_
      refine y_aload rfl rfl rfl ?_
      refine y_gfr (t := 557) rfl rfl (by decide) rfl (by decide) ?_
      refine y_iload rfl rfl ?_
      refine y_aload rfl rfl rfl ?_
      refine y_gfr (t := 548) rfl rfl (by decide) rfl (by decide) ?_
      refine y_push rfl ?_
      refine y_iload rfl rfl ?_
      refine y_iadd (v := (20 + m)) rfl rfl (by omega) ?_
      refine y_iald (v := (τ 548 (20 + m))) (n := 2108) rfl rfl (by decide) rfl (by omega) (yne (by omega) (yne (by omega) rfl)) ?_
      refine y_iast (n := 3) rfl rfl (by decide) rfl (by omega) ?_
      refine y_aload rfl rfl rfl ?_
      refine y_gfr (t := 558) rfl rfl (by decide) rfl (by decide) ?_
      refine y_iload rfl rfl ?_
      refine y_aload rfl rfl rfl ?_
      refine y_iload rfl rfl ?_
      refine y_vi (as := [(2, 547), (0, m)]) (S := [(0, m), (2, 558)]) rfl rfl rfl rfl rfl rfl (by decide) rfl (m_stoppedOf (mzs_cong he hz (fun y a b => (mfs_s (mfs_s (mfs_s h3 (by omega)) (by omega)) (by omega)) 548 y (by omega))) he hd (m := m) (by omega)) ?_
      rintro _ _ ⟨rfl, rfl⟩
      refine y_iast (n := 3) rfl rfl (by decide) rfl (by omega) ?_
      refine y_aload rfl rfl rfl ?_
      refine y_gfr (t := 559) rfl rfl (by decide) rfl (by decide) ?_
      refine y_iload rfl rfl ?_
      refine y_aload rfl rfl rfl ?_
      refine y_gfr (t := 548) rfl rfl (by decide) rfl (by decide) ?_
      refine y_push rfl ?_
      refine y_iload rfl rfl ?_
      refine y_iadd (v := (26 + m)) rfl rfl (by omega) ?_
      refine y_iald (v := (τ 548 (26 + m))) (n := 2108) rfl rfl (by decide) rfl (by omega) (yne (by omega) (yne (by omega) (yne (by omega) (yne (by omega) rfl)))) ?_
      refine y_iast (n := 3) rfl rfl (by decide) rfl (by omega) ?_
      refine y_push rfl ?_
      refine y_istore (L' := [some (2, 547), some (0, m), some (0, 0)]) rfl rfl rfl rfl ?_
      refine l_layNow3 (fun τ m => ih τ m) hz he hd h67 (by omega) (by omega) 25 (yset (yset (yset (yset (yset τ 555 m (τ 548 (14 + m))) 556 m (τ 548 (17 + m))) 557 m (τ 548 (20 + m))) 558 m (if m < E 1 0 then D 4 m else 1)) 559 m (τ 548 (26 + m))) 0 (by omega) (by omega) (fun c a b => by rw [yne (by omega) rfl, yne (by omega) rfl, yne (by omega) rfl, yne (by omega) rfl, yne (by omega) rfl]; exact h1 c a b) (fun i a b c => rmi_cong (by omega) (e3 i a c).2.1.2 (h2 i a b c) (fun x _ _ => by rw [yne (by omega) rfl, yne (by omega) rfl, yne (by omega) rfl, yne (by omega) rfl, yne (by omega) rfl]) (by rw [yne (by omega) rfl, yne (by omega) rfl, yne (by omega) rfl, yne (by omega) rfl, yne (by omega) rfl]) (fun x y hx _ _ => by rw [yne (by omega) rfl, yne (by omega) rfl, yne (by omega) rfl, yne (by omega) rfl, yne (by omega) rfl])) ⟨by rw [yne (by omega) rfl, yne (by omega) rfl, yne (by omega) rfl, yne (by omega) rfl, yeq]; exact t0 _ (by omega), by rw [yne (by omega) rfl, yne (by omega) rfl, yne (by omega) rfl, yeq]; exact t0 _ (by omega), by rw [yne (by omega) rfl, yne (by omega) rfl, yeq]; exact t0 _ (by omega), by rw [yne (by omega) rfl, yeq], by rw [yeq]; exact t0 _ (by omega)⟩ (fun j a b => by omega) (mfs_s (mfs_s (mfs_s (mfs_s (mfs_s h3 (by omega)) (by omega)) (by omega)) (by omega)) (by omega))
theorem l_layNow1 {g : Launch × XG × va_G} {σ : YS} {E D : YS}  (hz : mzs σ 0 E D) (he : eG E) (hd : dG E D) (h67 : E 6 0 = 7) : ∀ (nn : Nat) (τ : YS) (k : Int), 9 - k < (nn : Int) → (0 ≤ k ∧ k ≤ 9) → (∀ c, 0 ≤ c → c < k → τ 554 c = D 0 c) → (mfs σ τ) → YW g 55 2 [some (2, 547), some (0, k), none] [] τ (fun rv σ' => rv = none ∧ (rm σ' E D ∧ mfs σ σ')) := by
  intro nn
  induction nn with
  | zero =>
    intro τ k hn h0 h1 h2
    exfalso
    omega
  | succ nn ih =>
    intro τ k hn h0 h1 h2
    have ⟨⟨f1, f2, f3⟩, f5, f6, f7, f8⟩ := hz
    have ⟨e1, e2, e3⟩ := he
    have f10 : σ 548 0 = E 0 0 := f1
    have f20 : σ 548 10 = E 1 0 := f2
    have f30 : σ 548 105 = D 5 0 := f3
    have f50 : ∀ c, 0 ≤ c → c < 9 → σ 548 (1 + c) = D 0 c := f5
    have t0 : ∀ y, y ≤ 1581 → τ 548 y = σ 548 y := fun y a => h2 548 y (by omega)
    refine y_iload rfl rfl ?_
    refine y_push rfl ?_
    refine y_icge rfl (fun q5 => ?_) (fun q5 => ?_)
    · skip
      refine y_push rfl ?_
      refine y_istore (L' := [some (2, 547), some (0, 0), none]) rfl rfl rfl rfl ?_
      exact l_layNow2 hz he hd h67 4 τ 0 (by omega) (by omega) (fun c a b => h1 c a (by omega)) (fun i a b c => by omega) h2
    · skip
      refine y_aload rfl rfl rfl ?_
      refine y_gfr (t := 554) rfl rfl (by decide) rfl (by decide) ?_
      refine y_iload rfl rfl ?_
      refine y_aload rfl rfl rfl ?_
      refine y_gfr (t := 548) rfl rfl (by decide) rfl (by decide) ?_
      refine y_push rfl ?_
      refine y_iload rfl rfl ?_
      refine y_iadd (v := (1 + k)) rfl rfl (by omega) ?_
      refine y_iald (v := (τ 548 (1 + k))) (n := 2108) rfl rfl (by decide) rfl (by omega) rfl ?_
      refine y_iast (n := 9) rfl rfl (by decide) rfl (by omega) ?_
      refine y_iinc (L' := [some (2, 547), some (0, (k + 1)), none]) rfl rfl rfl rfl rfl (by omega) ?_
      refine y_goto rfl ?_
      refine ih (yset τ 554 k (τ 548 (1 + k))) (k + 1) (by omega) (by omega) (fun c a b => ?_) (mfs_s h2 (by omega))
      by_cases e : c = k
      · subst e; rw [yeq, t0 _ (by omega)]; exact f50 c a (by omega)
      · rw [yne (by omega) rfl]; exact h1 c a (by omega)
theorem m_layNow {g : Launch × XG × va_G} {σ : YS} {E D : YS} (hz : mzs σ 0 E D) (he : eG E) (hd : dG E D) (h67 : E 6 0 = 7) : YU g 55 [(2, 547)] σ (fun σ' => rm σ' E D ∧ mfs σ σ') := by
  refine y_start rfl rfl rfl ?_
  refine y_push rfl ?_
  refine y_istore (L' := [some (2, 547), some (0, 0), none]) rfl rfl rfl rfl ?_
  exact l_layNow1 hz he hd h67 10 σ 0 (by omega) (by omega) (fun c a b => by omega) (mfs_0 _)
theorem m_stopL {g : Launch × XG × va_G} {σ : YS} {m n : Int} {f : Int → Int} (hm : 0 ≤ m ∧ m < 3) (h1 : σ 548 (26 + m) = n) (hn : 0 ≤ n ∧ n ≤ 24) (hf : ∀ k, 0 ≤ k → k < n → σ 548 (29 + 24 * m + k) = f k) : YI g 56 [(2, 547), (0, m)] σ (fun b σ' => σ = σ' ∧ yb (σ 548 (23 + m) = 1 ∨ n = 0 ∨ bflaw f n.toNat ≠ -1) = b) := by
  refine y_start rfl rfl rfl ?_
  refine y_aload rfl rfl rfl ?_
  refine y_gfr (t := 548) rfl rfl (by decide) rfl (by decide) ?_
  refine y_push rfl ?_
  refine y_iload rfl rfl ?_
  refine y_iadd (v := (23 + m)) rfl rfl (by omega) ?_
  refine y_iald (v := (σ 548 (23 + m))) (n := 2108) rfl rfl (by decide) rfl (by omega) rfl ?_
  refine y_push rfl ?_
  refine y_iceq rfl (fun q10 => ?_) (fun q10 => ?_)
  · skip
    refine y_push rfl ?_
    refine y_goto rfl ?_
    refine y_istore (L' := [some (2, 547), some (0, m), some (0, 1)]) rfl rfl rfl rfl ?_
    refine y_iload rfl rfl ?_
    refine y_ifeq rfl (fun q56 => ?_) (fun q56 => ?_)
    · exfalso; omega
    · skip
      refine y_push rfl ?_
      refine y_goto rfl ?_
      refine y_iret rfl rfl ⟨_, rfl, ?_⟩
      refine ⟨rfl, ?_⟩
      have h9 : bflaw f (σ 548 (26 + m)).toNat = bflaw f n.toNat := by rw [h1]
      unfold yb
      (repeat' split) <;> first | rfl | (exfalso; omega)
  · skip
    refine y_aload rfl rfl rfl ?_
    refine y_gfr (t := 548) rfl rfl (by decide) rfl (by decide) ?_
    refine y_push rfl ?_
    refine y_iload rfl rfl ?_
    refine y_iadd (v := (26 + m)) rfl rfl (by omega) ?_
    refine y_iald (v := (σ 548 (26 + m))) (n := 2108) rfl rfl (by decide) rfl (by omega) rfl ?_
    refine y_ifeq rfl (fun q22 => ?_) (fun q22 => ?_)
    · skip
      refine y_push rfl ?_
      refine y_goto rfl ?_
      refine y_istore (L' := [some (2, 547), some (0, m), some (0, 1)]) rfl rfl rfl rfl ?_
      refine y_iload rfl rfl ?_
      refine y_ifeq rfl (fun q56 => ?_) (fun q56 => ?_)
      · exfalso; omega
      · skip
        refine y_push rfl ?_
        refine y_goto rfl ?_
        refine y_iret rfl rfl ⟨_, rfl, ?_⟩
        refine ⟨rfl, ?_⟩
        have h9 : bflaw f (σ 548 (26 + m)).toNat = bflaw f n.toNat := by rw [h1]
        unfold yb
        (repeat' split) <;> first | rfl | (exfalso; omega)
    · skip
      refine y_aload rfl rfl rfl ?_
      refine y_push rfl ?_
      refine y_push rfl ?_
      refine y_iload rfl rfl ?_
      refine y_imul (v := (24 * m)) rfl rfl (by omega) ?_
      refine y_iadd (v := (29 + (24 * m))) rfl rfl (by omega) ?_
      refine y_aload rfl rfl rfl ?_
      refine y_gfr (t := 548) rfl rfl (by decide) rfl (by decide) ?_
      refine y_push rfl ?_
      refine y_iload rfl rfl ?_
      refine y_iadd (v := (26 + m)) rfl rfl (by omega) ?_
      refine y_iald (v := (σ 548 (26 + m))) (n := 2108) rfl rfl (by decide) rfl (by omega) rfl ?_
      refine y_vi (as := [(2, 547), (0, (29 + (24 * m))), (0, (σ 548 (26 + m)))]) (S := []) rfl rfl rfl rfl rfl rfl (by decide) rfl (m_faultOf (f := f) (n := σ 548 (26 + m)) (fun k k1 k2 => hf k k1 (by omega)) (by omega) (by omega)) ?_
      rintro _ _ ⟨rfl, rfl⟩
      refine y_push rfl ?_
      refine y_iceq rfl (fun q46 => ?_) (fun q46 => ?_)
      · skip
        refine y_push rfl ?_
        refine y_istore (L' := [some (2, 547), some (0, m), some (0, 0)]) rfl rfl rfl rfl ?_
        refine y_iload rfl rfl ?_
        refine y_ifeq rfl (fun q56 => ?_) (fun q56 => ?_)
        · skip
          refine y_push rfl ?_
          refine y_iret rfl rfl ⟨_, rfl, ?_⟩
          refine ⟨rfl, ?_⟩
          have h9 : bflaw f (σ 548 (26 + m)).toNat = bflaw f n.toNat := by rw [h1]
          unfold yb
          (repeat' split) <;> first | rfl | (exfalso; omega)
        · exfalso; omega
      · skip
        refine y_push rfl ?_
        refine y_goto rfl ?_
        refine y_istore (L' := [some (2, 547), some (0, m), some (0, 1)]) rfl rfl rfl rfl ?_
        refine y_iload rfl rfl ?_
        refine y_ifeq rfl (fun q56 => ?_) (fun q56 => ?_)
        · exfalso; omega
        · skip
          refine y_push rfl ?_
          refine y_goto rfl ?_
          refine y_iret rfl rfl ⟨_, rfl, ?_⟩
          refine ⟨rfl, ?_⟩
          have h9 : bflaw f (σ 548 (26 + m)).toNat = bflaw f n.toNat := by rw [h1]
          unfold yb
          (repeat' split) <;> first | rfl | (exfalso; omega)
