/-- how many of the first j signs lead a man from one cell to another -/
def mlead (k c nx u n : Int) : Nat → Int
  | 0 => 0
  | j + 1 => mlead k c nx u n j + if mgoal k c j u n = nx then 1 else 0
theorem mlead_r (k c nx u n : Int) : ∀ j : Nat, 0 ≤ mlead k c nx u n j ∧ mlead k c nx u n j ≤ j
  | 0 => by unfold mlead; omega
  | j + 1 => by have := mlead_r k c nx u n j; unfold mlead; split <;> omega
theorem mlead_s {k c nx u n j : Int} (h : 0 ≤ j) : mlead k c nx u n (j + 1).toNat = mlead k c nx u n j.toNat + if mgoal k c j u n = nx then 1 else 0 := by
  rw [show (j + 1).toNat = j.toNat + 1 by omega]
  show mlead k c nx u n j.toNat + (if mgoal k c (j.toNat : Int) u n = nx then 1 else 0) = _
  rw [show ((j.toNat : Nat) : Int) = j by omega]
/-- the cell behind i steps, and how many slips say so -/
def msaidc (E D : YS) (m : Int) : Nat → Int
  | 0 => D 1 m
  | i + 1 => E 7 i
def msaid (E D : YS) (m : Int) : Nat → Int
  | 0 => 1
  | i + 1 => msaid E D m i * mlead (E 2 m) (msaidc E D m i) (E 7 i) (D 5 0 + i) (E 0 0) 5
def m5 : Nat → Int
  | 0 => 1
  | i + 1 => m5 i * 5
theorem msaid_r (E D : YS) (m : Int) : ∀ i : Nat, 0 ≤ msaid E D m i ∧ msaid E D m i ≤ m5 i
  | 0 => by unfold msaid m5; omega
  | i + 1 => by
    have h1 := msaid_r E D m i
    have h2 := mlead_r (E 2 m) (msaidc E D m i) (E 7 i) (D 5 0 + i) (E 0 0) 5
    unfold msaid m5
    exact ⟨Int.mul_nonneg h1.1 h2.1, Int.mul_le_mul h1.2 h2.2 h2.1 (by omega)⟩
theorem l_signsLeading {g : Launch × XG × va_G} {σ : YS} {Z : YZ} {I : Int → YZ} {M : YS} {N : Int} {k c x u : Int} (hx : xW σ Z I M) (hg : wG Z I M N) (hN : N < 100000) (hk : 0 ≤ k ∧ k < 6) (hc : 0 ≤ c ∧ c < 100) (hu : 0 ≤ u) : ∀ (nn : Nat) (j : Int) (d : Int), 5 - j < (nn : Int) → (0 ≤ j ∧ j ≤ 5) → (d = mlead k c x u (Z 0 0 0) j.toNat) → (0 ≤ d ∧ d ≤ j) → YW g 116 6 [some (2, 0), some (0, k), some (0, c), some (0, x), some (0, u), some (0, d), some (0, j)] [] σ (fun rv σ' => ∃ b, rv = some (0, b) ∧ (σ = σ' ∧ mlead k c x u (Z 0 0 0) 5 = b)) := by
  intro nn
  induction nn with
  | zero =>
    intro j d hn h0 h1 h2
    exfalso
    omega
  | succ nn ih =>
    intro j d hn h0 h1 h2
    have ⟨⟨hr, hu⟩, x2, x3, ⟨x4, x5⟩, x6⟩ := hx
    have ⟨⟨he, hd, hn, hu2, h67, hk⟩, g2, g3, g4⟩ := hg
    have ⟨⟨f1, f2, f3, f4⟩, f5, f6, g7, g8⟩ := hr
    have ⟨e1, e2, e3⟩ := he
    have ⟨u1, u2, u3⟩ := hu
    have x60 : σ 0 11 = M 3 0 := x6 0 (by omega) (by omega)
    have x61 : σ 0 12 = M 3 1 := x6 1 (by omega) (by omega)
    have x62 : σ 0 13 = M 3 2 := x6 2 (by omega) (by omega)
    have g40 := g4 0 (by omega) (by omega)
    have g41 := g4 1 (by omega) (by omega)
    have g42 := g4 2 (by omega) (by omega)
    have f5 : ∀ c, 0 ≤ c → c < 9 → σ 2 c = Z 1 0 c := f5
    have f6 : ∀ i, 0 ≤ i → i < Z 0 1 0 → repm σ (4 + 3 * i) (Z 0) (Z 1) i := f6
    refine y_iload rfl rfl ?_
    refine y_push rfl ?_
    refine y_icgt rfl (fun q9 => ?_) (fun q9 => ?_)
    · skip
      refine y_iload rfl rfl ?_
      refine y_iret rfl rfl ⟨_, rfl, ?_⟩
      exact ⟨rfl, by rw [h1, show j = 5 by omega]; rfl⟩
    · skip
      refine y_iload rfl rfl ?_
      refine y_iload rfl rfl ?_
      refine y_iload rfl rfl ?_
      refine y_iload rfl rfl ?_
      refine y_aload rfl rfl rfl ?_
      refine y_gfr (t := 1) rfl rfl (by decide) rfl (by decide) ?_
      refine y_gfi (v := (σ 1 4)) rfl (yS_c yS_1) (yS_0 yS_1).1 rfl (by decide) rfl rfl ?_
      refine y_si (as := [(0, k), (0, c), (0, j), (0, u), (0, (σ 1 4))]) (S := []) rfl rfl rfl rfl rfl rfl (c_goal (by omega) (by omega) (by omega) (by omega)) ?_
      rintro _ _ ⟨rfl, rfl⟩
      refine y_iload rfl rfl ?_
      refine y_icne rfl (fun q29 => ?_) (fun q29 => ?_)
      · skip
        refine y_iinc (L' := [some (2, 0), some (0, k), some (0, c), some (0, x), some (0, u), some (0, d), some (0, (j + 1))]) rfl rfl rfl rfl rfl (by omega) ?_
        refine y_goto rfl ?_
        exact ih (j + 1) d (by omega) (by omega) (by rw [mlead_s (by omega), if_neg (by rw [← f1]; exact q29), ← h1]; omega) (by omega)
      · skip
        refine y_iinc (L' := [some (2, 0), some (0, k), some (0, c), some (0, x), some (0, u), some (0, (d + 1)), some (0, j)]) rfl rfl rfl rfl rfl (by omega) ?_
        refine y_iinc (L' := [some (2, 0), some (0, k), some (0, c), some (0, x), some (0, u), some (0, (d + 1)), some (0, (j + 1))]) rfl rfl rfl rfl rfl (by omega) ?_
        refine y_goto rfl ?_
        exact ih (j + 1) (d + 1) (by omega) (by omega) (by rw [mlead_s (by omega), if_pos (by rw [← f1]; exact q29), ← h1]) (by omega)
theorem c_signsLeading {g : Launch × XG × va_G} {σ : YS} {Z : YZ} {I : Int → YZ} {M : YS} {N : Int} {k c x u : Int} (hx : xW σ Z I M) (hg : wG Z I M N) (hN : N < 100000) (hk : 0 ≤ k ∧ k < 6) (hc : 0 ≤ c ∧ c < 100) (hu : 0 ≤ u) : YI g 116 [(2, 0), (0, k), (0, c), (0, x), (0, u)] σ (fun b σ' => σ = σ' ∧ mlead k c x u (Z 0 0 0) 5 = b) := by
  refine y_start rfl rfl rfl ?_
  refine y_push rfl ?_
  refine y_istore (L' := [some (2, 0), some (0, k), some (0, c), some (0, x), some (0, u), some (0, 0), none]) rfl rfl rfl rfl ?_
  refine y_push rfl ?_
  refine y_istore (L' := [some (2, 0), some (0, k), some (0, c), some (0, x), some (0, u), some (0, 0), some (0, 0)]) rfl rfl rfl rfl ?_
  exact l_signsLeading hx hg hN hk hc hu 6 0 0 (by omega) (by omega) rfl (by omega)
def ksaid (Z : YZ) (M : YS) (m q : Int) : YK := if (0 ≤ m ∧ m < Z 0 1 0) ∧ (1 ≤ q ∧ q ≤ 4) then (msaid (Z 0) (Z 1) m q.toNat, Z, M) else (-2, Z, bump M 0)
theorem m5_r {i : Int} (h : 0 ≤ i ∧ i ≤ 4) : m5 i.toNat ≤ 625 := by
  rcases (by omega : i = 0 ∨ i = 1 ∨ i = 2 ∨ i = 3 ∨ i = 4) with rfl | rfl | rfl | rfl | rfl <;> decide
theorem msaid_s {E D : YS} {m i : Int} (h : 0 ≤ i) : msaid E D m (i + 1).toNat = msaid E D m i.toNat * mlead (E 2 m) (msaidc E D m i.toNat) (E 7 i) (D 5 0 + i) (E 0 0) 5 ∧ msaidc E D m (i + 1).toNat = E 7 i := by
  rw [show (i + 1).toNat = i.toNat + 1 by omega]
  refine ⟨?_, ?_⟩
  · show msaid E D m i.toNat * mlead (E 2 m) (msaidc E D m i.toNat) (E 7 (i.toNat : Int)) (D 5 0 + (i.toNat : Int)) (E 0 0) 5 = _
    rw [show ((i.toNat : Nat) : Int) = i by omega]
  · show E 7 (i.toNat : Int) = _
    rw [show ((i.toNat : Nat) : Int) = i by omega]
theorem l_said {g : Launch × XG × va_G} {σ : YS} {Z : YZ} {I : Int → YZ} {M : YS} {N : Int} {m q : Int} (hx : xW σ Z I M) (hg : wG Z I M N) (hN : N < 100000) (hm : (0 ≤ m ∧ m < Z 0 1 0) ∧ (1 ≤ q ∧ q ≤ 4)) : ∀ (nn : Nat) (i : Int) (c : Int) (d : Int), q - i < (nn : Int) → (0 ≤ i ∧ i ≤ q) → (c = msaidc (Z 0) (Z 1) m i.toNat) → (d = msaid (Z 0) (Z 1) m i.toNat) → (0 ≤ c ∧ c < 9) → YW g 89 61 [some (2, 0), some (0, m), some (0, q), some (0, (Z 0 2 m)), some (0, c), some (0, d), some (0, i), none] [] σ (fun rv σ' => ∃ b, rv = some (0, b) ∧ (b = (ksaid Z M m q).1 ∧ xW σ' (ksaid Z M m q).2.1 I (ksaid Z M m q).2.2 ∧ mfr σ σ')) := by
  intro nn
  induction nn with
  | zero =>
    intro i c d hn h0 h1 h2 h3
    exfalso
    omega
  | succ nn ih =>
    intro i c d hn h0 h1 h2 h3
    have ⟨⟨hr, hu⟩, x2, x3, ⟨x4, x5⟩, x6⟩ := hx
    have ⟨⟨he, hd, hn, hu2, h67, hk⟩, g2, g3, g4⟩ := hg
    have ⟨⟨f1, f2, f3, f4⟩, f5, f6, g7, g8⟩ := hr
    have ⟨e1, e2, e3⟩ := he
    have ⟨u1, u2, u3⟩ := hu
    have x60 : σ 0 11 = M 3 0 := x6 0 (by omega) (by omega)
    have x61 : σ 0 12 = M 3 1 := x6 1 (by omega) (by omega)
    have x62 : σ 0 13 = M 3 2 := x6 2 (by omega) (by omega)
    have g40 := g4 0 (by omega) (by omega)
    have g41 := g4 1 (by omega) (by omega)
    have g42 := g4 2 (by omega) (by omega)
    have f5 : ∀ c, 0 ≤ c → c < 9 → σ 2 c = Z 1 0 c := f5
    have f6 : ∀ i, 0 ≤ i → i < Z 0 1 0 → repm σ (4 + 3 * i) (Z 0) (Z 1) i := f6
    have h58 : ∀ j, 0 ≤ j → j < 4 → σ 13 j = Z 0 7 j := g8
    have ⟨h670, h671⟩ := h67
    have ⟨tm1, tm2, tm3⟩ := e3 m (by omega) (by omega)
    have mr := msaid_r (Z 0) (Z 1) m i.toNat
    refine y_iload rfl rfl ?_
    refine y_iload rfl rfl ?_
    refine y_icge rfl (fun q64 => ?_) (fun q64 => ?_)
    · skip
      refine y_iload rfl rfl ?_
      refine y_iret rfl rfl ⟨_, rfl, ?_⟩
      have hK : ksaid Z M m q = (msaid (Z 0) (Z 1) m q.toNat, Z, M) := if_pos hm
      rw [hK]
      exact ⟨by rw [h2, show i = q by omega], hx, mfr_0 _⟩
    · skip
      have h7i := h671 i (by omega) (by omega)
      have h58i := h58 i (by omega) (by omega)
      have lr := mlead_r (Z 0 2 m) c (σ 13 i) ((σ 1 6) + i) (Z 0 0 0) 5
      have m5r := m5_r (i := i) (by omega)
      have pr : 0 ≤ d * mlead (Z 0 2 m) c (σ 13 i) ((σ 1 6) + i) (Z 0 0 0) 5 ∧ d * mlead (Z 0 2 m) c (σ 13 i) ((σ 1 6) + i) (Z 0 0 0) 5 ≤ 625 * 5 := ⟨Int.mul_nonneg (by omega) lr.1, Int.mul_le_mul (by omega) (by omega) lr.1 (by omega)⟩
      refine y_aload rfl rfl rfl ?_
      refine y_gfr (t := 1) rfl rfl (by decide) rfl (by decide) ?_
      refine y_gfr (t := 13) rfl (yS_c yS_1) (yS_0 yS_1).1 rfl (by decide) ?_
      refine y_iload rfl rfl ?_
      refine y_iald (v := (σ 13 i)) (n := 4) rfl rfl (by decide) rfl (by omega) rfl ?_
      refine y_istore (L' := [some (2, 0), some (0, m), some (0, q), some (0, (Z 0 2 m)), some (0, c), some (0, d), some (0, i), some (0, (σ 13 i))]) rfl rfl rfl rfl ?_
      refine y_iload rfl rfl ?_
      refine y_aload rfl rfl rfl ?_
      refine y_iload rfl rfl ?_
      refine y_iload rfl rfl ?_
      refine y_iload rfl rfl ?_
      refine y_aload rfl rfl rfl ?_
      refine y_gfr (t := 1) rfl rfl (by decide) rfl (by decide) ?_
      refine y_gfi (v := (σ 1 6)) rfl (yS_c yS_1) (yS_0 yS_1).1 rfl (by decide) rfl rfl ?_
      refine y_iload rfl rfl ?_
      refine y_iadd (v := ((σ 1 6) + i)) rfl rfl (by omega) ?_
      refine y_vi (as := [(2, 0), (0, (Z 0 2 m)), (0, c), (0, (σ 13 i)), (0, ((σ 1 6) + i))]) (S := [(0, d)]) rfl rfl rfl rfl rfl rfl (by decide) rfl (c_signsLeading hx hg hN (by omega) (by omega) (by omega)) ?_
      rintro _ _ ⟨rfl, rfl⟩
      refine y_imul (v := (d * (mlead (Z 0 2 m) c (σ 13 i) ((σ 1 6) + i) (Z 0 0 0) 5))) rfl rfl (by show -2147483648 ≤ _ ∧ _ ≤ 2147483647; omega) ?_
      refine y_istore (L' := [some (2, 0), some (0, m), some (0, q), some (0, (Z 0 2 m)), some (0, c), some (0, (d * (mlead (Z 0 2 m) c (σ 13 i) ((σ 1 6) + i) (Z 0 0 0) 5))), some (0, i), some (0, (σ 13 i))]) rfl rfl rfl rfl ?_
      refine y_iload rfl rfl ?_
      refine y_istore (L' := [some (2, 0), some (0, m), some (0, q), some (0, (Z 0 2 m)), some (0, (σ 13 i)), some (0, (d * (mlead (Z 0 2 m) c (σ 13 i) ((σ 1 6) + i) (Z 0 0 0) 5))), some (0, i), some (0, (σ 13 i))]) rfl rfl rfl rfl ?_
      refine y_iinc (L' := [some (2, 0), some (0, m), some (0, q), some (0, (Z 0 2 m)), some (0, (σ 13 i)), some (0, (d * (mlead (Z 0 2 m) c (σ 13 i) ((σ 1 6) + i) (Z 0 0 0) 5))), some (0, (i + 1)), some (0, (σ 13 i))]) rfl rfl rfl rfl rfl (by omega) ?_
      refine y_goto rfl ?_
      refine y_forget (M := [some (2, 0), some (0, m), some (0, q), some (0, (Z 0 2 m)), some (0, (σ 13 i)), some (0, (d * (mlead (Z 0 2 m) c (σ 13 i) ((σ 1 6) + i) (Z 0 0 0) 5))), some (0, (i + 1)), none]) ⟨Or.inr rfl, ⟨Or.inr rfl, ⟨Or.inr rfl, ⟨Or.inr rfl, ⟨Or.inr rfl, ⟨Or.inr rfl, ⟨Or.inr rfl, ⟨Or.inl rfl, trivial⟩⟩⟩⟩⟩⟩⟩⟩ ?_
      have ms := msaid_s (E := Z 0) (D := Z 1) (m := m) (i := i) (by omega)
      exact ih (i + 1) _ _ (by omega) (by omega) (by rw [ms.2]; exact h58 i (by omega) (by omega)) (by rw [ms.1, ← h2, ← h1, h58 i (by omega) (by omega), f3]) (by have := h671 i (by omega) (by omega); have := h58 i (by omega) (by omega); omega)
theorem c_said {g : Launch × XG × va_G} {σ : YS} {Z : YZ} {I : Int → YZ} {M : YS} {N : Int} {m q : Int} (hx : xW σ Z I M) (hg : wG Z I M N) (hN : N < 100000) : YI g 89 [(2, 0), (0, m), (0, q)] σ (fun b σ' => b = (ksaid Z M m q).1 ∧ xW σ' (ksaid Z M m q).2.1 I (ksaid Z M m q).2.2 ∧ mfr σ σ') := by
  refine y_start rfl rfl rfl ?_
  have ⟨⟨hr, hu⟩, x2, x3, ⟨x4, x5⟩, x6⟩ := hx
  have ⟨⟨he, hd, hn, hu2, h67, hk⟩, g2, g3, g4⟩ := hg
  have ⟨⟨f1, f2, f3, f4⟩, f5, f6, g7, g8⟩ := hr
  have ⟨e1, e2, e3⟩ := he
  have ⟨u1, u2, u3⟩ := hu
  have x60 : σ 0 11 = M 3 0 := x6 0 (by omega) (by omega)
  have x61 : σ 0 12 = M 3 1 := x6 1 (by omega) (by omega)
  have x62 : σ 0 13 = M 3 2 := x6 2 (by omega) (by omega)
  have g40 := g4 0 (by omega) (by omega)
  have g41 := g4 1 (by omega) (by omega)
  have g42 := g4 2 (by omega) (by omega)
  have f5 : ∀ c, 0 ≤ c → c < 9 → σ 2 c = Z 1 0 c := f5
  have f6 : ∀ i, 0 ≤ i → i < Z 0 1 0 → repm σ (4 + 3 * i) (Z 0) (Z 1) i := f6
  refine y_aload rfl rfl rfl ?_
  refine y_gfr (t := 1) rfl rfl (by decide) rfl (by decide) ?_
  refine y_iload rfl rfl ?_
  refine y_vi (as := [(2, 1), (0, m)]) (S := []) rfl rfl rfl rfl rfl rfl (yS_0 yS_1).1 (yS_c yS_1) (c_hasMan yS_1) ?_
  rintro _ _ ⟨rfl, rfl⟩
  refine y_ifeq rfl (fun q8 => ?_) (fun q8 => ?_)
  · skip
    replace q8 := yb_0.mp q8
    refine y_aload rfl rfl rfl ?_
    refine y_push rfl ?_
    refine y_vi (as := [(2, 0), (0, (-2))]) (S := []) rfl rfl rfl rfl rfl rfl (by decide) rfl (c_bad (by omega)) ?_
    rintro _ _ ⟨rfl, rfl⟩
    refine y_iret rfl rfl ⟨_, rfl, ?_⟩
    have hK : ksaid Z M m q = (_, Z, bump M 0) := if_neg (by omega)
    rw [hK]
    exact ⟨rfl, xW_bump hg hx (by omega) rfl rfl, mfr_s (mfr_0 _) (by omega)⟩
  · skip
    replace q8 := yb_1.mp q8
    refine y_iload rfl rfl ?_
    refine y_push rfl ?_
    refine y_iclt rfl (fun q13 => ?_) (fun q13 => ?_)
    · skip
      refine y_aload rfl rfl rfl ?_
      refine y_push rfl ?_
      refine y_vi (as := [(2, 0), (0, (-2))]) (S := []) rfl rfl rfl rfl rfl rfl (by decide) rfl (c_bad (by omega)) ?_
      rintro _ _ ⟨rfl, rfl⟩
      refine y_iret rfl rfl ⟨_, rfl, ?_⟩
      have hK : ksaid Z M m q = (_, Z, bump M 0) := if_neg (by omega)
      rw [hK]
      exact ⟨rfl, xW_bump hg hx (by omega) rfl rfl, mfr_s (mfr_0 _) (by omega)⟩
    · skip
      refine y_iload rfl rfl ?_
      refine y_push rfl ?_
      refine y_icle rfl (fun q18 => ?_) (fun q18 => ?_)
      · skip
        have hm4 := f6 m (by omega) (by omega)
        refine y_aload rfl rfl rfl ?_
        refine y_gfr (t := 1) rfl rfl (by decide) rfl (by decide) ?_
        refine y_gfr (t := 3) rfl (yS_c yS_1) (yS_0 yS_1).1 rfl (by decide) ?_
        refine y_iload rfl rfl ?_
        refine y_aald (v := (4 + 3 * m)) (n := 3) rfl (yS_m yS_1) (by have := yS_0 yS_1; omega) rfl (by omega) rfl ?_
        refine y_gfi (v := (σ (4 + 3 * m) 4)) rfl (yN_c (yS_n (s := 1) (i := m) yS_1 (by omega))) (by have := yN_0 (yS_n (s := 1) (i := m) yS_1 (by omega)); omega) rfl (by decide) rfl rfl ?_
        refine y_istore (L' := [some (2, 0), some (0, m), some (0, q), some (0, (σ (4 + 3 * m) 4)), none, none, none, none]) rfl rfl rfl rfl ?_
        refine y_aload rfl rfl rfl ?_
        refine y_gfr (t := 1) rfl rfl (by decide) rfl (by decide) ?_
        refine y_gfr (t := 3) rfl (yS_c yS_1) (yS_0 yS_1).1 rfl (by decide) ?_
        refine y_iload rfl rfl ?_
        refine y_aald (v := (4 + 3 * m)) (n := 3) rfl (yS_m yS_1) (by have := yS_0 yS_1; omega) rfl (by omega) rfl ?_
        refine y_gfi (v := (σ (4 + 3 * m) 5)) rfl (yN_c (yS_n (s := 1) (i := m) yS_1 (by omega))) (by have := yN_0 (yS_n (s := 1) (i := m) yS_1 (by omega)); omega) rfl (by decide) rfl rfl ?_
        refine y_istore (L' := [some (2, 0), some (0, m), some (0, q), some (0, (σ (4 + 3 * m) 4)), some (0, (σ (4 + 3 * m) 5)), none, none, none]) rfl rfl rfl rfl ?_
        refine y_push rfl ?_
        refine y_istore (L' := [some (2, 0), some (0, m), some (0, q), some (0, (σ (4 + 3 * m) 4)), some (0, (σ (4 + 3 * m) 5)), some (0, 1), none, none]) rfl rfl rfl rfl ?_
        refine y_push rfl ?_
        refine y_istore (L' := [some (2, 0), some (0, m), some (0, q), some (0, (σ (4 + 3 * m) 4)), some (0, (σ (4 + 3 * m) 5)), some (0, 1), some (0, 0), none]) rfl rfl rfl rfl ?_
        rw [hm4.2.1, hm4.2.2.1.1]
        have hd1 := (hd.2 m (by omega) (by omega)).1
        exact l_said hx hg hN (by omega) 5 0 _ _ (by omega) (by omega) rfl rfl (by omega)
      · skip
        refine y_aload rfl rfl rfl ?_
        refine y_push rfl ?_
        refine y_vi (as := [(2, 0), (0, (-2))]) (S := []) rfl rfl rfl rfl rfl rfl (by decide) rfl (c_bad (by omega)) ?_
        rintro _ _ ⟨rfl, rfl⟩
        refine y_iret rfl rfl ⟨_, rfl, ?_⟩
        have hK : ksaid Z M m q = (_, Z, bump M 0) := if_neg (by omega)
        rw [hK]
        exact ⟨rfl, xW_bump hg hx (by omega) rfl rfl, mfr_s (mfr_0 _) (by omega)⟩
/-- slips taken out in an order: how all is behind k of them -/
def mempt (E D : YS) (m od : Int) : Nat → YS × YS
  | 0 => (E, D)
  | k + 1 => let p := mempt E D m od k
    let q := yord (3 * od + k)
    if q < E 1 0 then (empE p.1 q, empD (msteps p.1 p.2 m.toNat) q) else p
theorem empD_5 {D : YS} {m : Int} : empD D m 5 0 = D 5 0 := by
  unfold empD slpD
  rw [yne (by omega) rfl, yne (by omega) rfl]
def mleft (E D : YS) (m c od : Int) : Int := (mempt E D m od 3).2 0 c
/-- the most and the first order that leaves it -/
def mbest (f : Int → Int) : Nat → Int × Int
  | 0 => (-1, 0)
  | k + 1 => if (mbest f k).1 < f k then (f k, (k : Int)) else mbest f k
theorem yord_r {i : Int} (h : 0 ≤ i ∧ i < 18) : 0 ≤ yord i ∧ yord i ≤ 2 := by
  have : ∀ j : Nat, j < 18 → 0 ≤ yord j ∧ yord j ≤ 2 := by decide
  have := this i.toNat (by omega)
  rw [show ((i.toNat : Nat) : Int) = i by omega] at this
  exact this
theorem mempt_s {E D : YS} {m od k : Int} (h : 0 ≤ k) : mempt E D m od (k + 1).toNat = if yord (3 * od + k) < E 1 0 then (empE (mempt E D m od k.toNat).1 (yord (3 * od + k)), empD (msteps (mempt E D m od k.toNat).1 (mempt E D m od k.toNat).2 m.toNat) (yord (3 * od + k))) else mempt E D m od k.toNat := by
  rw [show (k + 1).toNat = k.toNat + 1 by omega]
  show (if yord (3 * od + (k.toNat : Int)) < E 1 0 then (empE (mempt E D m od k.toNat).1 (yord (3 * od + (k.toNat : Int))), empD (msteps (mempt E D m od k.toNat).1 (mempt E D m od k.toNat).2 m.toNat) (yord (3 * od + (k.toNat : Int)))) else mempt E D m od k.toNat) = _
  rw [show ((k.toNat : Nat) : Int) = k by omega]
theorem l_left {g : Launch × XG × va_G} {σ : YS} {Z : YZ} {I : Int → YZ} {M : YS} {N : Int} {m c od : Int} {w : Int} (hx : xW σ Z I M) (hg : wG Z I M N) (hN : N < 100000) (hm : 0 ≤ m ∧ m ≤ 60) (hc : 0 ≤ c ∧ c < Z 0 0 0) (ho : 0 ≤ od ∧ od < 6) : ∀ (nn : Nat) (τ : YS) (k : Int), 3 - k < (nn : Int) → (0 ≤ k ∧ k ≤ 3) → (rep τ 37 (mempt (Z 0) (yset (Z 1) 6 0 w) m od k.toNat).1 (mempt (Z 0) (yset (Z 1) 6 0 w) m od k.toNat).2) → (eG (mempt (Z 0) (yset (Z 1) 6 0 w) m od k.toNat).1 ∧ dG (mempt (Z 0) (yset (Z 1) 6 0 w) m od k.toNat).1 (mempt (Z 0) (yset (Z 1) 6 0 w) m od k.toNat).2) → ((mempt (Z 0) (yset (Z 1) 6 0 w) m od k.toNat).1 1 0 = Z 0 1 0 ∧ (mempt (Z 0) (yset (Z 1) 6 0 w) m od k.toNat).1 0 0 = Z 0 0 0) → (0 ≤ (mempt (Z 0) (yset (Z 1) 6 0 w) m od k.toNat).2 5 0 ∧ (mempt (Z 0) (yset (Z 1) 6 0 w) m od k.toNat).2 5 0 ≤ N + 60 * k) → (sfr σ τ) → YW g 92 14 [some (2, 0), some (0, m), some (0, c), some (0, od), some (0, k), none] [] τ (fun rv σ' => ∃ b, rv = some (0, b) ∧ ((∃ w, b = mleft (Z 0) (yset (Z 1) 6 0 w) m c od) ∧ 0 ≤ b ∧ sfr σ σ')) := by
  intro nn
  induction nn with
  | zero =>
    intro τ k hn h0 h1 h2 h3 h4 h5
    exfalso
    omega
  | succ nn ih =>
    intro τ k hn h0 h1 h2 h3 h4 h5
    have ⟨⟨he, hd, hn5, hu2, h67, hk⟩, g2, g3, g4⟩ := hg
    have e1 := he.1
    refine y_iload rfl rfl ?_
    refine y_push rfl ?_
    refine y_icge rfl (fun q17 => ?_) (fun q17 => ?_)
    · skip
      refine y_aload rfl rfl rfl ?_
      refine y_gfr (t := 37) rfl rfl (by decide) rfl (by decide) ?_
      refine y_gfr (t := 38) rfl (yS_c yS_37) (yS_0 yS_37).1 rfl (by decide) ?_
      refine y_iload rfl rfl ?_
      refine y_iald (v := (τ 38 c)) (n := 9) rfl rfl (by decide) rfl (by omega) rfl ?_
      refine y_iret rfl rfl ⟨_, rfl, ?_⟩
      have hk3 : k = 3 := by omega
      subst hk3
      have hw := h1.2.1 c (by omega) (by omega)
      have hb := h2.2.1 c (by omega) (by omega)
      exact ⟨⟨w, hw⟩, by have : τ 38 c = (mempt (Z 0) (yset (Z 1) 6 0 w) m od 3).2 0 c := hw; rw [this]; exact hb.1, h5⟩
    · skip
      have or := yord_r (i := 3 * od + k) (by omega)
      have t5 : τ 37 5 = Z 0 1 0 := h1.1.2.1.trans h3.1
      refine y_gets1 rfl ?_
      refine y_push rfl ?_
      refine y_iload rfl rfl ?_
      refine y_imul (v := (3 * od)) rfl rfl (by omega) ?_
      refine y_iload rfl rfl ?_
      refine y_iadd (v := ((3 * od) + k)) rfl rfl (by omega) ?_
      refine y_iald1 rfl (by omega) ?_
      refine y_istore (L' := [some (2, 0), some (0, m), some (0, c), some (0, od), some (0, k), some (0, (yord ((3 * od) + k)))]) rfl rfl rfl rfl ?_
      refine y_aload rfl rfl rfl ?_
      refine y_gfr (t := 37) rfl rfl (by decide) rfl (by decide) ?_
      refine y_iload rfl rfl ?_
      refine y_vi (as := [(2, 37), (0, (yord ((3 * od) + k)))]) (S := []) rfl rfl rfl rfl rfl rfl (yS_0 yS_37).1 (yS_c yS_37) (c_hasMan yS_37) ?_
      rintro _ _ ⟨rfl, rfl⟩
      refine y_ifeq rfl (fun q41 => ?_) (fun q41 => ?_)
      · skip
        replace q41 := yb_0.mp q41
        refine y_iinc (L' := [some (2, 0), some (0, m), some (0, c), some (0, od), some (0, (k + 1)), some (0, (yord ((3 * od) + k)))]) rfl rfl rfl rfl rfl (by omega) ?_
        refine y_goto rfl ?_
        refine y_forget (M := [some (2, 0), some (0, m), some (0, c), some (0, od), some (0, (k + 1)), none]) ⟨Or.inr rfl, ⟨Or.inr rfl, ⟨Or.inr rfl, ⟨Or.inr rfl, ⟨Or.inr rfl, ⟨Or.inl rfl, trivial⟩⟩⟩⟩⟩⟩ ?_
        have e : mempt (Z 0) (yset (Z 1) 6 0 w) m od (k + 1).toNat = mempt (Z 0) (yset (Z 1) 6 0 w) m od k.toNat := by rw [mempt_s (by omega), if_neg (by omega)]
        exact ih τ (k + 1) (by omega) (by omega) (by rw [e]; exact h1) (by rw [e]; exact h2) (by rw [e]; exact h3) (by rw [e]; omega) h5
      · skip
        replace q41 := yb_1.mp q41
        refine y_aload rfl rfl rfl ?_
        refine y_gfr (t := 37) rfl rfl (by decide) rfl (by decide) ?_
        refine y_iload rfl rfl ?_
        refine y_vu (as := [(2, 37), (0, m)]) (S := []) rfl rfl rfl rfl rfl rfl (yS_0 yS_37).1 (yS_c yS_37) (c_advanceBy yS_37 h1 h2.1 h2.2 (by omega) (by omega)) ?_
        rintro σ1 ⟨y1, y2⟩
        refine y_aload rfl rfl rfl ?_
        refine y_gfr (t := 37) rfl rfl (by decide) rfl (by decide) ?_
        refine y_iload rfl rfl ?_
        refine y_vi (as := [(2, 37), (0, (yord ((3 * od) + k)))]) (S := []) rfl rfl rfl rfl rfl rfl (yS_0 yS_37).1 (yS_c yS_37) (c_empty yS_37 y1 h2.1 (dG_steps h2.2 h2.1 _)) ?_
        rintro b_ σ2 (⟨hv, rfl, z1, z2⟩ | ⟨hv, rfl, rfl⟩)
        · skip
          refine y_pop rfl rfl ?_
          refine y_iinc (L' := [some (2, 0), some (0, m), some (0, c), some (0, od), some (0, (k + 1)), some (0, (yord ((3 * od) + k)))]) rfl rfl rfl rfl rfl (by omega) ?_
          refine y_goto rfl ?_
          refine y_forget (M := [some (2, 0), some (0, m), some (0, c), some (0, od), some (0, (k + 1)), none]) ⟨Or.inr rfl, ⟨Or.inr rfl, ⟨Or.inr rfl, ⟨Or.inr rfl, ⟨Or.inr rfl, ⟨Or.inl rfl, trivial⟩⟩⟩⟩⟩⟩ ?_
          have e : mempt (Z 0) (yset (Z 1) 6 0 w) m od (k + 1).toNat = (empE (mempt (Z 0) (yset (Z 1) 6 0 w) m od k.toNat).1 (yord (3 * od + k)), empD (msteps (mempt (Z 0) (yset (Z 1) 6 0 w) m od k.toNat).1 (mempt (Z 0) (yset (Z 1) 6 0 w) m od k.toNat).2 m.toNat) (yord (3 * od + k))) := by rw [mempt_s (by omega), if_pos (by omega)]
          refine ih σ2 (k + 1) (by omega) (by omega) (by rw [e]; exact z1) (by rw [e]; exact ⟨eG_emp h2.1 (by omega), dG_emp (dG_steps h2.2 h2.1 _) h2.1 (by omega)⟩) (by rw [e]; exact ⟨(slpE_g (by omega) (by omega)).trans h3.1, (slpE_g (by omega) (by omega)).trans h3.2⟩) ?_ (sfr_y (sfr_y h5 y2 (by omega)) z2 (by omega))
          rw [e]
          dsimp only
          rw [empD_5, msteps_5]
          omega
        · skip
          exfalso
          omega
theorem c_left {g : Launch × XG × va_G} {σ : YS} {Z : YZ} {I : Int → YZ} {M : YS} {N : Int} {m c od : Int} (hx : xW σ Z I M) (hg : wG Z I M N) (hN : N < 100000) (hm : 0 ≤ m ∧ m ≤ 60) (hc : 0 ≤ c ∧ c < Z 0 0 0) (ho : 0 ≤ od ∧ od < 6) : YI g 92 [(2, 0), (0, m), (0, c), (0, od)] σ (fun b σ' => (∃ w, b = mleft (Z 0) (yset (Z 1) 6 0 w) m c od) ∧ 0 ≤ b ∧ sfr σ σ') := by
  refine y_start rfl rfl rfl ?_
  have ⟨⟨hr, hu⟩, x2, x3, ⟨x4, x5⟩, x6⟩ := hx
  have ⟨⟨he, hd, hn, hu2, h67, hk⟩, g2, g3, g4⟩ := hg
  have ⟨⟨f1, f2, f3, f4⟩, f5, f6, g7, g8⟩ := hr
  have ⟨e1, e2, e3⟩ := he
  have ⟨u1, u2, u3⟩ := hu
  have x60 : σ 0 11 = M 3 0 := x6 0 (by omega) (by omega)
  have x61 : σ 0 12 = M 3 1 := x6 1 (by omega) (by omega)
  have x62 : σ 0 13 = M 3 2 := x6 2 (by omega) (by omega)
  have g40 := g4 0 (by omega) (by omega)
  have g41 := g4 1 (by omega) (by omega)
  have g42 := g4 2 (by omega) (by omega)
  have f5 : ∀ c, 0 ≤ c → c < 9 → σ 2 c = Z 1 0 c := f5
  have f6 : ∀ i, 0 ≤ i → i < Z 0 1 0 → repm σ (4 + 3 * i) (Z 0) (Z 1) i := f6
  have he0 := hg.1.1
  refine y_aload rfl rfl rfl ?_
  refine y_gfr (t := 37) rfl rfl (by decide) rfl (by decide) ?_
  refine y_aload rfl rfl rfl ?_
  refine y_gfr (t := 1) rfl rfl (by decide) rfl (by decide) ?_
  refine y_vu (as := [(2, 37), (2, 1)]) (S := []) rfl rfl rfl rfl rfl rfl (yS_0 yS_37).1 (yS_c yS_37) (c_scopy (s := 37) (z := 1) yS_37 yS_1 (by omega) hr he) ?_
  rintro σ1 ⟨z1, z2⟩
  refine y_push rfl ?_
  refine y_istore (L' := [some (2, 0), some (0, m), some (0, c), some (0, od), some (0, 0), none]) rfl rfl rfl rfl ?_
  exact l_left (w := σ 37 7) hx hg hN hm hc ho 4 σ1 0 (by omega) (by omega) z1 ⟨he0, dG_w6 hd⟩ ⟨rfl, rfl⟩ (by show 0 ≤ yset (Z 1) 6 0 (σ 37 7) 5 0 ∧ yset (Z 1) 6 0 (σ 37 7) 5 0 ≤ _; rw [yne (by omega) rfl]; omega) (sfr_y (sfr_0 _) z2 (by omega))
def kempt (Z : YZ) (m c i b : Int) : Prop := ∃ f : Int → Int, (∀ od, 0 ≤ od → od < 6 → ∃ w, f od = mleft (Z 0) (yset (Z 1) 6 0 w) m c od) ∧ b = if Z 0 1 0 ≤ i then -5 else if i = -1 then (mbest f 6).1 else yord (3 * (mbest f 6).2 + i)
theorem mbest_r (f : Int → Int) : ∀ n : Nat, 0 ≤ (mbest f n).2 ∧ ((mbest f n).2 < n ∨ (mbest f n).2 ≤ 0)
  | 0 => by unfold mbest; omega
  | n + 1 => by
    have := mbest_r f n
    unfold mbest
    split
    · show 0 ≤ (n : Int) ∧ ((n : Int) < ((n + 1 : Nat) : Int) ∨ _); omega
    · omega
theorem mbest_s {f : Int → Int} {k : Int} (h : 0 ≤ k) : mbest f (k + 1).toNat = if (mbest f k.toNat).1 < f k then (f k, k) else mbest f k.toNat := by
  rw [show (k + 1).toNat = k.toNat + 1 by omega]
  show (if (mbest f k.toNat).1 < f (k.toNat : Int) then (f (k.toNat : Int), ((k.toNat : Nat) : Int)) else mbest f k.toNat) = _
  rw [show ((k.toNat : Nat) : Int) = k by omega]
theorem mbest_c {f g : Int → Int} : ∀ n : Nat, (∀ k, 0 ≤ k → k < n → f k = g k) → mbest f n = mbest g n
  | 0, _ => rfl
  | n + 1, h => by unfold mbest; rw [mbest_c n (fun k a b => h k (by omega) (by omega)), h n (by omega) (by omega)]
theorem l_emptied {g : Launch × XG × va_G} {σ : YS} {Z : YZ} {I : Int → YZ} {M : YS} {N : Int} {m c i : Int} (hx : xW σ Z I M) (hg : wG Z I M N) (hN : N < 100000) (hm : (0 ≤ m ∧ m ≤ 60) ∧ (0 ≤ c ∧ c < Z 0 0 0) ∧ -1 ≤ i) (hi : i < Z 0 1 0) : ∀ (nn : Nat) (τ : YS) (k : Int) (be : Int) (mo : Int), 6 - k < (nn : Int) → (0 ≤ k ∧ k ≤ 6) → (∃ f : Int → Int, (∀ od, 0 ≤ od → od < k → ∃ w, f od = mleft (Z 0) (yset (Z 1) 6 0 w) m c od) ∧ be = (mbest f k.toNat).2 ∧ mo = (mbest f k.toNat).1) → (sfr σ τ) → (0 ≤ be ∧ be < 6) → YW g 91 56 [some (2, 0), some (0, m), some (0, c), some (0, i), some (0, be), some (0, mo), some (0, k), none] [] τ (fun rv σ' => ∃ b, rv = some (0, b) ∧ ((if (0 ≤ m ∧ m ≤ 60) ∧ (0 ≤ c ∧ c < Z 0 0 0) ∧ -1 ≤ i then kempt Z m c i b ∧ xW σ' Z I M else b = -10 ∧ xW σ' Z I (bump M 0)) ∧ mfr σ σ')) := by
  intro nn
  induction nn with
  | zero =>
    intro τ k be mo hn h0 h1 h2 h3
    exfalso
    omega
  | succ nn ih =>
    intro τ k be mo hn h0 h1 h2 h3
    have e2 := hg.1.1.2.1
    refine y_iload rfl rfl ?_
    refine y_push rfl ?_
    refine y_icge rfl (fun q60 => ?_) (fun q60 => ?_)
    · skip
      refine y_iload rfl rfl ?_
      refine y_push rfl ?_
      refine y_icne rfl (fun q96 => ?_) (fun q96 => ?_)
      · skip
        refine y_gets1 rfl ?_
        refine y_push rfl ?_
        refine y_iload rfl rfl ?_
        refine y_imul (v := (3 * be)) rfl rfl (by omega) ?_
        refine y_iload rfl rfl ?_
        refine y_iadd (v := ((3 * be) + i)) rfl rfl (by omega) ?_
        refine y_iald1 rfl (by omega) ?_
        refine y_iret rfl rfl ⟨_, rfl, ?_⟩
        obtain ⟨f, p1, p2, p3⟩ := h1
        have hk6 : k = 6 := by omega
        subst hk6
        exact ⟨by rw [if_pos hm]; exact ⟨⟨f, fun od a b => p1 od a b, by rw [if_neg (by omega), if_neg q96, p2]; rfl⟩, xW_sfr hg hx h2⟩, sfr_m h2⟩
      · skip
        refine y_iload rfl rfl ?_
        refine y_goto rfl ?_
        refine y_iret rfl rfl ⟨_, rfl, ?_⟩
        obtain ⟨f, p1, p2, p3⟩ := h1
        have hk6 : k = 6 := by omega
        subst hk6
        exact ⟨by rw [if_pos hm]; exact ⟨⟨f, fun od a b => p1 od a b, by rw [if_neg (by omega), if_pos q96, p3]; rfl⟩, xW_sfr hg hx h2⟩, sfr_m h2⟩
    · skip
      refine y_aload rfl rfl rfl ?_
      refine y_iload rfl rfl ?_
      refine y_iload rfl rfl ?_
      refine y_iload rfl rfl ?_
      refine y_vi (as := [(2, 0), (0, m), (0, c), (0, k)]) (S := []) rfl rfl rfl rfl rfl rfl (by decide) rfl (c_left (xW_sfr hg hx h2) hg hN (m := m) (c := c) (od := k) (by omega) (by omega) (by omega)) ?_
      rintro b_ σ1 ⟨y1, y0, y2⟩
      refine y_istore (L' := [some (2, 0), some (0, m), some (0, c), some (0, i), some (0, be), some (0, mo), some (0, k), some (0, b_)]) rfl rfl rfl rfl ?_
      refine y_iload rfl rfl ?_
      refine y_iload rfl rfl ?_
      refine y_icle rfl (fun q77 => ?_) (fun q77 => ?_)
      · skip
        refine y_iinc (L' := [some (2, 0), some (0, m), some (0, c), some (0, i), some (0, be), some (0, mo), some (0, (k + 1)), some (0, b_)]) rfl rfl rfl rfl rfl (by omega) ?_
        refine y_goto rfl ?_
        refine y_forget (M := [some (2, 0), some (0, m), some (0, c), some (0, i), some (0, be), some (0, mo), some (0, (k + 1)), none]) ⟨Or.inr rfl, ⟨Or.inr rfl, ⟨Or.inr rfl, ⟨Or.inr rfl, ⟨Or.inr rfl, ⟨Or.inr rfl, ⟨Or.inr rfl, ⟨Or.inl rfl, trivial⟩⟩⟩⟩⟩⟩⟩⟩ ?_
        obtain ⟨f, p1, p2, p3⟩ := h1
        refine ih σ1 (k + 1) be mo (by omega) (by omega) ⟨fun od => if od = k then b_ else f od, fun od a b => ?_, ?_, ?_⟩ (sfr_t h2 y2) (by omega)
        · by_cases e : od = k
          · subst e; dsimp only; rw [if_pos rfl]; exact y1
          · dsimp only; rw [if_neg e]; exact p1 od a (by omega)
        · rw [mbest_s (by omega), mbest_c (g := f) k.toNat (fun q a b => if_neg (by omega)), if_pos rfl, ← p3, if_neg (by omega)]; exact p2
        · rw [mbest_s (by omega), mbest_c (g := f) k.toNat (fun q a b => if_neg (by omega)), if_pos rfl, ← p3, if_neg (by omega)]; exact p3
      · skip
        refine y_iload rfl rfl ?_
        refine y_istore (L' := [some (2, 0), some (0, m), some (0, c), some (0, i), some (0, be), some (0, b_), some (0, k), some (0, b_)]) rfl rfl rfl rfl ?_
        refine y_iload rfl rfl ?_
        refine y_istore (L' := [some (2, 0), some (0, m), some (0, c), some (0, i), some (0, k), some (0, b_), some (0, k), some (0, b_)]) rfl rfl rfl rfl ?_
        refine y_iinc (L' := [some (2, 0), some (0, m), some (0, c), some (0, i), some (0, k), some (0, b_), some (0, (k + 1)), some (0, b_)]) rfl rfl rfl rfl rfl (by omega) ?_
        refine y_goto rfl ?_
        refine y_forget (M := [some (2, 0), some (0, m), some (0, c), some (0, i), some (0, k), some (0, b_), some (0, (k + 1)), none]) ⟨Or.inr rfl, ⟨Or.inr rfl, ⟨Or.inr rfl, ⟨Or.inr rfl, ⟨Or.inr rfl, ⟨Or.inr rfl, ⟨Or.inr rfl, ⟨Or.inl rfl, trivial⟩⟩⟩⟩⟩⟩⟩⟩ ?_
        obtain ⟨f, p1, p2, p3⟩ := h1
        refine ih σ1 (k + 1) k b_ (by omega) (by omega) ⟨fun od => if od = k then b_ else f od, fun od a b => ?_, ?_, ?_⟩ (sfr_t h2 y2) (by omega)
        · by_cases e : od = k
          · subst e; dsimp only; rw [if_pos rfl]; exact y1
          · dsimp only; rw [if_neg e]; exact p1 od a (by omega)
        · rw [mbest_s (by omega), mbest_c (g := f) k.toNat (fun q a b => if_neg (by omega)), if_pos rfl, ← p3, if_pos q77]
        · rw [mbest_s (by omega), mbest_c (g := f) k.toNat (fun q a b => if_neg (by omega)), if_pos rfl, ← p3, if_pos q77]
theorem c_emptied {g : Launch × XG × va_G} {σ : YS} {Z : YZ} {I : Int → YZ} {M : YS} {N : Int} {m c i : Int} (hx : xW σ Z I M) (hg : wG Z I M N) (hN : N < 100000) : YI g 91 [(2, 0), (0, m), (0, c), (0, i)] σ (fun b σ' => (if (0 ≤ m ∧ m ≤ 60) ∧ (0 ≤ c ∧ c < Z 0 0 0) ∧ -1 ≤ i then kempt Z m c i b ∧ xW σ' Z I M else b = -10 ∧ xW σ' Z I (bump M 0)) ∧ mfr σ σ') := by
  refine y_start rfl rfl rfl ?_
  have ⟨⟨hr, hu⟩, x2, x3, ⟨x4, x5⟩, x6⟩ := hx
  have ⟨⟨he, hd, hn, hu2, h67, hk⟩, g2, g3, g4⟩ := hg
  have ⟨⟨f1, f2, f3, f4⟩, f5, f6, g7, g8⟩ := hr
  have ⟨e1, e2, e3⟩ := he
  have ⟨u1, u2, u3⟩ := hu
  have x60 : σ 0 11 = M 3 0 := x6 0 (by omega) (by omega)
  have x61 : σ 0 12 = M 3 1 := x6 1 (by omega) (by omega)
  have x62 : σ 0 13 = M 3 2 := x6 2 (by omega) (by omega)
  have g40 := g4 0 (by omega) (by omega)
  have g41 := g4 1 (by omega) (by omega)
  have g42 := g4 2 (by omega) (by omega)
  have f5 : ∀ c, 0 ≤ c → c < 9 → σ 2 c = Z 1 0 c := f5
  have f6 : ∀ i, 0 ≤ i → i < Z 0 1 0 → repm σ (4 + 3 * i) (Z 0) (Z 1) i := f6
  refine y_iload rfl rfl ?_
  refine y_iflt rfl (fun q1 => ?_) (fun q1 => ?_)
  · skip
    refine y_aload rfl rfl rfl ?_
    refine y_push rfl ?_
    refine y_vi (as := [(2, 0), (0, (-10))]) (S := []) rfl rfl rfl rfl rfl rfl (by decide) rfl (c_bad (by omega)) ?_
    rintro _ _ ⟨rfl, rfl⟩
    refine y_iret rfl rfl ⟨_, rfl, ?_⟩
    exact ⟨by rw [if_neg (by omega)]; exact ⟨rfl, xW_bump hg hx (by omega) rfl rfl⟩, mfr_s (mfr_0 _) (by omega)⟩
  · skip
    refine y_iload rfl rfl ?_
    refine y_push rfl ?_
    refine y_icgt rfl (fun q7 => ?_) (fun q7 => ?_)
    · skip
      refine y_aload rfl rfl rfl ?_
      refine y_push rfl ?_
      refine y_vi (as := [(2, 0), (0, (-10))]) (S := []) rfl rfl rfl rfl rfl rfl (by decide) rfl (c_bad (by omega)) ?_
      rintro _ _ ⟨rfl, rfl⟩
      refine y_iret rfl rfl ⟨_, rfl, ?_⟩
      exact ⟨by rw [if_neg (by omega)]; exact ⟨rfl, xW_bump hg hx (by omega) rfl rfl⟩, mfr_s (mfr_0 _) (by omega)⟩
    · skip
      refine y_aload rfl rfl rfl ?_
      refine y_gfr (t := 1) rfl rfl (by decide) rfl (by decide) ?_
      refine y_iload rfl rfl ?_
      refine y_vi (as := [(2, 1), (0, c)]) (S := []) rfl rfl rfl rfl rfl rfl (yS_0 yS_1).1 (yS_c yS_1) (c_hasCell yS_1) ?_
      rintro _ _ ⟨rfl, rfl⟩
      refine y_ifeq rfl (fun q18 => ?_) (fun q18 => ?_)
      · skip
        replace q18 := yb_0.mp q18
        refine y_aload rfl rfl rfl ?_
        refine y_push rfl ?_
        refine y_vi (as := [(2, 0), (0, (-10))]) (S := []) rfl rfl rfl rfl rfl rfl (by decide) rfl (c_bad (by omega)) ?_
        rintro _ _ ⟨rfl, rfl⟩
        refine y_iret rfl rfl ⟨_, rfl, ?_⟩
        exact ⟨by rw [if_neg (by omega)]; exact ⟨rfl, xW_bump hg hx (by omega) rfl rfl⟩, mfr_s (mfr_0 _) (by omega)⟩
      · skip
        replace q18 := yb_1.mp q18
        refine y_iload rfl rfl ?_
        refine y_push rfl ?_
        refine y_icge rfl (fun q23 => ?_) (fun q23 => ?_)
        · skip
          refine y_iload rfl rfl ?_
          refine y_aload rfl rfl rfl ?_
          refine y_gfr (t := 1) rfl rfl (by decide) rfl (by decide) ?_
          refine y_gfi (v := (σ 1 5)) rfl (yS_c yS_1) (yS_0 yS_1).1 rfl (by decide) rfl rfl ?_
          refine y_iclt rfl (fun q41 => ?_) (fun q41 => ?_)
          · skip
            refine y_push rfl ?_
            refine y_istore (L' := [some (2, 0), some (0, m), some (0, c), some (0, i), some (0, 0), none, none, none]) rfl rfl rfl rfl ?_
            refine y_push rfl ?_
            refine y_istore (L' := [some (2, 0), some (0, m), some (0, c), some (0, i), some (0, 0), some (0, (-1)), none, none]) rfl rfl rfl rfl ?_
            refine y_push rfl ?_
            refine y_istore (L' := [some (2, 0), some (0, m), some (0, c), some (0, i), some (0, 0), some (0, (-1)), some (0, 0), none]) rfl rfl rfl rfl ?_
            exact l_emptied hx hg hN (by omega) (by omega) 7 σ 0 0 (-1) (by omega) (by omega) ⟨fun _ => 0, fun od a b => by omega, rfl, rfl⟩ (sfr_0 _) (by omega)
          · skip
            refine y_push rfl ?_
            refine y_iret rfl rfl ⟨_, rfl, ?_⟩
            exact ⟨by rw [if_pos (by omega)]; exact ⟨⟨fun od => mleft (Z 0) (yset (Z 1) 6 0 0) m c od, fun od _ _ => ⟨0, rfl⟩, by rw [if_pos (by omega)]⟩, hx⟩, mfr_0 _⟩
        · skip
          refine y_aload rfl rfl rfl ?_
          refine y_push rfl ?_
          refine y_vi (as := [(2, 0), (0, (-10))]) (S := []) rfl rfl rfl rfl rfl rfl (by decide) rfl (c_bad (by omega)) ?_
          rintro _ _ ⟨rfl, rfl⟩
          refine y_iret rfl rfl ⟨_, rfl, ?_⟩
          exact ⟨by rw [if_neg (by omega)]; exact ⟨rfl, xW_bump hg hx (by omega) rfl rfl⟩, mfr_s (mfr_0 _) (by omega)⟩
