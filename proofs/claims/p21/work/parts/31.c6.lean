theorem yand_n (x : Int) (n : Nat) (hn : n < 1000) : 0 ≤ yand x n ∧ yand x n ≤ n := by
  unfold yand
  have h : (Int32.ofInt x &&& Int32.ofInt (n : Int)).toInt = (((Int32.ofInt x).toBitVec.toNat &&& n : Nat) : Int) := by
    show BitVec.toInt ((Int32.ofInt x).toBitVec &&& (Int32.ofInt n).toBitVec) = _
    have e : (Int32.ofInt (n : Int)).toBitVec.toNat = n := by
      show (BitVec.ofInt 32 n).toNat = n
      rw [BitVec.toNat_ofInt]; omega
    rw [BitVec.toInt_eq_toNat_of_lt]
    · rw [BitVec.toNat_and, e]
    · rw [BitVec.toNat_and, e]
      have := Nat.and_le_right (n := (Int32.ofInt x).toBitVec.toNat) (m := n)
      omega
  rw [h]
  have := Nat.and_le_right (n := (Int32.ofInt x).toBitVec.toNat) (m := n)
  omega
theorem yand_3 (x : Int) : 0 ≤ yand x 3 ∧ yand x 3 ≤ 3 := yand_n x 3 (by omega)
def wout (f : Int → Int) (i : Int) : Int → Int := fun k => if k < i then f k else f (k + 1)
def wwith (f : Int → Int) (i sg : Int) : Int → Int := fun k => if k < i then f k else if k = i then sg else f (k - 1)
def wshort (n code : Int) : Int → Int := fun k => yand (yshr code (2 * (n - 1 - k))) 3
theorem bplain {f : Int → Int} : ∀ n : Nat, (∀ k, 0 ≤ k → k < n → f k ≤ 6) → bw f n = -1 ∧ bo f n = 0 ∧ bl f n = 0
  | 0, _ => ⟨rfl, rfl, rfl⟩
  | n + 1, h => by
    obtain ⟨h1, h2, h3⟩ := bplain n (fun k a b => h k a (by omega))
    have hf := h n (by omega) (by omega)
    exact ⟨bw_up h1 (by unfold bbad; omega), by rw [bo_n (by omega) (by omega)]; exact h2, bl_n (by omega)⟩
theorem bflaw_plain {f : Int → Int} {n : Nat} (h : ∀ k, 0 ≤ k → k < n → f k ≤ 6) : bflaw f n = -1 := by
  have := bplain n h
  unfold bflaw
  rw [if_neg (by omega), if_neg (by omega)]
theorem l_takeWithout {g : Launch × XG × va_G} {σ : YS} {a b n i : Int} {f : Int → Int} (ha : yN a) (hb : yN b) (hab : a + 2 < b ∨ b + 2 < a) (hl : lrn σ b f n) (hn : n ≤ 24) (hg : ∀ k, 0 ≤ k → k < n → 0 ≤ f k ∧ f k ≤ 13) (hp : 0 ≤ σ b 7 ∧ σ b 7 ≤ n) (ho : ∀ k, 0 ≤ k → k < i → σ (a + 1) k = f k) (hi : 0 ≤ i ∧ i < n) : ∀ (nn : Nat) (τ : YS) (k : Int), n - 1 - k < (nn : Int) → (i ≤ k ∧ k ≤ n - 1) → ((∀ j, 0 ≤ j → j < i → τ (a + 1) j = f j) ∧ ∀ j, i ≤ j → j < k → τ (a + 1) j = f (j + 1)) → (∀ x y, x ≠ a + 1 → τ x y = σ x y) → YW g 139 2 [some (2, a), some (2, b), some (0, i), some (0, k)] [] τ (fun rv σ' => rv = none ∧ (lrn σ' a (wout f i) (n - 1) ∧ (∀ y, 4 ≤ y → y ≠ 7 → σ' a y = σ a y) ∧ σ' a 7 = (if i < σ b 7 then σ b 7 - 1 else σ b 7) ∧ yfr σ σ' a (a + 2))) := by
  intro nn
  induction nn with
  | zero =>
    intro τ k hn h0 h1 h2
    exfalso
    omega
  | succ nn ih =>
    intro τ k hn h0 h1 h2
    have a0 := yN_0 ha
    have b0 := yN_0 hb
    have ⟨l1, l2, l3, l4⟩ := hl
    have e2 : τ b 2 = n := by rw [h2 _ _ (by omega)]; exact l1
    have e7 : τ b 7 = σ b 7 := h2 _ _ (by omega)
    refine y_iload rfl rfl ?_
    refine y_aload rfl rfl rfl ?_
    refine y_gfi (v := (τ b 2)) rfl (yN_c hb) (by have := yN_0 hb; omega) rfl (by decide) rfl rfl ?_
    refine y_push rfl ?_
    refine y_isub (v := ((τ b 2) - 1)) rfl rfl (by omega) ?_
    refine y_icge rfl (fun q9 => ?_) (fun q9 => ?_)
    · skip
      refine y_aload rfl rfl rfl ?_
      refine y_aload rfl rfl rfl ?_
      refine y_gfi (v := (τ b 2)) rfl (yN_c hb) (by have := yN_0 hb; omega) rfl (by decide) rfl rfl ?_
      refine y_push rfl ?_
      refine y_isub (v := ((τ b 2) - 1)) rfl rfl (by omega) ?_
      refine y_pfi (j := 2) rfl (yN_c ha) (by have := yN_0 ha; omega) rfl rfl rfl rfl rfl ?_
      refine y_aload rfl rfl rfl ?_
      refine y_aload rfl rfl rfl ?_
      refine y_gfi (v := (τ b 7)) rfl (yN_c hb) (by have := yN_0 hb; omega) rfl (by decide) rfl (yne (by omega) rfl) ?_
      refine y_iload rfl rfl ?_
      refine y_icle rfl (fun q48 => ?_) (fun q48 => ?_)
      · skip
        refine y_aload rfl rfl rfl ?_
        refine y_gfi (v := (τ b 7)) rfl (yN_c hb) (by have := yN_0 hb; omega) rfl (by decide) rfl (yne (by omega) rfl) ?_
        refine y_pfi (j := 7) rfl (yN_c ha) (by have := yN_0 ha; omega) rfl rfl rfl rfl rfl ?_
        refine y_aload rfl rfl rfl ?_
        have y1 : ∀ k, 0 ≤ k → k < n - 1 → (yset (yset τ a 2 ((τ b 2) - 1)) a 7 (τ b 7)) (a + 1) k = wout f i k := fun k k1 k2 => by
          unfold wout; rw [yne (by omega) rfl, yne (by omega) rfl]
          split
          · exact h1.1 k k1 (by omega)
          · exact h1.2 k (by omega) (by omega)
        have y2 : ∀ k, 0 ≤ k → k < n - 1 → 0 ≤ wout f i k ∧ wout f i k ≤ 13 := fun k k1 k2 => by
          unfold wout
          split
          · exact hg k k1 (by omega)
          · exact hg (k + 1) (by omega) (by omega)
        refine y_vu (as := [(2, a)]) (S := []) rfl rfl rfl rfl rfl rfl (by have := yN_0 ha; omega) (yN_c ha) (c_learn (n := n - 1) (f := wout f i) ha (by rw [yne (by omega) rfl, yeq]; omega) (by omega) y1 y2) ?_
        rintro σ' ⟨z1, z2⟩
        refine y_ret rfl rfl ⟨rfl, ?_⟩
        refine ⟨z1, fun y y1 y2 => ?_, ?_, fun x y hx => ?_⟩
        · rw [z2 _ _ (by omega) (by omega), yne (by omega) rfl, yne (by omega) rfl, h2 _ _ (by omega)]
        · rw [z2 _ _ (by omega) (by omega), yeq, e7]; split <;> omega
        · rw [z2 _ _ (by omega) (by omega), yne (by omega) rfl, yne (by omega) rfl, h2 _ _ (by omega)]
      · skip
        refine y_aload rfl rfl rfl ?_
        refine y_gfi (v := (τ b 7)) rfl (yN_c hb) (by have := yN_0 hb; omega) rfl (by decide) rfl (yne (by omega) rfl) ?_
        refine y_push rfl ?_
        refine y_isub (v := ((τ b 7) - 1)) rfl rfl (by omega) ?_
        refine y_goto rfl ?_
        refine y_pfi (j := 7) rfl (yN_c ha) (by have := yN_0 ha; omega) rfl rfl rfl rfl rfl ?_
        refine y_aload rfl rfl rfl ?_
        have y1 : ∀ k, 0 ≤ k → k < n - 1 → (yset (yset τ a 2 ((τ b 2) - 1)) a 7 ((τ b 7) - 1)) (a + 1) k = wout f i k := fun k k1 k2 => by
          unfold wout; rw [yne (by omega) rfl, yne (by omega) rfl]
          split
          · exact h1.1 k k1 (by omega)
          · exact h1.2 k (by omega) (by omega)
        have y2 : ∀ k, 0 ≤ k → k < n - 1 → 0 ≤ wout f i k ∧ wout f i k ≤ 13 := fun k k1 k2 => by
          unfold wout
          split
          · exact hg k k1 (by omega)
          · exact hg (k + 1) (by omega) (by omega)
        refine y_vu (as := [(2, a)]) (S := []) rfl rfl rfl rfl rfl rfl (by have := yN_0 ha; omega) (yN_c ha) (c_learn (n := n - 1) (f := wout f i) ha (by rw [yne (by omega) rfl, yeq]; omega) (by omega) y1 y2) ?_
        rintro σ' ⟨z1, z2⟩
        refine y_ret rfl rfl ⟨rfl, ?_⟩
        refine ⟨z1, fun y y1 y2 => ?_, ?_, fun x y hx => ?_⟩
        · rw [z2 _ _ (by omega) (by omega), yne (by omega) rfl, yne (by omega) rfl, h2 _ _ (by omega)]
        · rw [z2 _ _ (by omega) (by omega), yeq, e7]; split <;> omega
        · rw [z2 _ _ (by omega) (by omega), yne (by omega) rfl, yne (by omega) rfl, h2 _ _ (by omega)]
    · skip
      refine y_aload rfl rfl rfl ?_
      refine y_gfr (t := (a + 1)) rfl (yN_c ha) (by have := yN_0 ha; omega) rfl (by have := yN_0 ha; omega) ?_
      refine y_iload rfl rfl ?_
      refine y_aload rfl rfl rfl ?_
      refine y_gfr (t := (b + 1)) rfl (yN_c hb) (by have := yN_0 hb; omega) rfl (by have := yN_0 hb; omega) ?_
      refine y_iload rfl rfl ?_
      refine y_push rfl ?_
      refine y_iadd (v := (k + 1)) rfl rfl (by omega) ?_
      refine y_iald (v := (τ (b + 1) (k + 1))) (n := 24) rfl (yN_s hb) (by have := yN_0 hb; omega) rfl (by omega) rfl ?_
      refine y_iast (n := 24) rfl (yN_s ha) (by have := yN_0 ha; omega) rfl (by omega) ?_
      refine y_iinc (L' := [some (2, a), some (2, b), some (0, i), some (0, (k + 1))]) rfl rfl rfl rfl rfl (by omega) ?_
      refine y_goto rfl ?_
      refine ih (yset τ (a + 1) k (τ (b + 1) (k + 1))) (k + 1) (by omega) (by omega) ⟨fun j x y => by rw [yne (by omega) rfl]; exact h1.1 j x y, fun j x y => ?_⟩ (fun x y hx => by rw [yne (by omega) rfl]; exact h2 x y hx)
      by_cases e : j = k
      · subst e; rw [yeq, h2 _ _ (by omega)]; exact l2 (j + 1) (by omega) (by omega)
      · rw [yne (by omega) rfl]; exact h1.2 j x (by omega)
theorem c_takeWithout {g : Launch × XG × va_G} {σ : YS} {a b n i : Int} {f : Int → Int} (ha : yN a) (hb : yN b) (hab : a + 2 < b ∨ b + 2 < a) (hl : lrn σ b f n) (hn : n ≤ 24) (hg : ∀ k, 0 ≤ k → k < n → 0 ≤ f k ∧ f k ≤ 13) (hp : 0 ≤ σ b 7 ∧ σ b 7 ≤ n) (ho : ∀ k, 0 ≤ k → k < i → σ (a + 1) k = f k) (hi : 0 ≤ i ∧ i < n) : YU g 139 [(2, a), (2, b), (0, i)] σ (fun σ' => lrn σ' a (wout f i) (n - 1) ∧ (∀ y, 4 ≤ y → y ≠ 7 → σ' a y = σ a y) ∧ σ' a 7 = (if i < σ b 7 then σ b 7 - 1 else σ b 7) ∧ yfr σ σ' a (a + 2)) := by
  refine y_start rfl rfl rfl ?_
  refine y_iload rfl rfl ?_
  refine y_istore (L' := [some (2, a), some (2, b), some (0, i), some (0, i)]) rfl rfl rfl rfl ?_
  exact l_takeWithout ha hb hab hl hn hg hp ho hi (n.toNat + 1) σ i (by omega) (by omega) ⟨fun j x y => ho j x y, fun j x y => by omega⟩ (fun x y hx => rfl)
theorem c_takeWith {g : Launch × XG × va_G} {σ : YS} {a b n i sg : Int} {f : Int → Int} (ha : yN a) (hb : yN b) (hab : a + 2 < b ∨ b + 2 < a) (hl : lrn σ b f n) (hn : n < 24) (hg : ∀ k, 0 ≤ k → k < n → 0 ≤ f k ∧ f k ≤ 13) (hp : 0 ≤ σ b 7 ∧ σ b 7 ≤ n) (hi : 0 ≤ i ∧ i ≤ n) (hs : 0 ≤ sg ∧ sg ≤ 13) : YU g 140 [(2, a), (2, b), (0, i), (0, sg)] σ (fun σ' => lrn σ' a (wwith f i sg) (n + 1) ∧ (∀ y, 4 ≤ y → y ≠ 7 → σ' a y = σ a y) ∧ σ' a 7 = (if i < σ b 7 then σ b 7 + 1 else σ b 7) ∧ yfr σ σ' a (a + 2)) := by
  refine y_start rfl rfl rfl ?_
  have a0 := yN_0 ha
  have b0 := yN_0 hb
  have ⟨l1, l2, l3, l4⟩ := hl
  refine y_aload rfl rfl rfl ?_
  refine y_gfr (t := (b + 1)) rfl (yN_c hb) (by have := yN_0 hb; omega) rfl (by have := yN_0 hb; omega) ?_
  refine y_push rfl ?_
  refine y_aload rfl rfl rfl ?_
  refine y_gfr (t := (a + 1)) rfl (yN_c ha) (by have := yN_0 ha; omega) rfl (by have := yN_0 ha; omega) ?_
  refine y_push rfl ?_
  refine y_iload rfl rfl ?_
  refine y_acopy (v := 24) (w := 24) rfl (yN_s hb) (yN_s ha) ⟨(by have := yN_0 hb; omega), (by have := yN_0 ha; omega)⟩ rfl rfl (by omega) rfl ?_
  refine y_aload rfl rfl rfl ?_
  refine y_gfr (t := (a + 1)) rfl (yN_c ha) (by have := yN_0 ha; omega) rfl (by have := yN_0 ha; omega) ?_
  refine y_iload rfl rfl ?_
  refine y_iload rfl rfl ?_
  refine y_iast (n := 24) rfl (yN_s ha) (by have := yN_0 ha; omega) rfl (by omega) ?_
  refine y_aload rfl rfl rfl ?_
  refine y_gfr (t := (b + 1)) rfl (yN_c hb) (by have := yN_0 hb; omega) rfl (by have := yN_0 hb; omega) ?_
  refine y_iload rfl rfl ?_
  refine y_aload rfl rfl rfl ?_
  refine y_gfr (t := (a + 1)) rfl (yN_c ha) (by have := yN_0 ha; omega) rfl (by have := yN_0 ha; omega) ?_
  refine y_iload rfl rfl ?_
  refine y_push rfl ?_
  refine y_iadd (v := (i + 1)) rfl rfl (by omega) ?_
  refine y_aload rfl rfl rfl ?_
  refine y_gfi (v := (σ b 2)) rfl (yN_c hb) (by have := yN_0 hb; omega) rfl (by decide) rfl (yne (by omega) (ycn (by omega) rfl)) ?_
  refine y_iload rfl rfl ?_
  refine y_isub (v := ((σ b 2) - i)) rfl rfl (by omega) ?_
  refine y_acopy (v := 24) (w := 24) rfl (yN_s hb) (yN_s ha) ⟨(by have := yN_0 hb; omega), (by have := yN_0 ha; omega)⟩ rfl rfl (by omega) rfl ?_
  refine y_aload rfl rfl rfl ?_
  refine y_aload rfl rfl rfl ?_
  refine y_gfi (v := (σ b 2)) rfl (yN_c hb) (by have := yN_0 hb; omega) rfl (by decide) rfl (ycn (by omega) (yne (by omega) (ycn (by omega) rfl))) ?_
  refine y_push rfl ?_
  refine y_iadd (v := ((σ b 2) + 1)) rfl rfl (by omega) ?_
  refine y_pfi (j := 2) rfl (yN_c ha) (by have := yN_0 ha; omega) rfl rfl rfl rfl rfl ?_
  refine y_aload rfl rfl rfl ?_
  refine y_aload rfl rfl rfl ?_
  refine y_gfi (v := (σ b 7)) rfl (yN_c hb) (by have := yN_0 hb; omega) rfl (by decide) rfl (yne (by omega) (ycn (by omega) (yne (by omega) (ycn (by omega) rfl)))) ?_
  refine y_iload rfl rfl ?_
  refine y_icle rfl (fun q58 => ?_) (fun q58 => ?_)
  · skip
    refine y_aload rfl rfl rfl ?_
    refine y_gfi (v := (σ b 7)) rfl (yN_c hb) (by have := yN_0 hb; omega) rfl (by decide) rfl (yne (by omega) (ycn (by omega) (yne (by omega) (ycn (by omega) rfl)))) ?_
    refine y_pfi (j := 7) rfl (yN_c ha) (by have := yN_0 ha; omega) rfl rfl rfl rfl rfl ?_
    refine y_aload rfl rfl rfl ?_
    have y1 : ∀ k, 0 ≤ k → k < n + 1 → (yset (yset (ycopy (yset (ycopy σ (b + 1) 0 (a + 1) 0 i) (a + 1) i sg) (b + 1) i (a + 1) (i + 1) ((σ b 2) - i)) a 2 ((σ b 2) + 1)) a 7 (σ b 7)) (a + 1) k = wwith f i sg k := fun k k1 k2 => by
      rw [yne (by omega) rfl, yne (by omega) rfl]; unfold wwith
      split
      · rw [ycn (by omega) rfl, yne (by omega) rfl]; unfold ycopy; rw [if_pos (by omega), Int.sub_zero, Int.add_zero]; exact l2 k k1 (by omega)
      split
      · rename_i e; rw [e, ycn (by omega) rfl, yeq]
      · unfold ycopy; rw [if_pos (by omega), yne (by omega) rfl, if_neg (by omega), show k - (i + 1) + i = k - 1 by omega]; exact l2 (k - 1) (by omega) (by omega)
    have y2 : ∀ k, 0 ≤ k → k < n + 1 → 0 ≤ wwith f i sg k ∧ wwith f i sg k ≤ 13 := fun k k1 k2 => by
      unfold wwith
      split
      · exact hg k k1 (by omega)
      split
      · exact hs
      · exact hg (k - 1) (by omega) (by omega)
    refine y_vu (as := [(2, a)]) (S := []) rfl rfl rfl rfl rfl rfl (by have := yN_0 ha; omega) (yN_c ha) (c_learn (n := n + 1) (f := wwith f i sg) ha (by rw [yne (by omega) rfl, yeq]; omega) (by omega) y1 y2) ?_
    rintro σ' ⟨z1, z2⟩
    refine y_ret rfl rfl ⟨rfl, ?_⟩
    refine ⟨z1, fun y y1 y2 => ?_, ?_, fun x y hx => ?_⟩
    · rw [z2 _ _ (by omega) (by omega), yne (by omega) rfl, yne (by omega) rfl, ycn (by omega) rfl, yne (by omega) rfl, ycn (by omega) rfl]
    · rw [z2 _ _ (by omega) (by omega), yeq]; split <;> omega
    · rw [z2 _ _ (by omega) (by omega), yne (by omega) rfl, yne (by omega) rfl, ycn (by omega) rfl, yne (by omega) rfl, ycn (by omega) rfl]
  · skip
    refine y_aload rfl rfl rfl ?_
    refine y_gfi (v := (σ b 7)) rfl (yN_c hb) (by have := yN_0 hb; omega) rfl (by decide) rfl (yne (by omega) (ycn (by omega) (yne (by omega) (ycn (by omega) rfl)))) ?_
    refine y_push rfl ?_
    refine y_iadd (v := ((σ b 7) + 1)) rfl rfl (by omega) ?_
    refine y_goto rfl ?_
    refine y_pfi (j := 7) rfl (yN_c ha) (by have := yN_0 ha; omega) rfl rfl rfl rfl rfl ?_
    refine y_aload rfl rfl rfl ?_
    have y1 : ∀ k, 0 ≤ k → k < n + 1 → (yset (yset (ycopy (yset (ycopy σ (b + 1) 0 (a + 1) 0 i) (a + 1) i sg) (b + 1) i (a + 1) (i + 1) ((σ b 2) - i)) a 2 ((σ b 2) + 1)) a 7 ((σ b 7) + 1)) (a + 1) k = wwith f i sg k := fun k k1 k2 => by
      rw [yne (by omega) rfl, yne (by omega) rfl]; unfold wwith
      split
      · rw [ycn (by omega) rfl, yne (by omega) rfl]; unfold ycopy; rw [if_pos (by omega), Int.sub_zero, Int.add_zero]; exact l2 k k1 (by omega)
      split
      · rename_i e; rw [e, ycn (by omega) rfl, yeq]
      · unfold ycopy; rw [if_pos (by omega), yne (by omega) rfl, if_neg (by omega), show k - (i + 1) + i = k - 1 by omega]; exact l2 (k - 1) (by omega) (by omega)
    have y2 : ∀ k, 0 ≤ k → k < n + 1 → 0 ≤ wwith f i sg k ∧ wwith f i sg k ≤ 13 := fun k k1 k2 => by
      unfold wwith
      split
      · exact hg k k1 (by omega)
      split
      · exact hs
      · exact hg (k - 1) (by omega) (by omega)
    refine y_vu (as := [(2, a)]) (S := []) rfl rfl rfl rfl rfl rfl (by have := yN_0 ha; omega) (yN_c ha) (c_learn (n := n + 1) (f := wwith f i sg) ha (by rw [yne (by omega) rfl, yeq]; omega) (by omega) y1 y2) ?_
    rintro σ' ⟨z1, z2⟩
    refine y_ret rfl rfl ⟨rfl, ?_⟩
    refine ⟨z1, fun y y1 y2 => ?_, ?_, fun x y hx => ?_⟩
    · rw [z2 _ _ (by omega) (by omega), yne (by omega) rfl, yne (by omega) rfl, ycn (by omega) rfl, yne (by omega) rfl, ycn (by omega) rfl]
    · rw [z2 _ _ (by omega) (by omega), yeq]; split <;> omega
    · rw [z2 _ _ (by omega) (by omega), yne (by omega) rfl, yne (by omega) rfl, ycn (by omega) rfl, yne (by omega) rfl, ycn (by omega) rfl]
theorem c_shortSign {g : Launch × XG × va_G} {σ : YS} {n code k : Int} (hn : 0 ≤ n ∧ n ≤ 10) (hk : 0 ≤ k ∧ k < n) : YI g 115 [(0, n), (0, code), (0, k)] σ (fun b σ' => σ = σ' ∧ wshort n code k = b) := by
  refine y_start rfl rfl rfl ?_
  refine y_iload rfl rfl ?_
  refine y_push rfl ?_
  refine y_iload rfl rfl ?_
  refine y_push rfl ?_
  refine y_isub (v := (n - 1)) rfl rfl (by omega) ?_
  refine y_iload rfl rfl ?_
  refine y_isub (v := ((n - 1) - k)) rfl rfl (by omega) ?_
  refine y_imul (v := (2 * ((n - 1) - k))) rfl rfl (by omega) ?_
  refine y_ishr (v := (yshr code (2 * ((n - 1) - k)))) rfl rfl ?_
  refine y_push rfl ?_
  refine y_iand (v := (yand (yshr code (2 * ((n - 1) - k))) 3)) rfl rfl ?_
  refine y_iret rfl rfl ⟨_, rfl, ?_⟩
  exact ⟨rfl, rfl⟩
theorem l_takeShort {g : Launch × XG × va_G} {σ : YS} {a n code : Int} (ha : yN a) (hn : 0 ≤ n ∧ n ≤ 10) : ∀ (nn : Nat) (τ : YS) (k : Int), n - k < (nn : Int) → (0 ≤ k ∧ k ≤ n) → (∀ j, 0 ≤ j → j < k → τ (a + 1) j = wshort n code j) → (∀ x y, x ≠ a + 1 → τ x y = σ x y) → YW g 141 2 [some (2, a), some (0, n), some (0, code), some (0, k)] [] τ (fun rv σ' => rv = none ∧ (lrn σ' a (wshort n code) n ∧ (∀ y, 4 ≤ y → y ≤ 6 → σ' a y = σ a y) ∧ σ' a 7 = 0 ∧ σ' a 8 = 0 ∧ yfr σ σ' a (a + 2))) := by
  intro nn
  induction nn with
  | zero =>
    intro τ k hn h0 h1 h2
    exfalso
    omega
  | succ nn ih =>
    intro τ k hn h0 h1 h2
    have a0 := yN_0 ha
    refine y_iload rfl rfl ?_
    refine y_iload rfl rfl ?_
    refine y_icge rfl (fun q4 => ?_) (fun q4 => ?_)
    · skip
      refine y_aload rfl rfl rfl ?_
      refine y_iload rfl rfl ?_
      refine y_pfi (j := 2) rfl (yN_c ha) (by have := yN_0 ha; omega) rfl rfl rfl rfl rfl ?_
      refine y_aload rfl rfl rfl ?_
      refine y_push rfl ?_
      refine y_pfi (j := 7) rfl (yN_c ha) (by have := yN_0 ha; omega) rfl rfl rfl rfl rfl ?_
      refine y_aload rfl rfl rfl ?_
      refine y_push rfl ?_
      refine y_pfz (j := 8) rfl (yN_c ha) (by have := yN_0 ha; omega) rfl rfl rfl rfl rfl (by decide) ?_
      refine y_aload rfl rfl rfl ?_
      refine y_push rfl ?_
      refine y_pfi (j := 3) rfl (yN_c ha) (by have := yN_0 ha; omega) rfl rfl rfl rfl rfl ?_
      refine y_ret rfl rfl ⟨rfl, ?_⟩
      have hfl : bflaw (wshort n code) n.toNat = -1 := bflaw_plain (fun k x y => by have := yand_3 (yshr code (2 * (n - 1 - k))); unfold wshort; omega)
      refine ⟨⟨?_, fun k x y => ?_, ?_, fun _ k x y q => ?_⟩, fun y y1 y2 => ?_, ?_, ?_, fun x y hx => ?_⟩
      · rw [yne (by omega) rfl, yne (by omega) rfl, yne (by omega) rfl, yeq]
      · rw [yne (by omega) rfl, yne (by omega) rfl, yne (by omega) rfl, yne (by omega) rfl]; exact h1 k x (by omega)
      · rw [yeq, hfl]
      · exfalso; have := yand_3 (yshr code (2 * (n - 1 - k))); unfold wshort at q; omega
      · rw [yne (by omega) rfl, yne (by omega) rfl, yne (by omega) rfl, yne (by omega) rfl, h2 _ _ (by omega)]
      · rw [yne (by omega) rfl, yne (by omega) rfl, yeq]
      · rw [yne (by omega) rfl, yeq]
      · rw [yne (by omega) rfl, yne (by omega) rfl, yne (by omega) rfl, yne (by omega) rfl, h2 _ _ (by omega)]
    · skip
      refine y_aload rfl rfl rfl ?_
      refine y_gfr (t := (a + 1)) rfl (yN_c ha) (by have := yN_0 ha; omega) rfl (by have := yN_0 ha; omega) ?_
      refine y_iload rfl rfl ?_
      refine y_iload rfl rfl ?_
      refine y_iload rfl rfl ?_
      refine y_iload rfl rfl ?_
      refine y_ni (as := [(0, n), (0, code), (0, k)]) (S := [(0, k), (2, (a + 1))]) rfl rfl rfl rfl rfl (c_shortSign (by omega) (by omega)) ?_
      rintro _ _ ⟨rfl, rfl⟩
      refine y_iast (n := 24) rfl (yN_s ha) (by have := yN_0 ha; omega) rfl (by omega) ?_
      refine y_iinc (L' := [some (2, a), some (0, n), some (0, code), some (0, (k + 1))]) rfl rfl rfl rfl rfl (by omega) ?_
      refine y_goto rfl ?_
      refine ih (yset τ (a + 1) k (wshort n code k)) (k + 1) (by omega) (by omega) (fun j x y => ?_) (fun x y hx => by rw [yne (by omega) rfl]; exact h2 x y hx)
      by_cases e : j = k
      · subst e; rw [yeq]
      · rw [yne (by omega) rfl]; exact h1 j x (by omega)
theorem c_takeShort {g : Launch × XG × va_G} {σ : YS} {a n code : Int} (ha : yN a) (hn : 0 ≤ n ∧ n ≤ 10) : YU g 141 [(2, a), (0, n), (0, code)] σ (fun σ' => lrn σ' a (wshort n code) n ∧ (∀ y, 4 ≤ y → y ≤ 6 → σ' a y = σ a y) ∧ σ' a 7 = 0 ∧ σ' a 8 = 0 ∧ yfr σ σ' a (a + 2)) := by
  refine y_start rfl rfl rfl ?_
  refine y_push rfl ?_
  refine y_istore (L' := [some (2, a), some (0, n), some (0, code), some (0, 0)]) rfl rfl rfl rfl ?_
  exact l_takeShort ha hn 11 σ 0 (by omega) (by omega) (fun j x y => by omega) (fun x y hx => rfl)
/-- what is kept of the last steps -/
def pst (σ : YS) (p n : Int) (E : YS) (u : Int) (U : Int → YS) : Prop := σ p 1 = u ∧ (0 ≤ u ∧ u ≤ 20 ∧ u ≤ n) ∧ ∀ k, 0 ≤ k → k < u → rowc σ (p + 2 + (n - 1 - k) % 20) E (U k)
def upush (U : Int → YS) (D : YS) : Int → YS := fun k => if k = 0 then D else U (k - 1)
def upop (U : Int → YS) : Int → YS := fun k => U (k + 1)
theorem c_keep {g : Launch × XG × va_G} {σ : YS} {p s u : Int} {E D : YS} {U : Int → YS} (hp : yP p) (hs : yS s) (hps : s + 13 < p ∨ p + 21 < s) (hr : rep σ s E D) (he : eG E) (hn : 0 ≤ D 5 0 ∧ D 5 0 < 1000000) (hu : pst σ p (D 5 0) E u U) : YU g 49 [(2, p), (2, s)] σ (fun σ' => pst σ' p (D 5 0 + 1) E (min (u + 1) 20) (upush U D) ∧ yfr σ σ' p (p + 21)) := by
  refine y_start rfl rfl rfl ?_
  have p0 := yP_0 hp
  have s0 := yS_0 hs
  have ⟨⟨f1, f2, f3, f4⟩, f5, f6, g7, g8⟩ := hr
  have ⟨e1, e2, e3⟩ := he
  have ⟨u1, u2, u3⟩ := hu
  refine y_aload rfl rfl rfl ?_
  refine y_aload rfl rfl rfl ?_
  refine y_gfr (t := (p + 1)) rfl (yP_c hp) (by have := yP_0 hp; omega) rfl (by have := yP_0 hp; omega) ?_
  refine y_aload rfl rfl rfl ?_
  refine y_gfi (v := (σ s 6)) rfl (yS_c hs) (yS_0 hs).1 rfl (by decide) rfl rfl ?_
  refine y_push rfl ?_
  refine y_irem (v := ((σ s 6) % 20)) rfl rfl (by omega) ?_
  refine y_aald (v := ((p + 2) + ((σ s 6) % 20))) (n := 20) rfl (yP_w hp) (by have := yP_0 hp; omega) rfl (by omega) (yone _ _) ?_
  refine y_vu (as := [(2, s), (2, ((p + 2) + ((σ s 6) % 20)))]) (S := []) rfl rfl rfl rfl rfl rfl (yS_0 hs).1 (yS_c hs) (c_save hs (yP_r (p := p) (j := ((σ s 6) % 20)) hp (by omega)) (by omega) hr he) ?_
  rintro σ' ⟨z1, z2⟩
  refine y_aload rfl rfl rfl ?_
  refine y_aload rfl rfl rfl ?_
  refine y_gfi (v := (σ' p 1)) rfl (yP_c hp) (by have := yP_0 hp; omega) rfl (by decide) rfl rfl ?_
  refine y_push rfl ?_
  refine y_iadd (v := ((σ' p 1) + 1)) rfl rfl (by rw [z2 _ _ (by omega)]; omega) ?_
  refine y_push rfl ?_
  refine y_min (v := (min ((σ' p 1) + 1) 20)) rfl rfl rfl ?_
  refine y_pfi (j := 1) rfl (yP_c hp) (by have := yP_0 hp; omega) rfl rfl rfl rfl rfl ?_
  refine y_ret rfl rfl ⟨rfl, ?_⟩
  have hk : σ' p 1 = u := by rw [z2 _ _ (by omega)]; exact u1
  have hm : min (u + 1) 20 = min (σ' p 1 + 1) 20 := by rw [hk]
  refine ⟨⟨by rw [yeq, hk], by omega, fun k k1 k2 => ?_⟩, fun x y hx => by rw [yne (by omega) rfl]; exact z2 x y (by omega)⟩
  refine rowc_cong e2 ?_ (fun c x y => yne (by omega) rfl)
  unfold upush
  split
  · rename_i e; subst e; rw [show D 5 0 + 1 - 1 - 0 = σ s 6 by omega]; exact z1
  · have := u3 (k - 1) (by omega) (by omega); rw [show D 5 0 + 1 - 1 - k = D 5 0 - 1 - (k - 1) by omega]; exact rowc_cong e2 this (fun c x y => z2 _ _ (by omega))
theorem c_giveBack {g : Launch × XG × va_G} {σ : YS} {p s u : Int} {E D : YS} {U : Int → YS} (hp : yP p) (hs : yS s) (hps : s + 13 < p ∨ p + 21 < s) (hr : rep σ s E D) (he : eG E) (hn : 0 ≤ D 5 0 ∧ D 5 0 < 1000000) (hu : pst σ p (D 5 0) E u U) (hup : 0 < u) : YU g 143 [(2, p), (2, s)] σ (fun σ' => rep σ' s E (yset (U 0) 6 0 (D 6 0)) ∧ pst σ' p (D 5 0 - 1) E (u - 1) (upop U) ∧ ∀ x y, (x < s ∨ s + 11 < x) → x ≠ p → σ' x y = σ x y) := by
  refine y_start rfl rfl rfl ?_
  have p0 := yP_0 hp
  have s0 := yS_0 hs
  have ⟨⟨f1, f2, f3, f4⟩, f5, f6, g7, g8⟩ := hr
  have ⟨e1, e2, e3⟩ := he
  have ⟨u1, u2, u3⟩ := hu
  refine y_aload rfl rfl rfl ?_
  refine y_aload rfl rfl rfl ?_
  refine y_gfr (t := (p + 1)) rfl (yP_c hp) (by have := yP_0 hp; omega) rfl (by have := yP_0 hp; omega) ?_
  refine y_aload rfl rfl rfl ?_
  refine y_gfi (v := (σ s 6)) rfl (yS_c hs) (yS_0 hs).1 rfl (by decide) rfl rfl ?_
  refine y_push rfl ?_
  refine y_isub (v := ((σ s 6) - 1)) rfl rfl (by omega) ?_
  refine y_push rfl ?_
  refine y_irem (v := (((σ s 6) - 1) % 20)) rfl rfl (by omega) ?_
  refine y_aald (v := ((p + 2) + (((σ s 6) - 1) % 20))) (n := 20) rfl (yP_w hp) (by have := yP_0 hp; omega) rfl (by omega) (yone _ _) ?_
  have hc := u3 0 (by omega) (by omega)
  rw [show D 5 0 - 1 - 0 = σ s 6 - 1 by omega] at hc
  refine y_vu (as := [(2, s), (2, ((p + 2) + (((σ s 6) - 1) % 20)))]) (S := []) rfl rfl rfl rfl rfl rfl (yS_0 hs).1 (yS_c hs) (c_load hs (yP_r (p := p) (j := (((σ s 6) - 1) % 20)) hp (by omega)) (by omega) hr he hc) ?_
  rintro σ' ⟨z1, z2⟩
  refine y_aload rfl rfl rfl ?_
  refine y_dup rfl rfl ?_
  refine y_gfi (v := (σ' p 1)) rfl (yP_c hp) (by have := yP_0 hp; omega) rfl (by decide) rfl rfl ?_
  refine y_push rfl ?_
  refine y_isub (v := ((σ' p 1) - 1)) rfl rfl (by rw [z2 _ _ (by omega)]; omega) ?_
  refine y_pfi (j := 1) rfl (yP_c hp) (by have := yP_0 hp; omega) rfl rfl rfl rfl rfl ?_
  refine y_ret rfl rfl ⟨rfl, ?_⟩
  have hk : σ' p 1 = u := by rw [z2 _ _ (by omega)]; exact u1
  refine ⟨rep_cong e2.2 z1 (fun x y x1 x2 => yne (by omega) rfl), ⟨by rw [yeq, hk], by omega, fun k k1 k2 => ?_⟩, fun x y hx hx2 => by rw [yne (by omega) rfl]; exact z2 x y (by omega)⟩
  refine rowc_cong e2 ?_ (fun c x y => yne (by omega) rfl)
  have := u3 (k + 1) (by omega) (by omega)
  rw [show D 5 0 - 1 - 1 - k = D 5 0 - 1 - (k + 1) by omega]
  exact rowc_cong e2 this (fun c x y => z2 _ _ (by omega))
theorem l_pcopy {g : Launch × XG × va_G} {σ : YS} {p z : Int} (hp : yP p) (hz : yP z) (hpz : p ≠ z) : ∀ (nn : Nat) (τ : YS) (i : Int), 20 - i < (nn : Int) → (0 ≤ i ∧ i ≤ 20) → (τ p 1 = σ z 1) → (∀ j, 0 ≤ j → j < i → ∀ c, 0 ≤ c → c < 22 → τ (p + 2 + j) c = σ (z + 2 + j) c) → (yfr σ τ p (p + 21)) → YW g 95 10 [some (2, p), some (2, z), some (0, i)] [] τ (fun rv σ' => rv = none ∧ (σ' p 1 = σ z 1 ∧ (∀ j, 0 ≤ j → j < 20 → ∀ c, 0 ≤ c → c < 22 → σ' (p + 2 + j) c = σ (z + 2 + j) c) ∧ yfr σ σ' p (p + 21))) := by
  intro nn
  induction nn with
  | zero =>
    intro τ i hn h0 h1 h2 h3
    exfalso
    omega
  | succ nn ih =>
    intro τ i hn h0 h1 h2 h3
    have p0 := yP_0 hp
    have z0 := yP_0 hz
    have hg : p + 21 < z ∨ z + 21 < p := by unfold yP at hp hz; omega
    refine y_iload rfl rfl ?_
    refine y_push rfl ?_
    refine y_icge rfl (fun q13 => ?_) (fun q13 => ?_)
    · skip
      refine y_ret rfl rfl ⟨rfl, ?_⟩
      exact ⟨h1, fun j x y => h2 j x (by omega), h3⟩
    · skip
      refine y_aload rfl rfl rfl ?_
      refine y_gfr (t := (z + 1)) rfl (yP_c hz) (by have := yP_0 hz; omega) rfl (by have := yP_0 hz; omega) ?_
      refine y_iload rfl rfl ?_
      refine y_aald (v := ((z + 2) + i)) (n := 20) rfl (yP_w hz) (by have := yP_0 hz; omega) rfl (by omega) (yone _ _) ?_
      refine y_push rfl ?_
      refine y_aload rfl rfl rfl ?_
      refine y_gfr (t := (p + 1)) rfl (yP_c hp) (by have := yP_0 hp; omega) rfl (by have := yP_0 hp; omega) ?_
      refine y_iload rfl rfl ?_
      refine y_aald (v := ((p + 2) + i)) (n := 20) rfl (yP_w hp) (by have := yP_0 hp; omega) rfl (by omega) (yone _ _) ?_
      refine y_push rfl ?_
      refine y_push rfl ?_
      refine y_acopy (v := 22) (w := 22) rfl (yP_r (p := z) (j := i) hz (by omega)).2 (yP_r (p := p) (j := i) hp (by omega)).2 ⟨(yP_r (p := z) (j := i) hz (by omega)).1, (yP_r (p := p) (j := i) hp (by omega)).1⟩ rfl rfl (by omega) rfl ?_
      refine y_iinc (L' := [some (2, p), some (2, z), some (0, (i + 1))]) rfl rfl rfl rfl rfl (by omega) ?_
      refine y_goto rfl ?_
      refine ih (ycopy τ ((z + 2) + i) 0 ((p + 2) + i) 0 22) (i + 1) (by omega) (by omega) (by rw [ycn (by omega) rfl]; exact h1) (fun j x y c c1 c2 => ?_) (yfr_cp h3 (by omega))
      by_cases e : j = i
      · subst e; unfold ycopy; rw [if_pos (by omega), Int.sub_zero, Int.add_zero]; exact h3 _ _ (by omega)
      · rw [ycn (by omega) rfl]; exact h2 j x (by omega) c c1 c2
theorem c_pcopy {g : Launch × XG × va_G} {σ : YS} {p z : Int} (hp : yP p) (hz : yP z) (hpz : p ≠ z) : YU g 95 [(2, p), (2, z)] σ (fun σ' => σ' p 1 = σ z 1 ∧ (∀ j, 0 ≤ j → j < 20 → ∀ c, 0 ≤ c → c < 22 → σ' (p + 2 + j) c = σ (z + 2 + j) c) ∧ yfr σ σ' p (p + 21)) := by
  refine y_start rfl rfl rfl ?_
  have p0 := yP_0 hp
  have z0 := yP_0 hz
  have hg : p + 21 < z ∨ z + 21 < p := by unfold yP at hp hz; omega
  refine y_aload rfl rfl rfl ?_
  refine y_aload rfl rfl rfl ?_
  refine y_gfi (v := (σ z 1)) rfl (yP_c hz) (by have := yP_0 hz; omega) rfl (by decide) rfl rfl ?_
  refine y_pfi (j := 1) rfl (yP_c hp) (by have := yP_0 hp; omega) rfl rfl rfl rfl rfl ?_
  refine y_push rfl ?_
  refine y_istore (L' := [some (2, p), some (2, z), some (0, 0)]) rfl rfl rfl rfl ?_
  exact l_pcopy hp hz hpz 21 (yset σ p 1 (σ z 1)) 0 (by omega) (by omega) (by rw [yeq]) (fun j x y => by omega) (yfr_set (yfr_refl _ _ _) (by omega))
