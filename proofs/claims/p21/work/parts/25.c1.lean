theorem c_hasMan {g : Launch × XG × va_G} {σ : YS} {s m : Int} (hs : yS s) : YI g 26 [(2, s), (0, m)] σ (fun b σ' => σ = σ' ∧ yb (0 ≤ m ∧ m < σ s 5) = b) := by
  refine y_start rfl rfl rfl ?_
  refine y_iload rfl rfl ?_
  refine y_iflt rfl (fun q1 => ?_) (fun q1 => ?_)
  · skip
    refine y_push rfl ?_
    refine y_zret rfl rfl (by decide) ⟨_, rfl, ?_⟩
    exact ⟨rfl, by unfold yb; split <;> omega⟩
  · skip
    refine y_iload rfl rfl ?_
    refine y_aload rfl rfl rfl ?_
    refine y_gfi (v := (σ s 5)) rfl (yS_c hs) (yS_0 hs).1 rfl (by decide) rfl rfl ?_
    refine y_icge rfl (fun q9 => ?_) (fun q9 => ?_)
    · skip
      refine y_push rfl ?_
      refine y_zret rfl rfl (by decide) ⟨_, rfl, ?_⟩
      exact ⟨rfl, by unfold yb; split <;> omega⟩
    · skip
      refine y_push rfl ?_
      refine y_goto rfl ?_
      refine y_zret rfl rfl (by decide) ⟨_, rfl, ?_⟩
      exact ⟨rfl, by unfold yb; split <;> omega⟩
theorem c_hasCell {g : Launch × XG × va_G} {σ : YS} {s c : Int} (hs : yS s) : YI g 15 [(2, s), (0, c)] σ (fun b σ' => σ = σ' ∧ yb (0 ≤ c ∧ c < σ s 4) = b) := by
  refine y_start rfl rfl rfl ?_
  refine y_iload rfl rfl ?_
  refine y_iflt rfl (fun q1 => ?_) (fun q1 => ?_)
  · skip
    refine y_push rfl ?_
    refine y_zret rfl rfl (by decide) ⟨_, rfl, ?_⟩
    exact ⟨rfl, by unfold yb; split <;> omega⟩
  · skip
    refine y_iload rfl rfl ?_
    refine y_aload rfl rfl rfl ?_
    refine y_gfi (v := (σ s 4)) rfl (yS_c hs) (yS_0 hs).1 rfl (by decide) rfl rfl ?_
    refine y_icge rfl (fun q9 => ?_) (fun q9 => ?_)
    · skip
      refine y_push rfl ?_
      refine y_zret rfl rfl (by decide) ⟨_, rfl, ?_⟩
      exact ⟨rfl, by unfold yb; split <;> omega⟩
    · skip
      refine y_push rfl ?_
      refine y_goto rfl ?_
      refine y_zret rfl rfl (by decide) ⟨_, rfl, ?_⟩
      exact ⟨rfl, by unfold yb; split <;> omega⟩
/-- he has stopped -/
abbrev mst (σ : YS) (a : Int) : Prop := σ a 8 ≠ 0 ∨ σ a 2 = 0 ∨ σ a 3 ≠ -1
/-- how many of the first n go on -/
def maw (σ : YS) (s : Int) : Nat → Int
  | 0 => 0
  | n + 1 => maw σ s n + if mst σ (s + 3 + 3 * (n : Int)) then 0 else 1
theorem c_hasStopped {g : Launch × XG × va_G} {σ : YS} {a : Int} (ha : yN a) : YI g 136 [(2, a)] σ (fun b σ' => σ = σ' ∧ yb (mst σ a) = b) := by
  refine y_start rfl rfl rfl ?_
  refine y_aload rfl rfl rfl ?_
  refine y_gfi (v := (σ a 8)) rfl (yN_c ha) (by have := yN_0 ha; omega) rfl (by decide) rfl rfl ?_
  refine y_ifne rfl (fun q4 => ?_) (fun q4 => ?_)
  · skip
    refine y_push rfl ?_
    refine y_goto rfl ?_
    refine y_zret rfl rfl (by decide) ⟨_, rfl, ?_⟩
    exact ⟨rfl, by unfold yb; split <;> omega⟩
  · skip
    refine y_aload rfl rfl rfl ?_
    refine y_gfi (v := (σ a 2)) rfl (yN_c ha) (by have := yN_0 ha; omega) rfl (by decide) rfl rfl ?_
    refine y_ifeq rfl (fun q11 => ?_) (fun q11 => ?_)
    · skip
      refine y_push rfl ?_
      refine y_goto rfl ?_
      refine y_zret rfl rfl (by decide) ⟨_, rfl, ?_⟩
      exact ⟨rfl, by unfold yb; split <;> omega⟩
    · skip
      refine y_aload rfl rfl rfl ?_
      refine y_gfi (v := (σ a 3)) rfl (yN_c ha) (by have := yN_0 ha; omega) rfl (by decide) rfl rfl ?_
      refine y_push rfl ?_
      refine y_iceq rfl (fun q19 => ?_) (fun q19 => ?_)
      · skip
        refine y_push rfl ?_
        refine y_zret rfl rfl (by decide) ⟨_, rfl, ?_⟩
        exact ⟨rfl, by unfold yb; split <;> omega⟩
      · skip
        refine y_push rfl ?_
        refine y_goto rfl ?_
        refine y_zret rfl rfl (by decide) ⟨_, rfl, ?_⟩
        exact ⟨rfl, by unfold yb; split <;> omega⟩
theorem maw_0 (σ : YS) (s : Int) : ∀ n : Nat, 0 ≤ maw σ s n ∧ maw σ s n ≤ n
  | 0 => ⟨Int.le_refl _, Int.le_refl _⟩
  | n + 1 => by
    have := maw_0 σ s n
    unfold maw
    split <;> omega
theorem maw_s {σ : YS} {s i : Int} (h : 0 ≤ i) : maw σ s (i + 1).toNat = maw σ s i.toNat + if mst σ (s + 3 + 3 * i) then 0 else 1 := by
  rw [show (i + 1).toNat = i.toNat + 1 by omega]
  show maw σ s i.toNat + (if mst σ (s + 3 + 3 * (i.toNat : Int)) then 0 else 1) = _
  rw [show ((i.toNat : Nat) : Int) = i by omega]
theorem l_awake {g : Launch × XG × va_G} {σ : YS} {s : Int} (hs : yS s) (hc : 0 ≤ σ s 5 ∧ σ s 5 ≤ 3) : ∀ (nn : Nat) (i : Int) (a : Int), σ s 5 - i < (nn : Int) → (0 ≤ i) → (i ≤ σ s 5) → (a = maw σ s i.toNat) → YW g 52 4 [some (2, s), some (0, a), some (0, i)] [] σ (fun rv σ' => ∃ b, rv = some (0, b) ∧ (σ = σ' ∧ maw σ s (σ s 5).toNat = b)) := by
  intro nn
  induction nn with
  | zero =>
    intro i a hn h0 h1 h2
    exfalso
    omega
  | succ nn ih =>
    intro i a hn h0 h1 h2
    refine y_iload rfl rfl ?_
    refine y_aload rfl rfl rfl ?_
    refine y_gfi (v := (σ s 5)) rfl (yS_c hs) (yS_0 hs).1 rfl (by decide) rfl rfl ?_
    refine y_icge rfl (fun q9 => ?_) (fun q9 => ?_)
    · skip
      refine y_iload rfl rfl ?_
      refine y_iret rfl rfl ⟨_, rfl, ?_⟩
      exact ⟨rfl, by rw [h2, show i = σ s 5 by omega]⟩
    · skip
      refine y_aload rfl rfl rfl ?_
      refine y_gfr (t := (s + 2)) rfl (yS_c hs) (yS_0 hs).1 rfl (by have := yS_0 hs; omega) ?_
      refine y_iload rfl rfl ?_
      refine y_aald (v := ((s + 3) + 3 * i)) (n := 3) rfl (yS_m hs) (by have := yS_0 hs; omega) rfl (by omega) rfl ?_
      refine y_vi (as := [(2, ((s + 3) + 3 * i))]) (S := []) rfl rfl rfl rfl rfl rfl (by have := yN_0 (yS_n (s := s) (i := i) hs (by omega)); omega) (yN_c (yS_n (s := s) (i := i) hs (by omega))) (c_hasStopped (yS_n (s := s) (i := i) hs (by omega))) ?_
      rintro _ _ ⟨rfl, rfl⟩
      refine y_ifne rfl (fun q21 => ?_) (fun q21 => ?_)
      · skip
        replace q21 := yb_1.mp q21
        refine y_iinc (L' := [some (2, s), some (0, a), some (0, (i + 1))]) rfl rfl rfl rfl rfl (by omega) ?_
        refine y_goto rfl ?_
        exact ih (i + 1) a (by omega) (by omega) (by omega) (by rw [maw_s h0, if_pos q21]; omega)
      · skip
        replace q21 := yb_0.mp q21
        have := maw_0 σ s i.toNat
        refine y_iinc (L' := [some (2, s), some (0, (a + 1)), some (0, i)]) rfl rfl rfl rfl rfl (by omega) ?_
        refine y_iinc (L' := [some (2, s), some (0, (a + 1)), some (0, (i + 1))]) rfl rfl rfl rfl rfl (by omega) ?_
        refine y_goto rfl ?_
        exact ih (i + 1) (a + 1) (by omega) (by omega) (by omega) (by rw [maw_s h0, if_neg q21]; omega)
theorem c_awake {g : Launch × XG × va_G} {σ : YS} {s : Int} (hs : yS s) (hc : 0 ≤ σ s 5 ∧ σ s 5 ≤ 3) : YI g 52 [(2, s)] σ (fun b σ' => σ = σ' ∧ maw σ s (σ s 5).toNat = b) := by
  refine y_start rfl rfl rfl ?_
  refine y_push rfl ?_
  refine y_istore (L' := [some (2, s), some (0, 0), none]) rfl rfl rfl rfl ?_
  refine y_push rfl ?_
  refine y_istore (L' := [some (2, s), some (0, 0), some (0, 0)]) rfl rfl rfl rfl ?_
  exact l_awake hs hc ((σ s 5).toNat + 1) 0 0 (by omega) (by omega) (by omega) rfl
