theorem law_loop {g : Launch × XG × va_G} {P : Option YV → YS → Prop} (hL5 : 0 ≤ g.2.1.2.2 5 ∧ g.2.1.2.2 5 ≤ 320) : ∀ (nn : Nat) (i N : Int) (σ : YS) (Z : YZ) (I : Int → YZ) (M : YS), 325 - i < (nn : Int) → 0 ≤ i → i = 5 * N → i ≤ 320 → wG Z I M N → xW σ Z I M → mW σ Z I M → LV g 0 18 [some (3, 0), some (2, 0), some (2, 547), some (0, i)] [] σ P := by
  intro nn
  induction nn with
  | zero =>
    intro i N σ Z I M hn h0 h1 h2
    exfalso
    omega
  | succ nn ih =>
    intro i N σ Z I M hn h0 h1 h2 hg hx hm
    have hk : i + 5 ≤ g.2.1.2.2 5 → ∀ σ' Z' I' M', wG Z' I' M' (N + 1) → xW σ' Z' I' M' → mW σ' Z' I' M' → LV g 0 934 [some (3, 0), some (2, 0), some (2, 547), some (0, i)] [] σ' P := fun hi5 σ' Z' I' M' a b c => by
      refine lq_iinc (L' := [some (3, 0), some (2, 0), some (2, 547), some (0, (i + 5))]) rfl rfl rfl rfl rfl (by omega) ?_
      refine lq_goto rfl ?_
      exact ih (i + 5) (N + 1) σ' Z' I' M' (by omega) (by omega) (by omega) (by omega) a b c
    refine lq_iload rfl rfl ?_
    refine lq_aload rfl rfl rfl ?_
    refine lq_alen rfl ?_
    refine lq_push rfl ?_
    refine lq_isub (v := ((g.2.1.2.2 5) - 5)) rfl rfl (by omega) ?_
    refine lq_icgt rfl (fun q23 => ?_) (fun q23 => ?_)
    · skip
      refine lq_push rfl ?_
      exact lq_zret rfl rfl
    · skip
      refine lq_aload rfl rfl rfl ?_
      refine lq_iload rfl rfl ?_
      refine lq_iald0 rfl (by omega) ?_
      refine lq_push rfl ?_
      refine lq_iand (v := (yand (g.2.1.2.2 (6 + (i).toNat)) 31)) rfl rfl ?_
      have t0 : LV g 0 160 [some (3, 0), some (2, 0), some (2, 547), some (0, i)] [] σ P := w_street hx hm hg (by omega) ⟨h0, by omega⟩ hL5.2 (hk (by omega))
      have t1 : LV g 0 183 [some (3, 0), some (2, 0), some (2, 547), some (0, i)] [] σ P := w_water hx hm hg (by omega) ⟨h0, by omega⟩ hL5.2 (hk (by omega))
      have t2 : LV g 0 216 [some (3, 0), some (2, 0), some (2, 547), some (0, i)] [] σ P := w_man hx hm hg (by omega) ⟨h0, by omega⟩ hL5.2 (hk (by omega))
      have t3 : LV g 0 249 [some (3, 0), some (2, 0), some (2, 547), some (0, i)] [] σ P := w_write hx hm hg (by omega) ⟨h0, by omega⟩ hL5.2 (hk (by omega))
      have t4 : LV g 0 282 [some (3, 0), some (2, 0), some (2, 547), some (0, i)] [] σ P := w_rub hx hm hg (by omega) ⟨h0, by omega⟩ hL5.2 (hk (by omega))
      have t5 : LV g 0 305 [some (3, 0), some (2, 0), some (2, 547), some (0, i)] [] σ P := w_fault hx hm hg (by omega) ⟨h0, by omega⟩ hL5.2 (hk (by omega))
      have t6 : LV g 0 328 [some (3, 0), some (2, 0), some (2, 547), some (0, i)] [] σ P := w_type hx hm hg (by omega) ⟨h0, by omega⟩ hL5.2 (hk (by omega))
      have t7 : LV g 0 391 [some (3, 0), some (2, 0), some (2, 547), some (0, i)] [] σ P := w_clear hx hm hg (by omega) ⟨h0, by omega⟩ hL5.2 (hk (by omega))
      have t8 : LV g 0 404 [some (3, 0), some (2, 0), some (2, 547), some (0, i)] [] σ P := w_read hx hm hg (by omega) ⟨h0, by omega⟩ hL5.2 (hk (by omega))
      have t9 : LV g 0 417 [some (3, 0), some (2, 0), some (2, 547), some (0, i)] [] σ P := w_step hx hm hg (by omega) ⟨h0, by omega⟩ hL5.2 (hk (by omega))
      have t10 : LV g 0 430 [some (3, 0), some (2, 0), some (2, 547), some (0, i)] [] σ P := w_undo hx hm hg (by omega) ⟨h0, by omega⟩ hL5.2 (hk (by omega))
      have t11 : LV g 0 443 [some (3, 0), some (2, 0), some (2, 547), some (0, i)] [] σ P := w_of hx hm hg (by omega) ⟨h0, by omega⟩ hL5.2 (hk (by omega))
      have t12 : LV g 0 476 [some (3, 0), some (2, 0), some (2, 547), some (0, i)] [] σ P := w_in hx hm hg (by omega) ⟨h0, by omega⟩ hL5.2 (hk (by omega))
      have t13 : LV g 0 499 [some (3, 0), some (2, 0), some (2, 547), some (0, i)] [] σ P := w_run hx hm hg (by omega) ⟨h0, by omega⟩ hL5.2 (hk (by omega))
      have t14 : LV g 0 542 [some (3, 0), some (2, 0), some (2, 547), some (0, i)] [] σ P := w_stops hx hm hg (by omega) ⟨h0, by omega⟩ hL5.2 (hk (by omega))
      have t15 : LV g 0 555 [some (3, 0), some (2, 0), some (2, 547), some (0, i)] [] σ P := w_again hx hm hg (by omega) ⟨h0, by omega⟩ hL5.2 (hk (by omega))
      have t16 : LV g 0 578 [some (3, 0), some (2, 0), some (2, 547), some (0, i)] [] σ P := w_rubbed hx hm hg (by omega) ⟨h0, by omega⟩ hL5.2 (hk (by omega))
      have t17 : LV g 0 611 [some (3, 0), some (2, 0), some (2, 547), some (0, i)] [] σ P := w_danger hx hm hg (by omega) ⟨h0, by omega⟩ hL5.2 (hk (by omega))
      have t18 : LV g 0 634 [some (3, 0), some (2, 0), some (2, 547), some (0, i)] [] σ P := w_thief hx hm hg (by omega) ⟨h0, by omega⟩ hL5.2 (hk (by omega))
      have t19 : LV g 0 667 [some (3, 0), some (2, 0), some (2, 547), some (0, i)] [] σ P := w_shortest hx hm hg (by omega) ⟨h0, by omega⟩ hL5.2 (hk (by omega))
      have t20 : LV g 0 720 [some (3, 0), some (2, 0), some (2, 547), some (0, i)] [] σ P := w_seen hx hm hg (by omega) ⟨h0, by omega⟩ hL5.2 (hk (by omega))
      have t21 : LV g 0 753 [some (3, 0), some (2, 0), some (2, 547), some (0, i)] [] σ P := w_said hx hm hg (by omega) ⟨h0, by omega⟩ hL5.2 (hk (by omega))
      have t22 : LV g 0 786 [some (3, 0), some (2, 0), some (2, 547), some (0, i)] [] σ P := w_emptied hx hm hg (by omega) ⟨h0, by omega⟩ hL5.2 (hk (by omega))
      have t23 : LV g 0 829 [some (3, 0), some (2, 0), some (2, 547), some (0, i)] [] σ P := w_image hx hm hg (by omega) ⟨h0, by omega⟩ hL5.2 (hk (by omega))
      have t24 : LV g 0 852 [some (3, 0), some (2, 0), some (2, 547), some (0, i)] [] σ P := w_from hx hm hg (by omega) ⟨h0, by omega⟩ hL5.2 (hk (by omega))
      have t25 : LV g 0 875 [some (3, 0), some (2, 0), some (2, 547), some (0, i)] [] σ P := w_status hx hm hg (by omega) ⟨h0, by omega⟩ hL5.2 (hk (by omega))
      have t26 : LV g 0 898 [some (3, 0), some (2, 0), some (2, 547), some (0, i)] [] σ P := w_count hx hm hg (by omega) ⟨h0, by omega⟩ hL5.2 (hk (by omega))
      have t27 : LV g 0 921 [some (3, 0), some (2, 0), some (2, 547), some (0, i)] [] σ P := w_digest hx hm hg (by omega) ⟨h0, by omega⟩ hL5.2 (hk (by omega))
      have t28 : LV g 0 934 [some (3, 0), some (2, 0), some (2, 547), some (0, i)] [] σ P := hk (by omega) σ Z I M (wG_N hg (by omega)) hx hm
      refine lq_sw (tg := [160, 183, 216, 249, 282, 305, 328, 391, 404, 417, 430, 443, 476, 499, 542, 555, 578, 611, 634, 667, 720, 753, 786, 829, 852, 875, 898, 921, 934]) rfl rfl (by decide) (fun j hj => ?_) (fun j hj => ?_)
      · match j, hj with
        | 0, _ => exact ⟨_, rfl, by decide⟩
        | 1, _ => exact ⟨_, rfl, by decide⟩
        | 2, _ => exact ⟨_, rfl, by decide⟩
        | 3, _ => exact ⟨_, rfl, by decide⟩
        | 4, _ => exact ⟨_, rfl, by decide⟩
        | 5, _ => exact ⟨_, rfl, by decide⟩
        | 6, _ => exact ⟨_, rfl, by decide⟩
        | 7, _ => exact ⟨_, rfl, by decide⟩
        | 8, _ => exact ⟨_, rfl, by decide⟩
        | 9, _ => exact ⟨_, rfl, by decide⟩
        | 10, _ => exact ⟨_, rfl, by decide⟩
        | 11, _ => exact ⟨_, rfl, by decide⟩
        | 12, _ => exact ⟨_, rfl, by decide⟩
        | 13, _ => exact ⟨_, rfl, by decide⟩
        | 14, _ => exact ⟨_, rfl, by decide⟩
        | 15, _ => exact ⟨_, rfl, by decide⟩
        | 16, _ => exact ⟨_, rfl, by decide⟩
        | 17, _ => exact ⟨_, rfl, by decide⟩
        | 18, _ => exact ⟨_, rfl, by decide⟩
        | 19, _ => exact ⟨_, rfl, by decide⟩
        | 20, _ => exact ⟨_, rfl, by decide⟩
        | 21, _ => exact ⟨_, rfl, by decide⟩
        | 22, _ => exact ⟨_, rfl, by decide⟩
        | 23, _ => exact ⟨_, rfl, by decide⟩
        | 24, _ => exact ⟨_, rfl, by decide⟩
        | 25, _ => exact ⟨_, rfl, by decide⟩
        | 26, _ => exact ⟨_, rfl, by decide⟩
        | 27, _ => exact ⟨_, rfl, by decide⟩
        | j + 28, hj => omega
      · match j, hj with
        | 0, _ => exact t0
        | 1, _ => exact t1
        | 2, _ => exact t2
        | 3, _ => exact t3
        | 4, _ => exact t4
        | 5, _ => exact t5
        | 6, _ => exact t6
        | 7, _ => exact t7
        | 8, _ => exact t8
        | 9, _ => exact t9
        | 10, _ => exact t10
        | 11, _ => exact t11
        | 12, _ => exact t12
        | 13, _ => exact t13
        | 14, _ => exact t14
        | 15, _ => exact t15
        | 16, _ => exact t16
        | 17, _ => exact t17
        | 18, _ => exact t18
        | 19, _ => exact t19
        | 20, _ => exact t20
        | 21, _ => exact t21
        | 22, _ => exact t22
        | 23, _ => exact t23
        | 24, _ => exact t24
        | 25, _ => exact t25
        | 26, _ => exact t26
        | 27, _ => exact t27
        | 28, _ => exact t28
        | j + 29, hj => omega
/-! The world at the law's start: all is 0 but these. -/
def y0 : YS := fun a j => if j = 4 ∧ (a = 1 ∨ a = 37 ∨ a = 51 ∨ a = 66 ∨ a = 80) then 6 else if j = 0 ∧ a = 548 then 6 else if j = 3 ∧ (a = 4 ∨ a = 7 ∨ a = 10 ∨ a = 40 ∨ a = 43 ∨ a = 46 ∨ a = 54 ∨ a = 57 ∨ a = 60 ∨ a = 69 ∨ a = 72 ∨ a = 75 ∨ a = 83 ∨ a = 86 ∨ a = 89) then -1 else if (j = 3 ∨ j = 4) ∧ a = 140 then -1 else 0
def ynz : List Int := [1, 37, 51, 66, 80, 4, 7, 10, 40, 43, 46, 54, 57, 60, 69, 72, 75, 83, 86, 89, 140, 548]
theorem y0_z {a j : Int} (h : a ∉ ynz) : y0 a j = 0 := by
  unfold ynz at h
  simp only [List.mem_cons, List.not_mem_nil, or_false, not_or] at h
  unfold y0
  rw [if_neg (by omega), if_neg (by omega), if_neg (by omega), if_neg (by omega)]
theorem y0_548 {j : Int} (h : j ≠ 0) : y0 548 j = 0 := by
  unfold y0
  rw [if_neg (by omega), if_neg (by omega), if_neg (by omega), if_neg (by omega)]
def Z00 : YZ := fun r => if r = 0 then (fun a b => if a = 0 ∧ b = 0 then 6 else if a = 6 ∧ b = 0 then 7 else 0) else fun _ _ => 0
def I00 : Int → YZ := fun _ => Z00
def M00 : YS := fun _ _ => 0
theorem Z00_z {a b : Int} (h : ¬ (a = 0 ∧ b = 0)) (h' : ¬ (a = 6 ∧ b = 0)) : Z00 0 a b = 0 := by
  show (if a = 0 ∧ b = 0 then (6 : Int) else if a = 6 ∧ b = 0 then 7 else 0) = 0
  rw [if_neg h, if_neg h']
theorem Z00_00 : Z00 0 0 0 = 6 := rfl
theorem Z00_10 : Z00 0 1 0 = 0 := rfl
theorem Z00_1 {a b : Int} : Z00 1 a b = 0 := rfl
theorem Z00_2 {a b : Int} : Z00 2 a b = 0 := rfl
theorem eG00 : eG (Z00 0) := ⟨by rw [Z00_00]; omega, by rw [Z00_10]; omega, fun i a b => by rw [Z00_10] at b; omega⟩
theorem dG00 : dG (Z00 0) (Z00 1) := ⟨fun c a b => by rw [Z00_1]; omega, fun i a b => by rw [Z00_10] at b; omega⟩
theorem zG00 : zG Z00 0 := ⟨eG00, dG00, by rw [Z00_1]; omega, by rw [Z00_2, Z00_1]; omega, ⟨rfl, fun j a b => by rw [Z00_z (by omega) (by omega)]; omega⟩, fun k a b => by rw [Z00_2] at b; omega⟩
theorem wG00 : wG Z00 I00 M00 0 := ⟨zG00, fun j a b => ⟨Or.inl rfl, fun z => absurd z (by decide : ¬ (0 : Int) = 1)⟩, ⟨by decide, by decide, fun k a b => ⟨Int.le_refl 0, (by decide : (0 : Int) ≤ 255)⟩⟩, fun j a b => ⟨Int.le_refl 0, Int.le_refl 0⟩⟩
theorem xW00 : xW y0 Z00 I00 M00 := by
  refine ⟨⟨⟨⟨rfl, rfl, rfl, rfl⟩, fun c a b => y0_z (by decide), fun i a b => by rw [Z00_10] at b; omega, rfl, fun j a b => ?_⟩, rfl, by rw [Z00_2, Z00_1]; omega, fun k a b => by rw [Z00_2] at b; omega⟩, fun j a b z => absurd z (by decide : ¬ (0 : Int) = 1), fun j a b => y0_z (by decide), ⟨rfl, fun k a b => absurd b (by have b : k < 0 := b; omega)⟩, fun j a b => y0_z (by decide)⟩
  rw [Z00_z (by omega) (by omega)]
  exact y0_z (by decide)
theorem mW00 : mW y0 Z00 I00 M00 := by
  refine ⟨⟨⟨⟨rfl, rfl, rfl⟩, fun c a b => y0_548 (by omega), fun i a b => by rw [Z00_10] at b; omega, fun i a b => y0_548 (by rw [Z00_10] at a; omega), fun j a b => ?_⟩, rfl, fun k a b => by rw [Z00_2] at b; omega⟩, fun j a b z => absurd z (by decide : ¬ (0 : Int) = 1), fun j a b => y0_z (by decide), ⟨rfl, fun k a b => absurd b (by have b : k < 0 := b; omega)⟩, fun j a b => y0_z (by decide), by decide⟩
  rw [Z00_z (by omega) (by omega)]
  exact y0_548 (by omega)
