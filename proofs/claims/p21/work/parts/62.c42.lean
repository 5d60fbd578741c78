/-! The class: parts of a text. -/
theorem rto_in {f : Int → Bool} {T : Int → Int} {L : Int} : ∀ (n : Nat) (p k : Int), p ≤ k → k < rto f T L n p → f (T k) = true
  | 0, p, k, h1, h2 => by unfold rto at h2; omega
  | n + 1, p, k, h1, h2 => by
    unfold rto at h2
    split at h2
    · rename_i hc
      by_cases e : k = p
      · subst e; exact hc.2
      · exact rto_in n (p + 1) k (by omega) h2
    · omega
theorem rend_in {f : Int → Bool} {T : Int → Int} {L p k : Int} (h1 : p ≤ k) (h2 : k < rend f T L p) : f (T k) = true := rto_in _ p k h1 h2
theorem let_in {T : Int → Int} {L p k : Int} (h1 : p ≤ k) (h2 : k < rend isLet T L p) : 97 ≤ T k ∧ T k ≤ 122 := of_decide_eq_true (rend_in (f := isLet) h1 h2)
theorem mword_0 {c : Int} : mword c = 0 ↔ c = 659100852 := by unfold mword; (repeat' split) <;> omega
theorem mword_1 {c : Int} : mword c = 1 ↔ c = 24170674 := by unfold mword; (repeat' split) <;> omega
theorem mword_2 {c : Int} : mword c = 2 ↔ c = 13358 := by unfold mword; (repeat' split) <;> omega
theorem mword_3 {c : Int} : mword c = 3 ↔ c = 635184 := by unfold mword; (repeat' split) <;> omega
theorem lcode_0 (T : Int → Int) (p : Int) : lcode T p 0 = 0 := rfl
theorem lcode_1 (T : Int → Int) (p : Int) : lcode T p 1 = 32 * (0) + T (p + 0) - 96 := rfl
theorem lcode_2 (T : Int → Int) (p : Int) : lcode T p 2 = 32 * (32 * (0) + T (p + 0) - 96) + T (p + 1) - 96 := rfl
theorem lcode_3 (T : Int → Int) (p : Int) : lcode T p 3 = 32 * (32 * (32 * (0) + T (p + 0) - 96) + T (p + 1) - 96) + T (p + 2) - 96 := rfl
theorem lcode_4 (T : Int → Int) (p : Int) : lcode T p 4 = 32 * (32 * (32 * (32 * (0) + T (p + 0) - 96) + T (p + 1) - 96) + T (p + 2) - 96) + T (p + 3) - 96 := rfl
theorem lcode_5 (T : Int → Int) (p : Int) : lcode T p 5 = 32 * (32 * (32 * (32 * (32 * (0) + T (p + 0) - 96) + T (p + 1) - 96) + T (p + 2) - 96) + T (p + 3) - 96) + T (p + 4) - 96 := rfl
theorem lcode_6 (T : Int → Int) (p : Int) : lcode T p 6 = 32 * (32 * (32 * (32 * (32 * (32 * (0) + T (p + 0) - 96) + T (p + 1) - 96) + T (p + 2) - 96) + T (p + 3) - 96) + T (p + 4) - 96) + T (p + 5) - 96 := rfl
theorem lcode_7 (T : Int → Int) (p : Int) : lcode T p 7 = 32 * (32 * (32 * (32 * (32 * (32 * (32 * (0) + T (p + 0) - 96) + T (p + 1) - 96) + T (p + 2) - 96) + T (p + 3) - 96) + T (p + 4) - 96) + T (p + 5) - 96) + T (p + 6) - 96 := rfl
theorem lwd_0 {T : Int → Int} {L p : Int} (hp : p ≤ L) : lwd T L p = 0 ↔ rend isLet T L p - p = 6 ∧ T (p + 0) = 115 ∧ T (p + 1) = 116 ∧ T (p + 2) = 114 ∧ T (p + 3) = 101 ∧ T (p + 4) = 101 ∧ T (p + 5) = 116 := by
  have hr := (rend_r (f := isLet) (T := T) hp).1
  have hl := fun k a b => let_in (T := T) (L := L) (p := p) (k := k) a b
  unfold lwd
  rw [mword_0]
  generalize rend isLet T L p = E at hr hl ⊢
  rcases (by omega : E - p = 0 ∨ E - p = 1 ∨ E - p = 2 ∨ E - p = 3 ∨ E - p = 4 ∨ E - p = 5 ∨ E - p = 6 ∨ 7 ≤ E - p) with z | z | z | z | z | z | z | z
  · rw [show (min (E - p) 7).toNat = 0 by omega, lcode_0]
    omega
  · rw [show (min (E - p) 7).toNat = 1 by omega, lcode_1]
    have t0 := hl (p + 0) (by omega) (by omega)
    omega
  · rw [show (min (E - p) 7).toNat = 2 by omega, lcode_2]
    have t0 := hl (p + 0) (by omega) (by omega)
    have t1 := hl (p + 1) (by omega) (by omega)
    omega
  · rw [show (min (E - p) 7).toNat = 3 by omega, lcode_3]
    have t0 := hl (p + 0) (by omega) (by omega)
    have t1 := hl (p + 1) (by omega) (by omega)
    have t2 := hl (p + 2) (by omega) (by omega)
    omega
  · rw [show (min (E - p) 7).toNat = 4 by omega, lcode_4]
    have t0 := hl (p + 0) (by omega) (by omega)
    have t1 := hl (p + 1) (by omega) (by omega)
    have t2 := hl (p + 2) (by omega) (by omega)
    have t3 := hl (p + 3) (by omega) (by omega)
    omega
  · rw [show (min (E - p) 7).toNat = 5 by omega, lcode_5]
    have t0 := hl (p + 0) (by omega) (by omega)
    have t1 := hl (p + 1) (by omega) (by omega)
    have t2 := hl (p + 2) (by omega) (by omega)
    have t3 := hl (p + 3) (by omega) (by omega)
    have t4 := hl (p + 4) (by omega) (by omega)
    omega
  · rw [show (min (E - p) 7).toNat = 6 by omega, lcode_6]
    have t0 := hl (p + 0) (by omega) (by omega)
    have t1 := hl (p + 1) (by omega) (by omega)
    have t2 := hl (p + 2) (by omega) (by omega)
    have t3 := hl (p + 3) (by omega) (by omega)
    have t4 := hl (p + 4) (by omega) (by omega)
    have t5 := hl (p + 5) (by omega) (by omega)
    omega
  · rw [show (min (E - p) 7).toNat = 7 by omega, lcode_7]
    have t0 := hl (p + 0) (by omega) (by omega)
    have t1 := hl (p + 1) (by omega) (by omega)
    have t2 := hl (p + 2) (by omega) (by omega)
    have t3 := hl (p + 3) (by omega) (by omega)
    have t4 := hl (p + 4) (by omega) (by omega)
    have t5 := hl (p + 5) (by omega) (by omega)
    have t6 := hl (p + 6) (by omega) (by omega)
    omega
theorem lwd_1 {T : Int → Int} {L p : Int} (hp : p ≤ L) : lwd T L p = 1 ↔ rend isLet T L p - p = 5 ∧ T (p + 0) = 119 ∧ T (p + 1) = 97 ∧ T (p + 2) = 116 ∧ T (p + 3) = 101 ∧ T (p + 4) = 114 := by
  have hr := (rend_r (f := isLet) (T := T) hp).1
  have hl := fun k a b => let_in (T := T) (L := L) (p := p) (k := k) a b
  unfold lwd
  rw [mword_1]
  generalize rend isLet T L p = E at hr hl ⊢
  rcases (by omega : E - p = 0 ∨ E - p = 1 ∨ E - p = 2 ∨ E - p = 3 ∨ E - p = 4 ∨ E - p = 5 ∨ E - p = 6 ∨ 7 ≤ E - p) with z | z | z | z | z | z | z | z
  · rw [show (min (E - p) 7).toNat = 0 by omega, lcode_0]
    omega
  · rw [show (min (E - p) 7).toNat = 1 by omega, lcode_1]
    have t0 := hl (p + 0) (by omega) (by omega)
    omega
  · rw [show (min (E - p) 7).toNat = 2 by omega, lcode_2]
    have t0 := hl (p + 0) (by omega) (by omega)
    have t1 := hl (p + 1) (by omega) (by omega)
    omega
  · rw [show (min (E - p) 7).toNat = 3 by omega, lcode_3]
    have t0 := hl (p + 0) (by omega) (by omega)
    have t1 := hl (p + 1) (by omega) (by omega)
    have t2 := hl (p + 2) (by omega) (by omega)
    omega
  · rw [show (min (E - p) 7).toNat = 4 by omega, lcode_4]
    have t0 := hl (p + 0) (by omega) (by omega)
    have t1 := hl (p + 1) (by omega) (by omega)
    have t2 := hl (p + 2) (by omega) (by omega)
    have t3 := hl (p + 3) (by omega) (by omega)
    omega
  · rw [show (min (E - p) 7).toNat = 5 by omega, lcode_5]
    have t0 := hl (p + 0) (by omega) (by omega)
    have t1 := hl (p + 1) (by omega) (by omega)
    have t2 := hl (p + 2) (by omega) (by omega)
    have t3 := hl (p + 3) (by omega) (by omega)
    have t4 := hl (p + 4) (by omega) (by omega)
    omega
  · rw [show (min (E - p) 7).toNat = 6 by omega, lcode_6]
    have t0 := hl (p + 0) (by omega) (by omega)
    have t1 := hl (p + 1) (by omega) (by omega)
    have t2 := hl (p + 2) (by omega) (by omega)
    have t3 := hl (p + 3) (by omega) (by omega)
    have t4 := hl (p + 4) (by omega) (by omega)
    have t5 := hl (p + 5) (by omega) (by omega)
    omega
  · rw [show (min (E - p) 7).toNat = 7 by omega, lcode_7]
    have t0 := hl (p + 0) (by omega) (by omega)
    have t1 := hl (p + 1) (by omega) (by omega)
    have t2 := hl (p + 2) (by omega) (by omega)
    have t3 := hl (p + 3) (by omega) (by omega)
    have t4 := hl (p + 4) (by omega) (by omega)
    have t5 := hl (p + 5) (by omega) (by omega)
    have t6 := hl (p + 6) (by omega) (by omega)
    omega
theorem lwd_2 {T : Int → Int} {L p : Int} (hp : p ≤ L) : lwd T L p = 2 ↔ rend isLet T L p - p = 3 ∧ T (p + 0) = 109 ∧ T (p + 1) = 97 ∧ T (p + 2) = 110 := by
  have hr := (rend_r (f := isLet) (T := T) hp).1
  have hl := fun k a b => let_in (T := T) (L := L) (p := p) (k := k) a b
  unfold lwd
  rw [mword_2]
  generalize rend isLet T L p = E at hr hl ⊢
  rcases (by omega : E - p = 0 ∨ E - p = 1 ∨ E - p = 2 ∨ E - p = 3 ∨ E - p = 4 ∨ E - p = 5 ∨ E - p = 6 ∨ 7 ≤ E - p) with z | z | z | z | z | z | z | z
  · rw [show (min (E - p) 7).toNat = 0 by omega, lcode_0]
    omega
  · rw [show (min (E - p) 7).toNat = 1 by omega, lcode_1]
    have t0 := hl (p + 0) (by omega) (by omega)
    omega
  · rw [show (min (E - p) 7).toNat = 2 by omega, lcode_2]
    have t0 := hl (p + 0) (by omega) (by omega)
    have t1 := hl (p + 1) (by omega) (by omega)
    omega
  · rw [show (min (E - p) 7).toNat = 3 by omega, lcode_3]
    have t0 := hl (p + 0) (by omega) (by omega)
    have t1 := hl (p + 1) (by omega) (by omega)
    have t2 := hl (p + 2) (by omega) (by omega)
    omega
  · rw [show (min (E - p) 7).toNat = 4 by omega, lcode_4]
    have t0 := hl (p + 0) (by omega) (by omega)
    have t1 := hl (p + 1) (by omega) (by omega)
    have t2 := hl (p + 2) (by omega) (by omega)
    have t3 := hl (p + 3) (by omega) (by omega)
    omega
  · rw [show (min (E - p) 7).toNat = 5 by omega, lcode_5]
    have t0 := hl (p + 0) (by omega) (by omega)
    have t1 := hl (p + 1) (by omega) (by omega)
    have t2 := hl (p + 2) (by omega) (by omega)
    have t3 := hl (p + 3) (by omega) (by omega)
    have t4 := hl (p + 4) (by omega) (by omega)
    omega
  · rw [show (min (E - p) 7).toNat = 6 by omega, lcode_6]
    have t0 := hl (p + 0) (by omega) (by omega)
    have t1 := hl (p + 1) (by omega) (by omega)
    have t2 := hl (p + 2) (by omega) (by omega)
    have t3 := hl (p + 3) (by omega) (by omega)
    have t4 := hl (p + 4) (by omega) (by omega)
    have t5 := hl (p + 5) (by omega) (by omega)
    omega
  · rw [show (min (E - p) 7).toNat = 7 by omega, lcode_7]
    have t0 := hl (p + 0) (by omega) (by omega)
    have t1 := hl (p + 1) (by omega) (by omega)
    have t2 := hl (p + 2) (by omega) (by omega)
    have t3 := hl (p + 3) (by omega) (by omega)
    have t4 := hl (p + 4) (by omega) (by omega)
    have t5 := hl (p + 5) (by omega) (by omega)
    have t6 := hl (p + 6) (by omega) (by omega)
    omega
theorem lwd_3 {T : Int → Int} {L p : Int} (hp : p ≤ L) : lwd T L p = 3 ↔ rend isLet T L p - p = 4 ∧ T (p + 0) = 115 ∧ T (p + 1) = 108 ∧ T (p + 2) = 105 ∧ T (p + 3) = 112 := by
  have hr := (rend_r (f := isLet) (T := T) hp).1
  have hl := fun k a b => let_in (T := T) (L := L) (p := p) (k := k) a b
  unfold lwd
  rw [mword_3]
  generalize rend isLet T L p = E at hr hl ⊢
  rcases (by omega : E - p = 0 ∨ E - p = 1 ∨ E - p = 2 ∨ E - p = 3 ∨ E - p = 4 ∨ E - p = 5 ∨ E - p = 6 ∨ 7 ≤ E - p) with z | z | z | z | z | z | z | z
  · rw [show (min (E - p) 7).toNat = 0 by omega, lcode_0]
    omega
  · rw [show (min (E - p) 7).toNat = 1 by omega, lcode_1]
    have t0 := hl (p + 0) (by omega) (by omega)
    omega
  · rw [show (min (E - p) 7).toNat = 2 by omega, lcode_2]
    have t0 := hl (p + 0) (by omega) (by omega)
    have t1 := hl (p + 1) (by omega) (by omega)
    omega
  · rw [show (min (E - p) 7).toNat = 3 by omega, lcode_3]
    have t0 := hl (p + 0) (by omega) (by omega)
    have t1 := hl (p + 1) (by omega) (by omega)
    have t2 := hl (p + 2) (by omega) (by omega)
    omega
  · rw [show (min (E - p) 7).toNat = 4 by omega, lcode_4]
    have t0 := hl (p + 0) (by omega) (by omega)
    have t1 := hl (p + 1) (by omega) (by omega)
    have t2 := hl (p + 2) (by omega) (by omega)
    have t3 := hl (p + 3) (by omega) (by omega)
    omega
  · rw [show (min (E - p) 7).toNat = 5 by omega, lcode_5]
    have t0 := hl (p + 0) (by omega) (by omega)
    have t1 := hl (p + 1) (by omega) (by omega)
    have t2 := hl (p + 2) (by omega) (by omega)
    have t3 := hl (p + 3) (by omega) (by omega)
    have t4 := hl (p + 4) (by omega) (by omega)
    omega
  · rw [show (min (E - p) 7).toNat = 6 by omega, lcode_6]
    have t0 := hl (p + 0) (by omega) (by omega)
    have t1 := hl (p + 1) (by omega) (by omega)
    have t2 := hl (p + 2) (by omega) (by omega)
    have t3 := hl (p + 3) (by omega) (by omega)
    have t4 := hl (p + 4) (by omega) (by omega)
    have t5 := hl (p + 5) (by omega) (by omega)
    omega
  · rw [show (min (E - p) 7).toNat = 7 by omega, lcode_7]
    have t0 := hl (p + 0) (by omega) (by omega)
    have t1 := hl (p + 1) (by omega) (by omega)
    have t2 := hl (p + 2) (by omega) (by omega)
    have t3 := hl (p + 3) (by omega) (by omega)
    have t4 := hl (p + 4) (by omega) (by omega)
    have t5 := hl (p + 5) (by omega) (by omega)
    have t6 := hl (p + 6) (by omega) (by omega)
    omega
theorem lwd_r {T : Int → Int} {L p : Int} : lwd T L p = -1 ∨ lwd T L p = 0 ∨ lwd T L p = 1 ∨ lwd T L p = 2 ∨ lwd T L p = 3 := by unfold lwd mword; (repeat' split) <;> omega
theorem tw_1 {T : Int → Int} {L p q : Int} (hp : p ≤ L) (e : rend isLet T L p = q) : (((jlen.getD 1 0 : Nat) : Int) = q - p ∧ ∀ j : Nat, j < jlen.getD 1 0 → ychr 1 j = T (p + j)) ↔ lwd T L p = 0 := by
  rw [lwd_0 hp, e]
  have hn : jlen.getD 1 0 = 6 := rfl
  rw [hn]
  have c0 : ychr 1 0 = 115 := by decide
  have c1 : ychr 1 1 = 116 := by decide
  have c2 : ychr 1 2 = 114 := by decide
  have c3 : ychr 1 3 = 101 := by decide
  have c4 : ychr 1 4 = 101 := by decide
  have c5 : ychr 1 5 = 116 := by decide
  constructor
  · rintro ⟨h1, h2⟩
    exact ⟨by omega, ((h2 0 (by omega)).symm.trans c0), ((h2 1 (by omega)).symm.trans c1), ((h2 2 (by omega)).symm.trans c2), ((h2 3 (by omega)).symm.trans c3), ((h2 4 (by omega)).symm.trans c4), ((h2 5 (by omega)).symm.trans c5)⟩
  · rintro ⟨h1, d0, d1, d2, d3, d4, d5⟩
    refine ⟨by omega, fun j hj => ?_⟩
    rcases (by omega : j = 0 ∨ j = 1 ∨ j = 2 ∨ j = 3 ∨ j = 4 ∨ j = 5) with rfl | rfl | rfl | rfl | rfl | rfl
    · exact c0.trans d0.symm
    · exact c1.trans d1.symm
    · exact c2.trans d2.symm
    · exact c3.trans d3.symm
    · exact c4.trans d4.symm
    · exact c5.trans d5.symm
theorem tw_2 {T : Int → Int} {L p q : Int} (hp : p ≤ L) (e : rend isLet T L p = q) : (((jlen.getD 2 0 : Nat) : Int) = q - p ∧ ∀ j : Nat, j < jlen.getD 2 0 → ychr 2 j = T (p + j)) ↔ lwd T L p = 1 := by
  rw [lwd_1 hp, e]
  have hn : jlen.getD 2 0 = 5 := rfl
  rw [hn]
  have c0 : ychr 2 0 = 119 := by decide
  have c1 : ychr 2 1 = 97 := by decide
  have c2 : ychr 2 2 = 116 := by decide
  have c3 : ychr 2 3 = 101 := by decide
  have c4 : ychr 2 4 = 114 := by decide
  constructor
  · rintro ⟨h1, h2⟩
    exact ⟨by omega, ((h2 0 (by omega)).symm.trans c0), ((h2 1 (by omega)).symm.trans c1), ((h2 2 (by omega)).symm.trans c2), ((h2 3 (by omega)).symm.trans c3), ((h2 4 (by omega)).symm.trans c4)⟩
  · rintro ⟨h1, d0, d1, d2, d3, d4⟩
    refine ⟨by omega, fun j hj => ?_⟩
    rcases (by omega : j = 0 ∨ j = 1 ∨ j = 2 ∨ j = 3 ∨ j = 4) with rfl | rfl | rfl | rfl | rfl
    · exact c0.trans d0.symm
    · exact c1.trans d1.symm
    · exact c2.trans d2.symm
    · exact c3.trans d3.symm
    · exact c4.trans d4.symm
theorem tw_3 {T : Int → Int} {L p q : Int} (hp : p ≤ L) (e : rend isLet T L p = q) : (((jlen.getD 3 0 : Nat) : Int) = q - p ∧ ∀ j : Nat, j < jlen.getD 3 0 → ychr 3 j = T (p + j)) ↔ lwd T L p = 2 := by
  rw [lwd_2 hp, e]
  have hn : jlen.getD 3 0 = 3 := rfl
  rw [hn]
  have c0 : ychr 3 0 = 109 := by decide
  have c1 : ychr 3 1 = 97 := by decide
  have c2 : ychr 3 2 = 110 := by decide
  constructor
  · rintro ⟨h1, h2⟩
    exact ⟨by omega, ((h2 0 (by omega)).symm.trans c0), ((h2 1 (by omega)).symm.trans c1), ((h2 2 (by omega)).symm.trans c2)⟩
  · rintro ⟨h1, d0, d1, d2⟩
    refine ⟨by omega, fun j hj => ?_⟩
    rcases (by omega : j = 0 ∨ j = 1 ∨ j = 2) with rfl | rfl | rfl
    · exact c0.trans d0.symm
    · exact c1.trans d1.symm
    · exact c2.trans d2.symm
theorem tw_4 {T : Int → Int} {L p q : Int} (hp : p ≤ L) (e : rend isLet T L p = q) : (((jlen.getD 4 0 : Nat) : Int) = q - p ∧ ∀ j : Nat, j < jlen.getD 4 0 → ychr 4 j = T (p + j)) ↔ lwd T L p = 3 := by
  rw [lwd_3 hp, e]
  have hn : jlen.getD 4 0 = 4 := rfl
  rw [hn]
  have c0 : ychr 4 0 = 115 := by decide
  have c1 : ychr 4 1 = 108 := by decide
  have c2 : ychr 4 2 = 105 := by decide
  have c3 : ychr 4 3 = 112 := by decide
  constructor
  · rintro ⟨h1, h2⟩
    exact ⟨by omega, ((h2 0 (by omega)).symm.trans c0), ((h2 1 (by omega)).symm.trans c1), ((h2 2 (by omega)).symm.trans c2), ((h2 3 (by omega)).symm.trans c3)⟩
  · rintro ⟨h1, d0, d1, d2, d3⟩
    refine ⟨by omega, fun j hj => ?_⟩
    rcases (by omega : j = 0 ∨ j = 1 ∨ j = 2 ∨ j = 3) with rfl | rfl | rfl | rfl
    · exact c0.trans d0.symm
    · exact c1.trans d1.symm
    · exact c2.trans d2.symm
    · exact c3.trans d3.symm
theorem ysix_sg {a : Int} (h : 0 ≤ a ∧ a ≤ 255) : ysix 0 a = sgOf a := by
  have key : ∀ n : Fin 256, ysix 0 (n.val : Int) = sgOf (n.val : Int) := by decide +kernel
  have := key ⟨a.toNat, by omega⟩
  rw [show ((a.toNat : Nat) : Int) = a by omega] at this
  exact this
theorem x_isLetter {g : Launch × XG × va_G} {σ : YS} {c : Int} (hc : -1000 ≤ c ∧ c ≤ 1000) : YI g 157 [(0, c)] σ (fun b σ' => yb (97 ≤ c ∧ c ≤ 122) = b ∧ σ = σ') := by
  refine y_start rfl rfl rfl ?_
  refine y_iload rfl rfl ?_
  refine y_push rfl ?_
  refine y_iclt rfl (fun q3 => ?_) (fun q3 => ?_)
  · skip
    refine y_push rfl ?_
    refine y_zret rfl rfl (by decide) ⟨_, rfl, ?_⟩
    exact ⟨yb_f (by omega), rfl⟩
  · skip
    refine y_iload rfl rfl ?_
    refine y_push rfl ?_
    refine y_icgt rfl (fun q9 => ?_) (fun q9 => ?_)
    · skip
      refine y_push rfl ?_
      refine y_zret rfl rfl (by decide) ⟨_, rfl, ?_⟩
      exact ⟨yb_f (by omega), rfl⟩
    · skip
      refine y_push rfl ?_
      refine y_goto rfl ?_
      refine y_zret rfl rfl (by decide) ⟨_, rfl, ?_⟩
      exact ⟨yb_t (by omega), rfl⟩
theorem x_isFigure {g : Launch × XG × va_G} {σ : YS} {c : Int} (hc : -1000 ≤ c ∧ c ≤ 1000) : YI g 158 [(0, c)] σ (fun b σ' => yb (48 ≤ c ∧ c ≤ 57) = b ∧ σ = σ') := by
  refine y_start rfl rfl rfl ?_
  refine y_iload rfl rfl ?_
  refine y_push rfl ?_
  refine y_iclt rfl (fun q3 => ?_) (fun q3 => ?_)
  · skip
    refine y_push rfl ?_
    refine y_zret rfl rfl (by decide) ⟨_, rfl, ?_⟩
    exact ⟨yb_f (by omega), rfl⟩
  · skip
    refine y_iload rfl rfl ?_
    refine y_push rfl ?_
    refine y_icgt rfl (fun q9 => ?_) (fun q9 => ?_)
    · skip
      refine y_push rfl ?_
      refine y_zret rfl rfl (by decide) ⟨_, rfl, ?_⟩
      exact ⟨yb_f (by omega), rfl⟩
    · skip
      refine y_push rfl ?_
      refine y_goto rfl ?_
      refine y_zret rfl rfl (by decide) ⟨_, rfl, ?_⟩
      exact ⟨yb_t (by omega), rfl⟩
theorem lx_takeNumber {g : Launch × XG × va_G} {σ : YS} {T : Int → Int} {L : Int} {p : Int} (hL : σ 140 2 = L) (hT : ∀ k, 0 ≤ k → k < L → σ 141 k = T k) (hTr : ∀ k, 0 ≤ k → k < L → 0 ≤ T k ∧ T k ≤ 255) (hl : 0 ≤ L ∧ L ≤ 200) (hs : σ 140 6 = p) (he : σ 140 7 = p) (hp : 0 ≤ p ∧ p < L) : ∀ (nn : Nat) (q : Int), L - q < (nn : Int) → (p ≤ q ∧ q ≤ L) → (rend isFig T L q = rend isFig T L p) → YW g 161 0 [some (2, 140)] [] (yset σ 140 7 q) (fun rv σ' => rv = none ∧ (σ' = yset (yset σ 140 7 (rend isFig T L p)) 140 5 (if rend isFig T L p - p ≤ 2 then 2 else 1))) := by
  intro nn
  induction nn with
  | zero =>
    intro q hn h0 h1
    exfalso
    omega
  | succ nn ih =>
    intro q hn h0 h1
    have tq := fun z => hT q (by omega) z
    have tr := fun z => hTr q (by omega) z
    refine y_aload rfl rfl rfl ?_
    refine y_gfi (v := q) rfl rfl (by decide) rfl (by decide) rfl (yeq _ _ _ _) ?_
    refine y_aload rfl rfl rfl ?_
    refine y_gfi (v := (σ 140 2)) rfl rfl (by decide) rfl (by decide) rfl (yne (by omega) rfl) ?_
    refine y_icge rfl (fun q8 => ?_) (fun q8 => ?_)
    · skip
      refine y_aload rfl rfl rfl ?_
      refine y_aload rfl rfl rfl ?_
      refine y_gfi (v := q) rfl rfl (by decide) rfl (by decide) rfl (yeq _ _ _ _) ?_
      refine y_aload rfl rfl rfl ?_
      refine y_gfi (v := (σ 140 6)) rfl rfl (by decide) rfl (by decide) rfl (yne (by omega) rfl) ?_
      refine y_isub (v := (q - (σ 140 6))) rfl rfl (by omega) ?_
      refine y_push rfl ?_
      refine y_icgt rfl (fun q50 => ?_) (fun q50 => ?_)
      · skip
        refine y_push rfl ?_
        refine y_pfi (j := 5) rfl rfl (by decide) rfl rfl rfl rfl rfl ?_
        refine y_ret rfl rfl ⟨rfl, ?_⟩
        have e : rend isFig T L q = q := rend_at (fun z => by have z2 := z.2; unfold isFig at z2; have z3 := of_decide_eq_true z2; have := tq z.1; omega)
        have e2 : rend isFig T L p = q := by rw [← h1, e]
        rw [e2, if_neg (by omega)]
        
      · skip
        refine y_push rfl ?_
        refine y_goto rfl ?_
        refine y_pfi (j := 5) rfl rfl (by decide) rfl rfl rfl rfl rfl ?_
        refine y_ret rfl rfl ⟨rfl, ?_⟩
        have e : rend isFig T L q = q := rend_at (fun z => by have z2 := z.2; unfold isFig at z2; have z3 := of_decide_eq_true z2; have := tq z.1; omega)
        have e2 : rend isFig T L p = q := by rw [← h1, e]
        rw [e2, if_pos (by omega)]
        
    · skip
      refine y_aload rfl rfl rfl ?_
      refine y_gfr (t := 141) rfl rfl (by decide) rfl (by decide) ?_
      refine y_aload rfl rfl rfl ?_
      refine y_gfi (v := q) rfl rfl (by decide) rfl (by decide) rfl (yeq _ _ _ _) ?_
      refine y_iald (v := (σ 141 q)) (n := 200) rfl rfl (by decide) rfl (by omega) (yne (by omega) rfl) ?_
      have := tq (by omega)
      have := tr (by omega)
      refine y_si (as := [(0, (σ 141 q))]) (S := []) rfl rfl rfl rfl rfl rfl (x_isFigure (c := (σ 141 q)) (by omega)) ?_
      rintro _ _ ⟨rfl, rfl⟩
      refine y_ifeq rfl (fun q23 => ?_) (fun q23 => ?_)
      · skip
        replace q23 := yb_0.mp q23
        refine y_aload rfl rfl rfl ?_
        refine y_aload rfl rfl rfl ?_
        refine y_gfi (v := q) rfl rfl (by decide) rfl (by decide) rfl (yeq _ _ _ _) ?_
        refine y_aload rfl rfl rfl ?_
        refine y_gfi (v := (σ 140 6)) rfl rfl (by decide) rfl (by decide) rfl (yne (by omega) rfl) ?_
        refine y_isub (v := (q - (σ 140 6))) rfl rfl (by omega) ?_
        refine y_push rfl ?_
        refine y_icgt rfl (fun q50 => ?_) (fun q50 => ?_)
        · skip
          refine y_push rfl ?_
          refine y_pfi (j := 5) rfl rfl (by decide) rfl rfl rfl rfl rfl ?_
          refine y_ret rfl rfl ⟨rfl, ?_⟩
          have e : rend isFig T L q = q := rend_at (fun z => by have z2 := z.2; unfold isFig at z2; have z3 := of_decide_eq_true z2; have := tq z.1; omega)
          have e2 : rend isFig T L p = q := by rw [← h1, e]
          rw [e2, if_neg (by omega)]
          
        · skip
          refine y_push rfl ?_
          refine y_goto rfl ?_
          refine y_pfi (j := 5) rfl rfl (by decide) rfl rfl rfl rfl rfl ?_
          refine y_ret rfl rfl ⟨rfl, ?_⟩
          have e : rend isFig T L q = q := rend_at (fun z => by have z2 := z.2; unfold isFig at z2; have z3 := of_decide_eq_true z2; have := tq z.1; omega)
          have e2 : rend isFig T L p = q := by rw [← h1, e]
          rw [e2, if_pos (by omega)]
          
      · skip
        replace q23 := yb_1.mp q23
        refine y_aload rfl rfl rfl ?_
        refine y_dup rfl rfl ?_
        refine y_gfi (v := q) rfl rfl (by decide) rfl (by decide) rfl (yeq _ _ _ _) ?_
        refine y_push rfl ?_
        refine y_iadd (v := (q + 1)) rfl rfl (by omega) ?_
        refine y_pfi (j := 7) rfl rfl (by decide) rfl rfl rfl rfl rfl ?_
        refine y_goto rfl ?_
        rw [show (yset (yset σ 140 7 q) 140 7 (q + 1)) = yset σ 140 7 (q + 1) from by simp only [yset_2]]
        refine ih (q + 1) (by omega) (by omega) ?_
        rw [← h1]
        exact (rend_go (by omega) (by unfold isFig; exact decide_eq_true (by have := tq (by omega); omega))).symm
theorem lx_tokenIs {g : Launch × XG × va_G} {σ : YS} {T : Int → Int} {L : Int} {p w : Int} {li : Nat} (hL : σ 140 2 = L) (hT : ∀ k, 0 ≤ k → k < L → σ 141 k = T k) (hTr : ∀ k, 0 ≤ k → k < L → 0 ≤ T k ∧ T k ≤ 255) (hl : 0 ≤ L ∧ L ≤ 200) (hq : 10 + ((li : Nat) : Int) = w) (hli : li < 5) (hs : σ 140 6 = p) (hp : 0 ≤ p) (he : p ≤ σ 140 7 ∧ σ 140 7 ≤ L) (hn7 : ((jlen.getD li 0 : Nat) : Int) = σ 140 7 - p) : ∀ (nn : Nat) (k : Int), ((jlen.getD li 0 : Nat) : Int) - k < (nn : Int) → (0 ≤ k ∧ k ≤ ((jlen.getD li 0 : Nat) : Int)) → (∀ j : Nat, (j : Int) < k → ychr li j = T (p + j)) → YW g 160 20 [some (2, 140), some (3, w), some (0, k)] [] σ (fun rv σ' => ∃ b, rv = some (0, b) ∧ (((((jlen.getD li 0 : Nat) : Int) = σ 140 7 - p ∧ ∀ j : Nat, j < jlen.getD li 0 → ychr li j = T (p + j)) ∧ b = 1 ∧ σ = σ') ∨ (¬ (((jlen.getD li 0 : Nat) : Int) = σ 140 7 - p ∧ ∀ j : Nat, j < jlen.getD li 0 → ychr li j = T (p + j)) ∧ b = 0 ∧ σ = σ'))) := by
  intro nn
  induction nn with
  | zero =>
    intro k hn h0 h1
    exfalso
    omega
  | succ nn ih =>
    intro k hn h0 h1
    have w6 := jlen_b li hli
    refine y_iload rfl rfl ?_
    refine y_aload rfl rfl rfl ?_
    refine y_slen (li := li) (v := ((jlen.getD li 0 : Nat) : Int)) rfl hq hli rfl rfl ?_
    refine y_icge rfl (fun q25 => ?_) (fun q25 => ?_)
    · skip
      refine y_push rfl ?_
      refine y_zret rfl rfl (by decide) ⟨_, rfl, ?_⟩
      exact Or.inl ⟨⟨hn7, fun j hj => h1 j (by omega)⟩, rfl, rfl⟩
    · skip
      refine y_aload rfl rfl rfl ?_
      refine y_iload rfl rfl ?_
      refine y_schar (li := li) (v := (ychr li (k).toNat)) rfl hq hli rfl (by omega) rfl ?_
      refine y_aload rfl rfl rfl ?_
      refine y_gfr (t := 141) rfl rfl (by decide) rfl (by decide) ?_
      refine y_aload rfl rfl rfl ?_
      refine y_gfi (v := (σ 140 6)) rfl rfl (by decide) rfl (by decide) rfl rfl ?_
      refine y_iload rfl rfl ?_
      refine y_iadd (v := ((σ 140 6) + k)) rfl rfl (by omega) ?_
      refine y_iald (v := (σ 141 ((σ 140 6) + k))) (n := 200) rfl rfl (by decide) rfl (by omega) rfl ?_
      refine y_iceq rfl (fun q44 => ?_) (fun q44 => ?_)
      · skip
        refine y_iinc (L' := [some (2, 140), some (3, w), some (0, (k + 1))]) rfl rfl rfl rfl rfl (by omega) ?_
        refine y_goto rfl ?_
        refine ih (k + 1) (by omega) (by omega) (fun j hj => ?_)
        rcases (by omega : (j : Int) < k ∨ (j : Int) = k) with z | z
        · exact h1 j z
        · have ej : j = k.toNat := by omega
          subst ej
          rw [q44, hs, hT _ (by omega) (by omega), z]
      · skip
        refine y_push rfl ?_
        refine y_zret rfl rfl (by decide) ⟨_, rfl, ?_⟩
        exact Or.inr ⟨fun z => q44 (by have := z.2 k.toNat (by omega); rw [show ((k.toNat : Nat) : Int) = k by omega] at this; rw [this, hT _ (by omega) (by omega), hs]), rfl, rfl⟩
theorem x_tokenIs {g : Launch × XG × va_G} {σ : YS} {T : Int → Int} {L : Int} {p w : Int} {li : Nat} (hL : σ 140 2 = L) (hT : ∀ k, 0 ≤ k → k < L → σ 141 k = T k) (hTr : ∀ k, 0 ≤ k → k < L → 0 ≤ T k ∧ T k ≤ 255) (hl : 0 ≤ L ∧ L ≤ 200) (hq : 10 + ((li : Nat) : Int) = w) (hli : li < 5) (hs : σ 140 6 = p) (hp : 0 ≤ p) (he : p ≤ σ 140 7 ∧ σ 140 7 ≤ L) : YI g 160 [(2, 140), (3, w)] σ (fun b σ' => ((((jlen.getD li 0 : Nat) : Int) = σ 140 7 - p ∧ ∀ j : Nat, j < jlen.getD li 0 → ychr li j = T (p + j)) ∧ b = 1 ∧ σ = σ') ∨ (¬ (((jlen.getD li 0 : Nat) : Int) = σ 140 7 - p ∧ ∀ j : Nat, j < jlen.getD li 0 → ychr li j = T (p + j)) ∧ b = 0 ∧ σ = σ')) := by
  refine y_start rfl rfl rfl ?_
  have w6 := jlen_b li hli
  refine y_aload rfl rfl rfl ?_
  refine y_slen (li := li) (v := ((jlen.getD li 0 : Nat) : Int)) rfl hq hli rfl rfl ?_
  refine y_aload rfl rfl rfl ?_
  refine y_gfi (v := (σ 140 7)) rfl rfl (by decide) rfl (by decide) rfl rfl ?_
  refine y_aload rfl rfl rfl ?_
  refine y_gfi (v := (σ 140 6)) rfl rfl (by decide) rfl (by decide) rfl rfl ?_
  refine y_isub (v := ((σ 140 7) - (σ 140 6))) rfl rfl (by omega) ?_
  refine y_iceq rfl (fun q13 => ?_) (fun q13 => ?_)
  · skip
    refine y_push rfl ?_
    refine y_istore (L' := [some (2, 140), some (3, w), some (0, 0)]) rfl rfl rfl rfl ?_
    exact lx_tokenIs hL hT hTr hl hq hli hs hp he (by omega) 20 0 (by omega) (by omega) (fun j hj => by omega)
  · skip
    refine y_push rfl ?_
    refine y_zret rfl rfl (by decide) ⟨_, rfl, ?_⟩
    exact Or.inr ⟨fun z => by omega, rfl, rfl⟩
theorem lx_takeWord {g : Launch × XG × va_G} {σ : YS} {T : Int → Int} {L : Int} {p : Int} (hL : σ 140 2 = L) (hT : ∀ k, 0 ≤ k → k < L → σ 141 k = T k) (hTr : ∀ k, 0 ≤ k → k < L → 0 ≤ T k ∧ T k ≤ 255) (hl : 0 ≤ L ∧ L ≤ 200) (hs : σ 140 6 = p) (he : σ 140 7 = p) (hp : 0 ≤ p ∧ p < L) : ∀ (nn : Nat) (q : Int), L - q < (nn : Int) → (p ≤ q ∧ q ≤ L) → (rend isLet T L q = rend isLet T L p) → YW g 159 0 [some (2, 140)] [] (yset σ 140 7 q) (fun rv σ' => rv = none ∧ (σ' = yset (yset σ 140 7 (rend isLet T L p)) 140 5 (if lwd T L p = -1 then 1 else lwd T L p + 5))) := by
  intro nn
  induction nn with
  | zero =>
    intro q hn h0 h1
    exfalso
    omega
  | succ nn ih =>
    intro q hn h0 h1
    have tq := fun z => hT q (by omega) z
    have tr := fun z => hTr q (by omega) z
    refine y_aload rfl rfl rfl ?_
    refine y_gfi (v := q) rfl rfl (by decide) rfl (by decide) rfl (yeq _ _ _ _) ?_
    refine y_aload rfl rfl rfl ?_
    refine y_gfi (v := (σ 140 2)) rfl rfl (by decide) rfl (by decide) rfl (yne (by omega) rfl) ?_
    refine y_icge rfl (fun q8 => ?_) (fun q8 => ?_)
    · skip
      have e : rend isLet T L p = q := by rw [← h1]; exact rend_at (fun z => by have z2 := z.2; unfold isLet at z2; have z3 := of_decide_eq_true z2; have := tq z.1; omega)
      refine y_aload rfl rfl rfl ?_
      refine y_ldcs (q := 11) rfl rfl ?_
      refine y_vi (as := [(2, 140), (3, 11)]) (S := []) rfl rfl rfl rfl rfl rfl (by decide) rfl (x_tokenIs (T := T) (L := L) (p := p) (li := 1) (w := 11) ((yne (by omega) rfl).trans hL) (fun k a b => (yne (by omega) rfl).trans (hT k a b)) hTr hl rfl (by decide) ((yne (by omega) rfl).trans hs) (by omega) ⟨by rw [yeq]; omega, by rw [yeq]; omega⟩) ?_
      rintro b_ s_ (⟨x1, rfl, rfl⟩ | ⟨x1, rfl, rfl⟩)
      · skip
        rw [yeq] at x1
        replace x1 := (tw_1 (by omega) e).mp x1
        refine y_ifeq rfl (fun q45 => ?_) (fun q45 => ?_)
        · exfalso; omega
        · skip
          refine y_aload rfl rfl rfl ?_
          refine y_push rfl ?_
          refine y_pfi (j := 5) rfl rfl (by decide) rfl rfl rfl rfl rfl ?_
          refine y_goto rfl ?_
          refine y_ret rfl rfl ⟨rfl, ?_⟩
          rw [e, x1, if_neg (by decide)]
          rfl
      · skip
        rw [yeq] at x1
        replace x1 := fun z => x1 ((tw_1 (by omega) e).mpr z)
        refine y_ifeq rfl (fun q45 => ?_) (fun q45 => ?_)
        · skip
          refine y_aload rfl rfl rfl ?_
          refine y_ldcs (q := 12) rfl rfl ?_
          refine y_vi (as := [(2, 140), (3, 12)]) (S := []) rfl rfl rfl rfl rfl rfl (by decide) rfl (x_tokenIs (T := T) (L := L) (p := p) (li := 2) (w := 12) ((yne (by omega) rfl).trans hL) (fun k a b => (yne (by omega) rfl).trans (hT k a b)) hTr hl rfl (by decide) ((yne (by omega) rfl).trans hs) (by omega) ⟨by rw [yeq]; omega, by rw [yeq]; omega⟩) ?_
          rintro b_ s_ (⟨x2, rfl, rfl⟩ | ⟨x2, rfl, rfl⟩)
          · skip
            rw [yeq] at x2
            replace x2 := (tw_2 (by omega) e).mp x2
            refine y_ifeq rfl (fun q62 => ?_) (fun q62 => ?_)
            · exfalso; omega
            · skip
              refine y_aload rfl rfl rfl ?_
              refine y_push rfl ?_
              refine y_pfi (j := 5) rfl rfl (by decide) rfl rfl rfl rfl rfl ?_
              refine y_goto rfl ?_
              refine y_ret rfl rfl ⟨rfl, ?_⟩
              rw [e, x2, if_neg (by decide)]
              rfl
          · skip
            rw [yeq] at x2
            replace x2 := fun z => x2 ((tw_2 (by omega) e).mpr z)
            refine y_ifeq rfl (fun q62 => ?_) (fun q62 => ?_)
            · skip
              refine y_aload rfl rfl rfl ?_
              refine y_ldcs (q := 13) rfl rfl ?_
              refine y_vi (as := [(2, 140), (3, 13)]) (S := []) rfl rfl rfl rfl rfl rfl (by decide) rfl (x_tokenIs (T := T) (L := L) (p := p) (li := 3) (w := 13) ((yne (by omega) rfl).trans hL) (fun k a b => (yne (by omega) rfl).trans (hT k a b)) hTr hl rfl (by decide) ((yne (by omega) rfl).trans hs) (by omega) ⟨by rw [yeq]; omega, by rw [yeq]; omega⟩) ?_
              rintro b_ s_ (⟨x3, rfl, rfl⟩ | ⟨x3, rfl, rfl⟩)
              · skip
                rw [yeq] at x3
                replace x3 := (tw_3 (by omega) e).mp x3
                refine y_ifeq rfl (fun q80 => ?_) (fun q80 => ?_)
                · exfalso; omega
                · skip
                  refine y_aload rfl rfl rfl ?_
                  refine y_push rfl ?_
                  refine y_pfi (j := 5) rfl rfl (by decide) rfl rfl rfl rfl rfl ?_
                  refine y_goto rfl ?_
                  refine y_ret rfl rfl ⟨rfl, ?_⟩
                  rw [e, x3, if_neg (by decide)]
                  rfl
              · skip
                rw [yeq] at x3
                replace x3 := fun z => x3 ((tw_3 (by omega) e).mpr z)
                refine y_ifeq rfl (fun q80 => ?_) (fun q80 => ?_)
                · skip
                  refine y_aload rfl rfl rfl ?_
                  refine y_aload rfl rfl rfl ?_
                  refine y_ldcs (q := 14) rfl rfl ?_
                  refine y_vi (as := [(2, 140), (3, 14)]) (S := [(2, 140)]) rfl rfl rfl rfl rfl rfl (by decide) rfl (x_tokenIs (T := T) (L := L) (p := p) (li := 4) (w := 14) ((yne (by omega) rfl).trans hL) (fun k a b => (yne (by omega) rfl).trans (hT k a b)) hTr hl rfl (by decide) ((yne (by omega) rfl).trans hs) (by omega) ⟨by rw [yeq]; omega, by rw [yeq]; omega⟩) ?_
                  rintro b_ s_ (⟨x4, rfl, rfl⟩ | ⟨x4, rfl, rfl⟩)
                  · skip
                    rw [yeq] at x4
                    replace x4 := (tw_4 (by omega) e).mp x4
                    refine y_ifeq rfl (fun q99 => ?_) (fun q99 => ?_)
                    · exfalso; omega
                    · skip
                      refine y_push rfl ?_
                      refine y_goto rfl ?_
                      refine y_pfi (j := 5) rfl rfl (by decide) rfl rfl rfl rfl rfl ?_
                      refine y_ret rfl rfl ⟨rfl, ?_⟩
                      rw [e, x4, if_neg (by decide)]
                      rfl
                  · skip
                    rw [yeq] at x4
                    replace x4 := fun z => x4 ((tw_4 (by omega) e).mpr z)
                    refine y_ifeq rfl (fun q99 => ?_) (fun q99 => ?_)
                    · skip
                      refine y_push rfl ?_
                      refine y_pfi (j := 5) rfl rfl (by decide) rfl rfl rfl rfl rfl ?_
                      refine y_ret rfl rfl ⟨rfl, ?_⟩
                      have lr := lwd_r (T := T) (L := L) (p := p)
                      have lm : lwd T L p = -1 := by rcases lr with z | z | z | z | z; exact z; exact absurd z x1; exact absurd z x2; exact absurd z x3; exact absurd z x4
                      rw [e, if_pos lm]
                    · exfalso; omega
                · exfalso; omega
            · exfalso; omega
        · exfalso; omega
    · skip
      refine y_aload rfl rfl rfl ?_
      refine y_gfr (t := 141) rfl rfl (by decide) rfl (by decide) ?_
      refine y_aload rfl rfl rfl ?_
      refine y_gfi (v := q) rfl rfl (by decide) rfl (by decide) rfl (yeq _ _ _ _) ?_
      refine y_iald (v := (σ 141 q)) (n := 200) rfl rfl (by decide) rfl (by omega) (yne (by omega) rfl) ?_
      have := tq (by omega)
      have := tr (by omega)
      refine y_si (as := [(0, (σ 141 q))]) (S := []) rfl rfl rfl rfl rfl rfl (x_isLetter (c := (σ 141 q)) (by omega)) ?_
      rintro _ _ ⟨rfl, rfl⟩
      refine y_ifeq rfl (fun q23 => ?_) (fun q23 => ?_)
      · skip
        replace q23 := yb_0.mp q23
        have e : rend isLet T L p = q := by rw [← h1]; exact rend_at (fun z => by have z2 := z.2; unfold isLet at z2; have z3 := of_decide_eq_true z2; have := tq z.1; omega)
        refine y_aload rfl rfl rfl ?_
        refine y_ldcs (q := 11) rfl rfl ?_
        refine y_vi (as := [(2, 140), (3, 11)]) (S := []) rfl rfl rfl rfl rfl rfl (by decide) rfl (x_tokenIs (T := T) (L := L) (p := p) (li := 1) (w := 11) ((yne (by omega) rfl).trans hL) (fun k a b => (yne (by omega) rfl).trans (hT k a b)) hTr hl rfl (by decide) ((yne (by omega) rfl).trans hs) (by omega) ⟨by rw [yeq]; omega, by rw [yeq]; omega⟩) ?_
        rintro b_ s_ (⟨x1, rfl, rfl⟩ | ⟨x1, rfl, rfl⟩)
        · skip
          rw [yeq] at x1
          replace x1 := (tw_1 (by omega) e).mp x1
          refine y_ifeq rfl (fun q45 => ?_) (fun q45 => ?_)
          · exfalso; omega
          · skip
            refine y_aload rfl rfl rfl ?_
            refine y_push rfl ?_
            refine y_pfi (j := 5) rfl rfl (by decide) rfl rfl rfl rfl rfl ?_
            refine y_goto rfl ?_
            refine y_ret rfl rfl ⟨rfl, ?_⟩
            rw [e, x1, if_neg (by decide)]
            rfl
        · skip
          rw [yeq] at x1
          replace x1 := fun z => x1 ((tw_1 (by omega) e).mpr z)
          refine y_ifeq rfl (fun q45 => ?_) (fun q45 => ?_)
          · skip
            refine y_aload rfl rfl rfl ?_
            refine y_ldcs (q := 12) rfl rfl ?_
            refine y_vi (as := [(2, 140), (3, 12)]) (S := []) rfl rfl rfl rfl rfl rfl (by decide) rfl (x_tokenIs (T := T) (L := L) (p := p) (li := 2) (w := 12) ((yne (by omega) rfl).trans hL) (fun k a b => (yne (by omega) rfl).trans (hT k a b)) hTr hl rfl (by decide) ((yne (by omega) rfl).trans hs) (by omega) ⟨by rw [yeq]; omega, by rw [yeq]; omega⟩) ?_
            rintro b_ s_ (⟨x2, rfl, rfl⟩ | ⟨x2, rfl, rfl⟩)
            · skip
              rw [yeq] at x2
              replace x2 := (tw_2 (by omega) e).mp x2
              refine y_ifeq rfl (fun q62 => ?_) (fun q62 => ?_)
              · exfalso; omega
              · skip
                refine y_aload rfl rfl rfl ?_
                refine y_push rfl ?_
                refine y_pfi (j := 5) rfl rfl (by decide) rfl rfl rfl rfl rfl ?_
                refine y_goto rfl ?_
                refine y_ret rfl rfl ⟨rfl, ?_⟩
                rw [e, x2, if_neg (by decide)]
                rfl
            · skip
              rw [yeq] at x2
              replace x2 := fun z => x2 ((tw_2 (by omega) e).mpr z)
              refine y_ifeq rfl (fun q62 => ?_) (fun q62 => ?_)
              · skip
                refine y_aload rfl rfl rfl ?_
                refine y_ldcs (q := 13) rfl rfl ?_
                refine y_vi (as := [(2, 140), (3, 13)]) (S := []) rfl rfl rfl rfl rfl rfl (by decide) rfl (x_tokenIs (T := T) (L := L) (p := p) (li := 3) (w := 13) ((yne (by omega) rfl).trans hL) (fun k a b => (yne (by omega) rfl).trans (hT k a b)) hTr hl rfl (by decide) ((yne (by omega) rfl).trans hs) (by omega) ⟨by rw [yeq]; omega, by rw [yeq]; omega⟩) ?_
                rintro b_ s_ (⟨x3, rfl, rfl⟩ | ⟨x3, rfl, rfl⟩)
                · skip
                  rw [yeq] at x3
                  replace x3 := (tw_3 (by omega) e).mp x3
                  refine y_ifeq rfl (fun q80 => ?_) (fun q80 => ?_)
                  · exfalso; omega
                  · skip
                    refine y_aload rfl rfl rfl ?_
                    refine y_push rfl ?_
                    refine y_pfi (j := 5) rfl rfl (by decide) rfl rfl rfl rfl rfl ?_
                    refine y_goto rfl ?_
                    refine y_ret rfl rfl ⟨rfl, ?_⟩
                    rw [e, x3, if_neg (by decide)]
                    rfl
                · skip
                  rw [yeq] at x3
                  replace x3 := fun z => x3 ((tw_3 (by omega) e).mpr z)
                  refine y_ifeq rfl (fun q80 => ?_) (fun q80 => ?_)
                  · skip
                    refine y_aload rfl rfl rfl ?_
                    refine y_aload rfl rfl rfl ?_
                    refine y_ldcs (q := 14) rfl rfl ?_
                    refine y_vi (as := [(2, 140), (3, 14)]) (S := [(2, 140)]) rfl rfl rfl rfl rfl rfl (by decide) rfl (x_tokenIs (T := T) (L := L) (p := p) (li := 4) (w := 14) ((yne (by omega) rfl).trans hL) (fun k a b => (yne (by omega) rfl).trans (hT k a b)) hTr hl rfl (by decide) ((yne (by omega) rfl).trans hs) (by omega) ⟨by rw [yeq]; omega, by rw [yeq]; omega⟩) ?_
                    rintro b_ s_ (⟨x4, rfl, rfl⟩ | ⟨x4, rfl, rfl⟩)
                    · skip
                      rw [yeq] at x4
                      replace x4 := (tw_4 (by omega) e).mp x4
                      refine y_ifeq rfl (fun q99 => ?_) (fun q99 => ?_)
                      · exfalso; omega
                      · skip
                        refine y_push rfl ?_
                        refine y_goto rfl ?_
                        refine y_pfi (j := 5) rfl rfl (by decide) rfl rfl rfl rfl rfl ?_
                        refine y_ret rfl rfl ⟨rfl, ?_⟩
                        rw [e, x4, if_neg (by decide)]
                        rfl
                    · skip
                      rw [yeq] at x4
                      replace x4 := fun z => x4 ((tw_4 (by omega) e).mpr z)
                      refine y_ifeq rfl (fun q99 => ?_) (fun q99 => ?_)
                      · skip
                        refine y_push rfl ?_
                        refine y_pfi (j := 5) rfl rfl (by decide) rfl rfl rfl rfl rfl ?_
                        refine y_ret rfl rfl ⟨rfl, ?_⟩
                        have lr := lwd_r (T := T) (L := L) (p := p)
                        have lm : lwd T L p = -1 := by rcases lr with z | z | z | z | z; exact z; exact absurd z x1; exact absurd z x2; exact absurd z x3; exact absurd z x4
                        rw [e, if_pos lm]
                      · exfalso; omega
                  · exfalso; omega
              · exfalso; omega
          · exfalso; omega
      · skip
        replace q23 := yb_1.mp q23
        refine y_aload rfl rfl rfl ?_
        refine y_dup rfl rfl ?_
        refine y_gfi (v := q) rfl rfl (by decide) rfl (by decide) rfl (yeq _ _ _ _) ?_
        refine y_push rfl ?_
        refine y_iadd (v := (q + 1)) rfl rfl (by omega) ?_
        refine y_pfi (j := 7) rfl rfl (by decide) rfl rfl rfl rfl rfl ?_
        refine y_goto rfl ?_
        rw [show (yset (yset σ 140 7 q) 140 7 (q + 1)) = yset σ 140 7 (q + 1) from by simp only [yset_2]]
        refine ih (q + 1) (by omega) (by omega) ?_
        rw [← h1]
        exact (rend_go (by omega) (by unfold isLet; exact decide_eq_true (by have := tq (by omega); omega))).symm
theorem x_takeNumber {g : Launch × XG × va_G} {σ : YS} {T : Int → Int} {L : Int} {p : Int} (hL : σ 140 2 = L) (hT : ∀ k, 0 ≤ k → k < L → σ 141 k = T k) (hTr : ∀ k, 0 ≤ k → k < L → 0 ≤ T k ∧ T k ≤ 255) (hl : 0 ≤ L ∧ L ≤ 200) (hs : σ 140 6 = p) (he : σ 140 7 = p) (hp : 0 ≤ p ∧ p < L) : YU g 161 [(2, 140)] σ (fun σ' => σ' = yset (yset σ 140 7 (rend isFig T L p)) 140 5 (if rend isFig T L p - p ≤ 2 then 2 else 1)) := by
  refine y_start rfl rfl rfl ?_
  have := lx_takeNumber (g := g) hL hT hTr hl hs he hp 202 p (by omega) (by omega) rfl
  rw [← he, yset_id] at this
  rw [← he]
  exact this
theorem x_takeWord {g : Launch × XG × va_G} {σ : YS} {T : Int → Int} {L : Int} {p : Int} (hL : σ 140 2 = L) (hT : ∀ k, 0 ≤ k → k < L → σ 141 k = T k) (hTr : ∀ k, 0 ≤ k → k < L → 0 ≤ T k ∧ T k ≤ 255) (hl : 0 ≤ L ∧ L ≤ 200) (hs : σ 140 6 = p) (he : σ 140 7 = p) (hp : 0 ≤ p ∧ p < L) : YU g 159 [(2, 140)] σ (fun σ' => σ' = yset (yset σ 140 7 (rend isLet T L p)) 140 5 (if lwd T L p = -1 then 1 else lwd T L p + 5)) := by
  refine y_start rfl rfl rfl ?_
  have := lx_takeWord (g := g) hL hT hTr hl hs he hp 202 p (by omega) (by omega) rfl
  rw [← he, yset_id] at this
  rw [← he]
  exact this
