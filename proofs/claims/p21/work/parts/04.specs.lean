theorem fN_eq {β : Type} (n : Nat) (k : Nat → β) : fN n k = k n := by cases n <;> rfl
theorem fI_eq {β : Type} (i : Int) (k : Int → β) : fI i k = k i := by cases i <;> simp [fI, fN_eq]
theorem xle_iff (a b : Int) : xle a b = true ↔ a ≤ b := by
  cases a with
  | ofNat x =>
    cases b with
    | ofNat y =>
      show Nat.ble x y = true ↔ (x : Int) ≤ (y : Int)
      rw [Nat.ble_eq]
      omega
    | negSucc y =>
      have h := Int.negSucc_eq y
      show false = true ↔ (x : Int) ≤ Int.negSucc y
      rw [h]
      simp
      omega
  | negSucc x =>
    have h := Int.negSucc_eq x
    cases b with
    | ofNat y =>
      show true = true ↔ Int.negSucc x ≤ (y : Int)
      rw [h]
      simp
      omega
    | negSucc y =>
      have h2 := Int.negSucc_eq y
      show Nat.ble y x = true ↔ Int.negSucc x ≤ Int.negSucc y
      rw [Nat.ble_eq, h, h2]
      omega
theorem xeq_iff (a b : Int) : xeq a b = true ↔ a = b := by
  cases a with
  | ofNat x =>
    cases b with
    | ofNat y =>
      show Nat.beq x y = true ↔ (x : Int) = (y : Int)
      rw [Nat.beq_eq]
      omega
    | negSucc y =>
      have h := Int.negSucc_eq y
      show false = true ↔ (x : Int) = Int.negSucc y
      rw [h]
      simp
      omega
  | negSucc x =>
    have h := Int.negSucc_eq x
    cases b with
    | ofNat y =>
      show false = true ↔ Int.negSucc x = (y : Int)
      rw [h]
      simp
      omega
    | negSucc y =>
      have h2 := Int.negSucc_eq y
      show Nat.beq x y = true ↔ Int.negSucc x = Int.negSucc y
      rw [Nat.beq_eq, h, h2]
      omega
theorem xlt_iff (a b : Int) : xlt a b = true ↔ a < b := by
  have h := xle_iff b a
  unfold xlt
  cases hq : xle b a <;> rw [hq] at h <;> simp at h ⊢ <;> omega
theorem xle_f {a b : Int} (h : xle a b = false) : b < a := by
  have := xle_iff a b
  rw [h] at this
  simp at this
  omega
theorem xlt_f {a b : Int} (h : xlt a b = false) : b ≤ a := by
  have := xlt_iff a b
  rw [h] at this
  simp at this
  omega
theorem xeq_f {a b : Int} (h : xeq a b = false) : a ≠ b := by
  have := xeq_iff a b
  rw [h] at this
  simpa using this
theorem xmax_le {a b i : Int} (h1 : a ≤ i) (h2 : b ≤ i) : xmax a b ≤ i := by
  unfold xmax
  cases xle a b <;> assumption
theorem xmin_ge {a b i : Int} (h1 : i ≤ a) (h2 : i ≤ b) : i ≤ xmin a b := by
  unfold xmin
  cases xle a b <;> assumption
theorem xnth_eq {α : Type} (l : List α) : ∀ i : Nat, xnth l i = l[i]? := by
  induction l with
  | nil => intro i; simp [xnth]
  | cons x t ih =>
    intro i
    cases i with
    | zero => rfl
    | succ j => exact (ih j).trans (by simp)
theorem xset_eq {α β : Type} (l : List α) (a : α) : ∀ (i : Nat) (k : List α → β), xset l a i k = k (l.set i a) := by
  induction l with
  | nil => intro i k; rfl
  | cons x t ih =>
    intro i k
    cases i with
    | zero => rfl
    | succ j => exact ih j _
theorem xapp_eq {α β : Type} (l m : List α) : ∀ k : List α → β, xapp l m k = k (l ++ m) := by
  induction l with
  | nil => intro k; rfl
  | cons x t ih => intro k; exact ih _
theorem xlen_eq {α : Type} (l : List α) : xlen l = l.length := by
  induction l with
  | nil => rfl
  | cons x t ih => exact congrArg Nat.succ ih
-- what stands for what: numbers
def XIok (ρ : Nat → Int) (v : XVI) (i : Int) : Prop := v.1 ≤ i ∧ i ≤ v.2.1 ∧ ∀ t, v.2.2.1 = t + 1 → i = ρ t + v.2.2.2
def XEok (ρ : Nat → Int) (E : XE) : Prop := ∀ (t : Nat) (q : Int × Int), E[t]? = some q → q.1 ≤ ρ t ∧ ρ t ≤ q.2
def XTok (ρ : Nat → Int) (t : XT) (P : Prop) : Prop := match t with
  | .inl b => b = true ↔ P
  | .inr q => (P → XEok ρ q.1) ∧ (¬ P → XEok ρ q.2)
theorem xrng_ok {ρ : Nat → Int} {E : XE} {v : XVI} {i : Int} (hE : XEok ρ E) (hv : XIok ρ v i) : ∃ a b : Int, a ≤ i ∧ i ≤ b ∧ ∀ {β : Type} (k : Int → Int → β), xrng E v k = k a b := by
  obtain ⟨lo, hi, s, o⟩ := v
  obtain ⟨h1, h2, h3⟩ := hv
  cases s with
  | zero => exact ⟨lo, hi, h1, h2, fun k => rfl⟩
  | succ t =>
    have hi2 := h3 t rfl
    cases hq : xnth E t with
    | none => exact ⟨lo, hi, h1, h2, fun k => by simp [xrng, hq]⟩
    | some q =>
      obtain ⟨a, b⟩ := q
      rw [xnth_eq] at hq
      have := hE t _ hq
      refine ⟨xmax lo (a + o), xmin hi (b + o), xmax_le h1 ?_, xmin_ge h2 ?_, fun k => ?_⟩
      · dsimp only at this hi2; omega
      · dsimp only at this hi2; omega
      · rw [← xnth_eq] at hq
        simp [xrng, hq, fI_eq]
theorem xref_ok {ρ : Nat → Int} (E : XE) (v : XVI) (lo hi : Int) : ∃ E' : XE, (∀ {β : Type} (k : XE → β), xref E v lo hi k = k E') ∧ ∀ i : Int, XEok ρ E → XIok ρ v i → lo ≤ i → i ≤ hi → XEok ρ E' := by
  obtain ⟨l0, h0, s, o⟩ := v
  cases s with
  | zero => exact ⟨E, fun k => rfl, fun i hE _ _ _ => hE⟩
  | succ t =>
    cases hq : xnth E t with
    | none => exact ⟨E, fun k => by simp [xref, hq], fun i hE _ _ _ => hE⟩
    | some q =>
      obtain ⟨a, b⟩ := q
      refine ⟨E.set t (xmax a (lo - o), xmin b (hi - o)), fun k => by simp [xref, hq, fI_eq, xset_eq], fun i hE hv h1 h2 => ?_⟩
      have hi2 := hv.2.2 t rfl
      rw [xnth_eq] at hq
      have hh := hE t _ hq
      intro u q hu
      rw [List.getElem?_set] at hu
      by_cases e : t = u
      · subst e
        rw [if_pos rfl] at hu
        split at hu
        · cases hu
          dsimp only at hh hi2 ⊢
          exact ⟨xmax_le hh.1 (by omega), xmin_ge hh.2 (by omega)⟩
        · cases hu
      · rw [if_neg e] at hu
        exact hE u q hu
theorem xtnot_ok {ρ : Nat → Int} {t : XT} {P : Prop} (h : XTok ρ t P) : XTok ρ (xtnot t) (¬ P) := by
  rcases t with b | ⟨e1, e2⟩
  · have h : b = true ↔ P := h
    show (!b) = true ↔ ¬ P
    rw [← h]
    cases b <;> simp
  · exact ⟨h.2, fun hn => h.1 (Classical.byContradiction hn)⟩
theorem xtlt_ok {ρ : Nat → Int} {E : XE} {x y : XVI} {i j : Int} (hE : XEok ρ E) (hx : XIok ρ x i) (hy : XIok ρ y j) : XTok ρ (xtlt E x y) (i < j) := by
  obtain ⟨a, b, h1, h2, hab⟩ := xrng_ok hE hx
  obtain ⟨c, d, h3, h4, hcd⟩ := xrng_ok hE hy
  unfold xtlt
  rw [hab, hcd]
  cases e1 : xlt b c
  · cases e2 : xle d a
    · cases e3 : xeq c d
      · cases e4 : xeq a b
        · exact ⟨fun _ => hE, fun _ => hE⟩
        · have e4 := (xeq_iff a b).mp e4
          obtain ⟨E1, q1, r1⟩ := xref_ok (ρ := ρ) E y (a + 1) d
          obtain ⟨E2, q2, r2⟩ := xref_ok (ρ := ρ) E y c a
          simp only [cond_false, cond_true, fI_eq, q1, q2]
          exact ⟨fun h => r1 j hE hy (by omega) h4, fun h => r2 j hE hy h3 (by omega)⟩
      · have e3 := (xeq_iff c d).mp e3
        obtain ⟨E1, q1, r1⟩ := xref_ok (ρ := ρ) E x a (c - 1)
        obtain ⟨E2, q2, r2⟩ := xref_ok (ρ := ρ) E x c b
        simp only [cond_false, cond_true, fI_eq, q1, q2]
        exact ⟨fun h => r1 i hE hx h1 (by omega), fun h => r2 i hE hx (by omega) h2⟩
    · have e2 := (xle_iff d a).mp e2
      show false = true ↔ i < j
      simp
      omega
  · have e1 := (xlt_iff b c).mp e1
    show true = true ↔ i < j
    simp
    omega
theorem xteq_ok {ρ : Nat → Int} {E : XE} {x y : XVI} {i j : Int} (hE : XEok ρ E) (hx : XIok ρ x i) (hy : XIok ρ y j) : XTok ρ (xteq E x y) (i = j) := by
  obtain ⟨a, b, h1, h2, hab⟩ := xrng_ok hE hx
  obtain ⟨c, d, h3, h4, hcd⟩ := xrng_ok hE hy
  unfold xteq
  rw [hab, hcd]
  cases e1 : xlt b c
  rotate_left
  · have e1 := (xlt_iff b c).mp e1
    show false = true ↔ i = j
    simp
    omega
  cases e2 : xlt d a
  rotate_left
  · have e2 := (xlt_iff d a).mp e2
    show false = true ↔ i = j
    simp
    omega
  cases e3 : (xeq a b && xeq c d)
  rotate_left
  · rw [Bool.and_eq_true, xeq_iff, xeq_iff] at e3
    have e1 := xlt_f e1
    have e2 := xlt_f e2
    show true = true ↔ i = j
    simp
    omega
  cases e4 : (!(Nat.beq x.2.2.1 0) && Nat.beq x.2.2.1 y.2.2.1)
  rotate_left
  · rw [Bool.and_eq_true] at e4
    obtain ⟨e5, e6⟩ := e4
    have e6 : x.2.2.1 = y.2.2.1 := Nat.eq_of_beq_eq_true e6
    have e7 : x.2.2.1 ≠ 0 := fun q => by rw [q] at e5; simp at e5
    obtain ⟨t, ht⟩ := Nat.exists_eq_succ_of_ne_zero e7
    have f1 := hx.2.2 t ht
    have f2 := hy.2.2 t (e6 ▸ ht)
    show xeq _ _ = true ↔ i = j
    rw [xeq_iff]
    omega
  cases e5 : xeq c d
  · cases e6 : xeq a b
    · exact ⟨fun _ => hE, fun _ => hE⟩
    · have e6 := (xeq_iff a b).mp e6
      obtain ⟨E1, q1, r1⟩ := xref_ok (ρ := ρ) E y a a
      obtain ⟨E2, q2, r2⟩ := xref_ok (ρ := ρ) E y (c + 1) d
      obtain ⟨E3, q3, r3⟩ := xref_ok (ρ := ρ) E y c (d - 1)
      simp only [cond_false, cond_true, fI_eq, q1, q2, q3]
      cases e7 : xeq a c
      · cases e8 : xeq a d
        · exact ⟨fun h => r1 j hE hy (by omega) (by omega), fun _ => hE⟩
        · have e8 := (xeq_iff a d).mp e8
          exact ⟨fun h => r1 j hE hy (by omega) (by omega), fun h => r3 j hE hy h3 (by omega)⟩
      · have e7 := (xeq_iff a c).mp e7
        exact ⟨fun h => r1 j hE hy (by omega) (by omega), fun h => r2 j hE hy (by omega) h4⟩
  · have e5 := (xeq_iff c d).mp e5
    obtain ⟨E1, q1, r1⟩ := xref_ok (ρ := ρ) E x c c
    obtain ⟨E2, q2, r2⟩ := xref_ok (ρ := ρ) E x (a + 1) b
    obtain ⟨E3, q3, r3⟩ := xref_ok (ρ := ρ) E x a (b - 1)
    simp only [cond_false, cond_true, fI_eq, q1, q2, q3]
    cases e7 : xeq a c
    · cases e8 : xeq b c
      · exact ⟨fun h => r1 i hE hx (by omega) (by omega), fun _ => hE⟩
      · have e8 := (xeq_iff b c).mp e8
        exact ⟨fun h => r1 i hE hx (by omega) (by omega), fun h => r3 i hE hx h1 (by omega)⟩
    · have e7 := (xeq_iff a c).mp e7
      exact ⟨fun h => r1 i hE hx (by omega) (by omega), fun h => r2 i hE hx (by omega) h2⟩
/-- the tests by their number -/
def XPr (op : Nat) (i j : Int) : Prop := if op = 0 then i = j else if op = 1 then ¬ i = j else if op = 2 then i < j else if op = 3 then ¬ i < j else if op = 4 then j < i else ¬ j < i
theorem xtest_ok {ρ : Nat → Int} (op : Nat) {E : XE} {x y : XVI} {i j : Int} (hE : XEok ρ E) (hx : XIok ρ x i) (hy : XIok ρ y j) : XTok ρ (xtest op E x y) (XPr op i j) := by
  have key : ∀ k : Nat, Nat.beq op k = decide (op = k) := fun k => by
    cases h : Nat.beq op k
    · have := Nat.ne_of_beq_eq_false h
      simp [this]
    · have := Nat.eq_of_beq_eq_true h
      simp [this]
  unfold xtest XPr
  rw [key 0, key 1, key 2, key 3, key 4]
  by_cases h0 : op = 0
  · simp only [h0, decide_true, cond_true, if_true]; exact xteq_ok hE hx hy
  by_cases h1 : op = 1
  · subst h1; exact xtnot_ok (xteq_ok hE hx hy)
  by_cases h2 : op = 2
  · subst h2; exact xtlt_ok hE hx hy
  by_cases h3 : op = 3
  · subst h3; exact xtnot_ok (xtlt_ok hE hx hy)
  by_cases h4 : op = 4
  · subst h4; exact xtlt_ok hE hy hx
  simp only [h0, h1, h2, h3, h4, decide_false, cond_false, if_false]
  exact xtnot_ok (xtlt_ok hE hy hx)
theorem xqMIN_v : xqMIN = -2147483648 := rfl
theorem xqMAX_v : xqMAX = 2147483647 := rfl
theorem xqLMIN_v : xqLMIN = -9223372036854775808 := rfl
theorem xqLMAX_v : xqLMAX = 9223372036854775807 := rfl
theorem xi32 (x : Int32) : xqMIN ≤ x.toInt ∧ x.toInt ≤ xqMAX := by
  have h1 := Int32.le_toInt x
  have h2 := Int32.toInt_lt x
  rw [xqMIN_v, xqMAX_v]
  omega
theorem xi64 (x : Int64) : xqLMIN ≤ x.toInt ∧ x.toInt ≤ xqLMAX := by
  have h1 := Int64.le_toInt x
  have h2 := Int64.toInt_lt x
  rw [xqLMIN_v, xqLMAX_v]
  omega
theorem xtop_ok {ρ : Nat → Int} (x : Int32) : XIok ρ xqTop x.toInt := ⟨(xi32 x).1, (xi32 x).2, fun t h => by cases h⟩
theorem xk_ok {ρ : Nat → Int} (i o : Int) : XIok ρ (i, i, 0, o) i := ⟨Int.le_refl _, Int.le_refl _, fun t h => by cases h⟩
theorem xno_ok {ρ : Nat → Int} {a b i o : Int} (h1 : a ≤ i) (h2 : i ≤ b) : XIok ρ (a, b, 0, o) i := ⟨h1, h2, fun t h => by cases h⟩
theorem xadd_toInt {x y : Int32} (h1 : -2147483648 ≤ x.toInt + y.toInt) (h2 : x.toInt + y.toInt ≤ 2147483647) : (x + y).toInt = x.toInt + y.toInt := by
  rw [Int32.toInt_add]
  exact Int.bmod_eq_of_le (by omega) (by omega)
theorem xsub_toInt {x y : Int32} (h1 : -2147483648 ≤ x.toInt - y.toInt) (h2 : x.toInt - y.toInt ≤ 2147483647) : (x - y).toInt = x.toInt - y.toInt := by
  rw [Int32.toInt_sub]
  exact Int.bmod_eq_of_le (by omega) (by omega)
theorem nb0 {s : Nat} (h : (!(Nat.beq s 0)) = true) : s ≠ 0 := fun q => by rw [q] at h; simp at h
theorem xiadd_ok {ρ : Nat → Int} {E : XE} {x y : XVI} {i j : Int32} (hE : XEok ρ E) (hx : XIok ρ x i.toInt) (hy : XIok ρ y j.toInt) : ∃ w : XVI, XIok ρ w (i + j).toInt ∧ ∀ {β : Type} (k : XVI → β), xiadd E x y k = k w := by
  obtain ⟨a, b, h1, h2, hab⟩ := xrng_ok hE hx
  obtain ⟨c, d, h3, h4, hcd⟩ := xrng_ok hE hy
  simp only [xiadd, hab, hcd, fI_eq]
  cases e0 : (xle xqMIN (a + c) && xle (b + d) xqMAX)
  · exact ⟨xqTop, xtop_ok _, fun k => rfl⟩
  rw [Bool.and_eq_true, xle_iff, xle_iff, xqMIN_v, xqMAX_v] at e0
  have hs := xadd_toInt (x := i) (y := j) (by omega) (by omega)
  cases e1 : (xeq c d && !(Nat.beq x.2.2.1 0))
  · cases e2 : (xeq a b && !(Nat.beq y.2.2.1 0))
    · exact ⟨_, xno_ok (by omega) (by omega), fun k => rfl⟩
    · rw [Bool.and_eq_true, xeq_iff] at e2
      refine ⟨_, ⟨?_, ?_, fun t ht => ?_⟩, fun k => rfl⟩
      · show a + c ≤ _; omega
      · show _ ≤ b + d; omega
      · have := hy.2.2 t ht
        show _ = ρ t + (y.2.2.2 + a)
        omega
  · rw [Bool.and_eq_true, xeq_iff] at e1
    refine ⟨_, ⟨?_, ?_, fun t ht => ?_⟩, fun k => rfl⟩
    · show a + c ≤ _; omega
    · show _ ≤ b + d; omega
    · have := hx.2.2 t ht
      show _ = ρ t + (x.2.2.2 + c)
      omega
theorem xisub_ok {ρ : Nat → Int} {E : XE} {x y : XVI} {i j : Int32} (hE : XEok ρ E) (hx : XIok ρ x i.toInt) (hy : XIok ρ y j.toInt) : ∃ w : XVI, XIok ρ w (i - j).toInt ∧ ∀ {β : Type} (k : XVI → β), xisub E x y k = k w := by
  obtain ⟨a, b, h1, h2, hab⟩ := xrng_ok hE hx
  obtain ⟨c, d, h3, h4, hcd⟩ := xrng_ok hE hy
  simp only [xisub, hab, hcd, fI_eq]
  cases e0 : (xle xqMIN (a - d) && xle (b - c) xqMAX)
  · exact ⟨xqTop, xtop_ok _, fun k => rfl⟩
  rw [Bool.and_eq_true, xle_iff, xle_iff, xqMIN_v, xqMAX_v] at e0
  have hs := xsub_toInt (x := i) (y := j) (by omega) (by omega)
  cases e1 : (xeq c d && !(Nat.beq x.2.2.1 0))
  · exact ⟨_, xno_ok (by omega) (by omega), fun k => rfl⟩
  · rw [Bool.and_eq_true, xeq_iff] at e1
    refine ⟨_, ⟨?_, ?_, fun t ht => ?_⟩, fun k => rfl⟩
    · show a - d ≤ _; omega
    · show _ ≤ b - c; omega
    · have := hx.2.2 t ht
      show _ = ρ t + (x.2.2.2 - c)
      omega
theorem xof {x : Int32} {a b : Int} (h1 : a ≤ x.toInt) (h2 : x.toInt ≤ b) (h : a = b) : Int32.ofInt a = x := by
  have : a = x.toInt := by omega
  rw [this, Int32.ofInt_toInt]
theorem xof64 {x : Int64} {a b : Int} (h1 : a ≤ x.toInt) (h2 : x.toInt ≤ b) (h : a = b) : Int64.ofInt a = x := by
  have : a = x.toInt := by omega
  rw [this, Int64.ofInt_toInt]
theorem xfold_ok {ρ : Nat → Int} (f : Int32 → Int32 → Int32) {E : XE} {x y : XVI} {i j : Int32} (hE : XEok ρ E) (hx : XIok ρ x i.toInt) (hy : XIok ρ y j.toInt) : ∃ w : XVI, XIok ρ w (f i j).toInt ∧ ∀ {β : Type} (k : XVI → β), xfold f E x y k = k w := by
  obtain ⟨a, b, h1, h2, hab⟩ := xrng_ok hE hx
  obtain ⟨c, d, h3, h4, hcd⟩ := xrng_ok hE hy
  simp only [xfold, hab, hcd, fI_eq]
  cases e0 : (xeq a b && xeq c d)
  · exact ⟨xqTop, xtop_ok _, fun k => rfl⟩
  rw [Bool.and_eq_true, xeq_iff, xeq_iff] at e0
  rw [xof h1 h2 e0.1, xof h3 h4 e0.2]
  exact ⟨_, xk_ok _ _, fun k => rfl⟩
