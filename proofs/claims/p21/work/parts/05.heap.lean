theorem hget_eq (H : XH) (a : Nat) : hget H a = (H[a / 24]?).bind (fun c => c[a % 24]?) := by
  unfold hget
  rw [xnth_eq]
  cases H[a / 24]? with
  | none => rfl
  | some c => exact xnth_eq c _
theorem hset_ok (H : XH) (a : Nat) (x : XC) : ∃ H' : XH, (∀ {β : Type} (k : XH → β), hset H a x k = k H') ∧ ∀ (b : Nat) (c : XC), hget H' b = some c → (b = a ∧ c = x) ∨ (b ≠ a ∧ hget H b = some c) := by
  cases hq : xnth H (a / 24) with
  | none =>
    refine ⟨H, fun k => by simp [hset, hq], fun b c hb => Or.inr ⟨fun e => ?_, hb⟩⟩
    subst e
    simp [hget, hq] at hb
  | some ch =>
    refine ⟨H.set (a / 24) (ch.set (a % 24) x), fun k => by simp [hset, hq, xset_eq], fun b c hb => ?_⟩
    rw [xnth_eq] at hq
    rw [hget_eq, List.getElem?_set] at hb
    by_cases e : a / 24 = b / 24
    · rw [if_pos e] at hb
      split at hb
      · rw [Option.bind_some, List.getElem?_set] at hb
        by_cases e2 : a % 24 = b % 24
        · rw [if_pos e2] at hb
          split at hb
          · cases hb
            exact Or.inl ⟨by omega, rfl⟩
          · cases hb
        · rw [if_neg e2] at hb
          refine Or.inr ⟨fun z => e2 (by rw [z]), ?_⟩
          rw [hget_eq, ← e, hq]
          exact hb
      · cases hb
    · rw [if_neg e] at hb
      refine Or.inr ⟨fun z => e (by rw [z]), ?_⟩
      rw [hget_eq]
      exact hb
theorem hpush_ok (H : XH) (n : Nat) (x : XC) : (∀ k, hpush H n x k = none) ∨ ∃ H' : XH, (∀ k, hpush H n x k = k H') ∧ ∀ (b : Nat) (c : XC), hget H' b = some c → (b = n ∧ c = x) ∨ hget H b = some c := by
  cases e0 : Nat.beq (n % 24) 0
  · cases hq : xnth H (n / 24) with
    | none => exact Or.inl fun k => by simp [hpush, e0, hq]
    | some ch =>
      cases e1 : Nat.beq (xlen ch) (n % 24)
      · exact Or.inl fun k => by simp [hpush, e0, hq, e1]
      · have e1 := Nat.eq_of_beq_eq_true e1
        rw [xlen_eq] at e1
        refine Or.inr ⟨H.set (n / 24) (ch ++ [x]), fun k => by simp [hpush, e0, hq, xlen_eq, e1, xset_eq, xapp_eq], fun b c hb => ?_⟩
        rw [xnth_eq] at hq
        rw [hget_eq, List.getElem?_set] at hb
        by_cases e : n / 24 = b / 24
        · rw [if_pos e] at hb
          split at hb
          · rw [Option.bind_some] at hb
            by_cases e2 : b % 24 < ch.length
            · rw [List.getElem?_append_left e2] at hb
              refine Or.inr ?_
              rw [hget_eq, ← e, hq]
              exact hb
            · rw [List.getElem?_append_right (by omega)] at hb
              have h3 : b % 24 - ch.length < 1 := (List.getElem?_eq_some_iff.mp hb).1
              rw [show b % 24 - ch.length = 0 by omega] at hb
              cases hb
              exact Or.inl ⟨by omega, rfl⟩
          · cases hb
        · rw [if_neg e] at hb
          refine Or.inr ?_
          rw [hget_eq]
          exact hb
  · have e0' := Nat.eq_of_beq_eq_true e0
    cases e1 : Nat.beq (xlen H) (n / 24)
    · exact Or.inl fun k => by simp [hpush, e0', e1]
    · have e1 := Nat.eq_of_beq_eq_true e1
      rw [xlen_eq] at e1
      refine Or.inr ⟨H ++ [[x]], fun k => by simp [hpush, e0', xlen_eq, e1, xapp_eq], fun b c hb => ?_⟩
      rw [hget_eq] at hb
      by_cases e2 : b / 24 < H.length
      · rw [List.getElem?_append_left e2] at hb
        refine Or.inr ?_
        rw [hget_eq]
        exact hb
      · rw [List.getElem?_append_right (by omega)] at hb
        cases h4 : ([[x]] : XH)[b / 24 - H.length]? with
        | none => rw [h4] at hb; cases hb
        | some ch =>
          have h3 : b / 24 - H.length < 1 := (List.getElem?_eq_some_iff.mp h4).1
          rw [show b / 24 - H.length = 0 by omega] at h4
          rw [show b / 24 - H.length = 0 by omega] at hb
          simp only [List.getElem?_cons_zero, Option.bind_some] at hb
          have h5 : b % 24 < 1 := (List.getElem?_eq_some_iff.mp hb).1
          rw [show b % 24 = 0 by omega] at hb
          cases hb
          exact Or.inl ⟨by omega, rfl⟩
-- what stands for what: values
abbrev XG : Type := Nat × (Nat → Nat) × (Nat → Int)
def XVok (G : XG) (v : XV) (w : Value) : Prop := match v with
  | .inl u => ∃ i : Int32, w = .int i ∧ XIok G.2.2 u i.toInt
  | .inr (.inl u) => ∃ i : Int64, w = .long i ∧ u.1 ≤ i.toInt ∧ i.toInt ≤ u.2
  | .inr (.inr (.inl none)) => w = .null
  | .inr (.inr (.inl (some a))) => w = .ref (G.1 + a)
  | .inr (.inr (.inr t)) => w = .ref (G.2.1 t)
theorem xsame_ok {G : XG} {v d : XV} (h : xsame v d = true) {w : Value} (hv : XVok G v w) : XVok G d w := by
  unfold xsame at h
  split at h
  · rename_i a b o c e o'
    rw [Bool.and_eq_true, Bool.and_eq_true, xeq_iff, xeq_iff, xeq_iff] at h
    obtain ⟨i, h1, h2, h3, h4⟩ := hv
    dsimp only at h2 h3
    exact ⟨i, h1, by show c ≤ _; omega, by show _ ≤ e; omega, fun t ht => by cases ht⟩
  · cases h
theorem xov_ok (j : Nat) (v : XV) (ov : List (Nat × XV)) : (∃ ov', (∀ {β : Type} (kf : List (Nat × XV) → β) (kn : β), xov j v ov kf kn = kf ov') ∧ ∀ (d : XV) (i : Nat), xelt d ov' i = if i = j then v else xelt d ov i) ∨ ((∀ {β : Type} (kf : List (Nat × XV) → β) (kn : β), xov j v ov kf kn = kn) ∧ ∀ d : XV, xelt d ov j = d) := by
  induction ov with
  | nil => exact Or.inr ⟨fun kf kn => rfl, fun d => rfl⟩
  | cons q t ih =>
    cases e : Nat.beq q.1 j
    · have hne := Nat.ne_of_beq_eq_false e
      rcases ih with ⟨ov', h1, h2⟩ | ⟨h1, h2⟩
      · refine Or.inl ⟨q :: ov', fun kf kn => ?_, fun d i => ?_⟩
        · show (bif Nat.beq q.1 j then _ else xov j v t (fun t' => kf (q :: t')) kn) = _
          rw [e]
          exact h1 _ _
        · show (bif Nat.beq q.1 i then q.2 else xelt d ov' i) = if i = j then v else (bif Nat.beq q.1 i then q.2 else xelt d t i)
          rw [h2 d i]
          cases e2 : Nat.beq q.1 i
          · rfl
          · have e2 := Nat.eq_of_beq_eq_true e2
            simp only [cond_true]
            rw [if_neg (by omega)]
      · refine Or.inr ⟨fun kf kn => ?_, fun d => ?_⟩
        · show (bif Nat.beq q.1 j then _ else xov j v t (fun t' => kf (q :: t')) kn) = _
          rw [e]
          exact h1 _ _
        · show (bif Nat.beq q.1 j then q.2 else xelt d t j) = d
          rw [e]
          exact h2 d
    · have he := Nat.eq_of_beq_eq_true e
      refine Or.inl ⟨(j, v) :: t, fun kf kn => ?_, fun d i => ?_⟩
      · show (bif Nat.beq q.1 j then kf ((j, v) :: t) else _) = _
        rw [e]
        rfl
      · show (bif Nat.beq j i then v else xelt d t i) = if i = j then v else (bif Nat.beq q.1 i then q.2 else xelt d t i)
        by_cases h : i = j
        · subst h
          rw [if_pos rfl]
          simp
        · rw [if_neg h, he]
          have h0 : Nat.beq j i = false := by
            cases h9 : Nat.beq j i
            · rfl
            · exact absurd (Nat.eq_of_beq_eq_true h9).symm h
          rw [h0]
          rfl
theorem xput_ok {G : XG} (d : XV) (ov : List (Nat × XV)) (j : Nat) (v : XV) : ∃ ov' : List (Nat × XV), (∀ {β : Type} (k : List (Nat × XV) → β), xput d ov j v k = k ov') ∧ (∀ w, XVok G v w → XVok G (xelt d ov' j) w) ∧ ∀ i, i ≠ j → xelt d ov' i = xelt d ov i := by
  rcases xov_ok j v ov with ⟨ov', h1, h2⟩ | ⟨h1, h2⟩
  · refine ⟨ov', fun k => by simp [xput, h1], fun w hw => ?_, fun i hi => ?_⟩
    · rw [h2, if_pos rfl]
      exact hw
    · rw [h2, if_neg hi]
  · cases e : xsame v d
    · refine ⟨(j, v) :: ov, fun k => by simp [xput, h1, e], fun w hw => ?_, fun i hi => ?_⟩
      · show XVok G (bif Nat.beq j j then v else _) w
        simpa using hw
      · show (bif Nat.beq j i then v else xelt d ov i) = _
        have h0 : Nat.beq j i = false := by
          cases h9 : Nat.beq j i
          · rfl
          · exact absurd (Nat.eq_of_beq_eq_true h9).symm hi
        rw [h0]
        rfl
    · exact ⟨ov, fun k => by simp [xput, h1, e], fun w hw => by rw [h2]; exact xsame_ok e hw, fun i hi => rfl⟩
-- the world
def xqcls : List vw_C := [(RX0, TX0, 9), (RX1, TX1, 2), (RX2, TX2, 8), (RX3, TX3, 10), (RX4, TX4, 14), (RX5, TX5, 25)]
def xqrn (c : Nat) : String := match c with
  | 0 => RX0
  | 1 => RX1
  | 2 => RX2
  | 3 => RX3
  | 4 => RX4
  | _ => RX5
def xqty (t : Nat) : FieldType := match t with
  | 0 => .int
  | 1 => .boolean
  | 2 => .array .int
  | 10 => .object RX0
  | 11 => .object RX1
  | 12 => .object RX2
  | 13 => .object RX3
  | 14 => .object RX4
  | _ => .object RX5
def XCok (G : XG) (D : va_G) (U : State) (a : Nat) (c : XC) (H : Heap) : Prop := match c with
  | .inl q => ∃ vs : List Value, vs.length = q.2.length ∧ (∀ (j : Nat) (x : XV), q.2[j]? = some x → ∃ w, vs[j]? = some w ∧ XVok G x w) ∧ va_at D xqcls (G.1 + a, .inr (q.1, vs)) H
  | .inr q => ∃ (cA : ClassId) (f : Nat → Value), H[G.1 + a]? = some (arrV cA q.2.1 f) ∧ ArrOfT U cA (xqty q.1) ∧ va_RA U cA (xqty q.1) ∧ ∀ j, j < q.2.1 → XVok G (xelt q.2.2.1 q.2.2.2 j) (f j)
def XWok (G : XG) (D : va_G) (U : State) (Hx : XH) (n : Nat) (H : Heap) : Prop := H.size = G.1 + n ∧ ∀ (k : Nat) (c : XC), hget Hx k = some c → XCok G D U k c H
theorem XCok.kept {G : XG} {D : va_G} {U : State} {a : Nat} {c : XC} {H H1 : Heap} (h : XCok G D U a c H) (hq : H1[G.1 + a]? = H[G.1 + a]?) : XCok G D U a c H1 := by
  rcases c with q | q
  · obtain ⟨vs, h1, h2, h3⟩ := h
    exact ⟨vs, h1, h2, h3.kept hq⟩
  · obtain ⟨cA, f, h1, h2⟩ := h
    exact ⟨cA, f, by rw [hq]; exact h1, h2⟩
theorem XCok.lt {G : XG} {D : va_G} {U : State} {a : Nat} {c : XC} {H : Heap} (h : XCok G D U a c H) : G.1 + a < H.size := by
  rcases c with q | q
  · obtain ⟨vs, h1, h2, h3⟩ := h
    exact h3.lt
  · obtain ⟨cA, f, h1, h2⟩ := h
    exact (Array.getElem?_eq_some_iff.mp h1).1
theorem XCok.moved {G : XG} {D : va_G} {u U : State} {a : Nat} {c : XC} {H : Heap} (hvm : u.vm.Alike U.vm) (h : XCok G D u a c H) : XCok G D U a c H := by
  rcases c with q | q
  · exact h
  · obtain ⟨cA, f, h1, h2, h3, h4⟩ := h
    exact ⟨cA, f, h1, arrOfT_moved hvm h2, h3.moved hvm, h4⟩
theorem XWok.moved {G : XG} {D : va_G} {u U : State} {Hx : XH} {n : Nat} {H : Heap} (hvm : u.vm.Alike U.vm) (h : XWok G D u Hx n H) : XWok G D U Hx n H := ⟨h.1, fun k c hk => (h.2 k c hk).moved hvm⟩
/-- one cell written -/
theorem XWok.put {G : XG} {D : va_G} {U : State} {Hx H' : XH} {n a : Nat} {x : XC} {H H1 : Heap} (h : XWok G D U Hx n H) (hx : ∀ (b : Nat) (c : XC), hget H' b = some c → (b = a ∧ c = x) ∨ (b ≠ a ∧ hget Hx b = some c)) (hz : H1.size = H.size) (ho : ∀ q : Nat, q ≠ G.1 + a → H1[q]? = H[q]?) (hc : XCok G D U a x H1) : XWok G D U H' n H1 := by
  refine ⟨hz.trans h.1, fun k c hk => ?_⟩
  rcases hx k c hk with ⟨rfl, rfl⟩ | ⟨h1, h2⟩
  · exact hc
  · exact (h.2 k c h2).kept (ho _ (by omega))
/-- one cell made -/
theorem XWok.push {G : XG} {D : va_G} {U : State} {Hx H' : XH} {n : Nat} {x : XC} {H H1 : Heap} (h : XWok G D U Hx n H) (hx : ∀ (b : Nat) (c : XC), hget H' b = some c → (b = n ∧ c = x) ∨ hget Hx b = some c) (hz : H1.size = H.size + 1) (ho : ∀ q : Nat, q < H.size → H1[q]? = H[q]?) (hc : XCok G D U n x H1) : XWok G D U H' (n + 1) H1 := by
  refine ⟨by rw [hz, h.1]; rfl, fun k c hk => ?_⟩
  rcases hx k c hk with ⟨rfl, rfl⟩ | h2
  · exact hc
  · exact (h.2 k c h2).kept (ho _ (h.2 k c h2).lt)
