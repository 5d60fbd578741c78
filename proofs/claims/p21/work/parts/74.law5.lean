/-! From the executor's world at the loop's head, the constructors run, to the contents themselves. -/
noncomputable def xqE0 : XE := [(xqMIN, xqMAX), (xqMIN, xqMAX), (xqMIN, xqMAX), (xqMIN, xqMAX), (xqMIN, xqMAX), (0, 320)]
def xqx0 (E : XE) : XS := (0, [some (.inr (.inr (.inr 0))), none, none, none], [], E, [], 0, 0, 0)
noncomputable def xqy : Option XS := xreach 18 1000000 (xqx0 xqE0)
noncomputable def xyint (v : Int) (x : XV) : Bool := match x with
  | .inl (lo, hi, _, _) => xeq lo v && xeq hi v
  | _ => false
noncomputable def xyfld (v : Int) (t : Int) (x : XV) : Bool := match x with
  | .inl (lo, hi, _, _) => decide (t < 0 ∧ t ≠ -3) && (xeq lo v && xeq hi v)
  | .inr (.inl (lo, hi)) => decide (t = -3) && (xeq lo v && xeq hi v)
  | .inr (.inr (.inl (some a))) => decide (t = (a : Int))
  | _ => false
noncomputable def xyref (r : Int) (x : XV) : Bool := match x with
  | .inr (.inr (.inl (some a))) => Nat.beq a r.toNat
  | _ => false
noncomputable def xyflds (a : Nat) : Nat → List XV → List Int → Bool
  | _, [], [] => true
  | j, v :: fs, t :: ts => xyfld (y0 a j) t v && xyflds a (j + 1) fs ts
  | _, _, _ => false
noncomputable def xyarr (a : Nat) (len : Nat) (q : List Int) (d : XV) (ov : List (Nat × XV)) : Bool := match q with
  | [b, dd] => (List.range len).all (fun j => xyref (b + dd * j) (xelt d ov j))
  | [] => xyint 0 d && (ov.all (fun q => xyint (y0 a q.1) q.2) && (decide ((a : Int) ∉ ynz) || (Nat.beq a 548 && ov.any (fun q => Nat.beq q.1 0))))
  | _ => false
noncomputable def xycell (a : Nat) (c : YC) (x : XC) : Bool := match x with
  | .inl (ci, fs) => Nat.beq c.1 ci && (Nat.blt c.1 10 && xyflds a 0 fs c.2.2)
  | .inr (ty, len, d, ov) => Nat.beq c.1 (10 + ty) && (Nat.beq c.2.1 len && xyarr a len c.2.2 d ov)
noncomputable def xyheap (H : XH) : Bool := (List.range 576).all fun a => match ycell a with
  | none => true
  | some c => (match hget H a with
    | none => false
    | some x => xycell a c x)
noncomputable def xyloc (L : XLc) : Bool := match L with
  | [some (.inr (.inr (.inr a))), some (.inr (.inr (.inl (some b)))), some (.inr (.inr (.inl (some c)))), some (.inl (lo, hi, _, _))] => Nat.beq a 0 && (Nat.beq b 0 && (Nat.beq c 547 && (xeq lo 0 && xeq hi 0)))
  | _ => false
noncomputable def xyok : Bool := match xqy with
  | some (pc, L, S, _, H, n, ce, sl) => Nat.beq pc 18 && (xyloc L && (Nat.beq S.length 0 && (Nat.beq n 566 && (Nat.beq ce 566 && (Nat.beq sl 23882 && xyheap H)))))
  | none => false
set_option maxRecDepth 100000 in
theorem xyok_t : xyok = true := by decide +kernel
theorem xyint_ok {G : XG} {v : Int} {x : XV} {w : Value} (h : xyint v x = true) (hx : XVok G x w) : ∃ i : Int32, w = .int i ∧ i.toInt = v := by
  unfold xyint at h
  split at h
  · rw [Bool.and_eq_true, xeq_iff, xeq_iff] at h
    obtain ⟨i, rfl, h1, h2, -⟩ := hx
    dsimp only at h1 h2
    exact ⟨i, rfl, by omega⟩
  · cases h
theorem xyref_ok {G : XG} {r : Int} {x : XV} {w : Value} (h : xyref r x = true) (hx : XVok G x w) : w = .ref (G.1 + r.toNat) := by
  unfold xyref at h
  split at h
  · rename_i a
    have e := Nat.eq_of_beq_eq_true h
    have hx : w = .ref (G.1 + a) := hx
    rw [hx, e]
  · cases h
theorem xyfld_ok {G : XG} {v t : Int} {x : XV} {w : Value} (h : xyfld v t x = true) (hx : XVok G x w) : YFok G t v w := by
  unfold xyfld at h
  unfold YFok
  split at h
  · rw [Bool.and_eq_true, Bool.and_eq_true, xeq_iff, xeq_iff] at h
    have h0 := of_decide_eq_true h.1
    rw [if_neg (by omega), if_pos (by omega)]
    obtain ⟨i, rfl, h1, h2, -⟩ := hx
    dsimp only at h1 h2
    exact ⟨i, rfl, by omega⟩
  · rw [Bool.and_eq_true, Bool.and_eq_true, xeq_iff, xeq_iff] at h
    have h0 := of_decide_eq_true h.1
    rw [if_pos h0]
    obtain ⟨i, rfl, h1, h2⟩ := hx
    dsimp only at h1 h2
    exact ⟨i, rfl, by omega⟩
  · rename_i a
    have h0 := of_decide_eq_true h
    rw [if_neg (by omega), if_neg (by omega), show t.toNat = a by omega]
    exact hx
  · cases h
theorem xyflds_ok {a : Nat} : ∀ (j0 : Nat) (fs : List XV) (ts : List Int), xyflds a j0 fs ts = true → fs.length = ts.length ∧ ∀ (j : Nat) (v : XV) (t : Int), fs[j]? = some v → ts[j]? = some t → xyfld (y0 a ((j0 + j : Nat) : Int)) t v = true
  | j0, [], [], _ => ⟨rfl, fun j v t h => by simp at h⟩
  | j0, v :: fs, t :: ts, h => by
    unfold xyflds at h
    rw [Bool.and_eq_true] at h
    obtain ⟨h1, h2⟩ := h
    obtain ⟨h3, h4⟩ := xyflds_ok (j0 + 1) fs ts h2
    refine ⟨by simp [h3], fun j v' t' e1 e2 => ?_⟩
    cases j with
    | zero => cases e1; cases e2; exact h1
    | succ j =>
      have := h4 j v' t' e1 e2
      rw [show j0 + 1 + j = j0 + (j + 1) by omega] at this
      exact this
  | j0, [], t :: ts, h => by unfold xyflds at h; cases h
  | j0, v :: fs, [], h => by unfold xyflds at h; cases h
theorem xelt_ok {d : XV} {Q : Nat → XV → Prop} : ∀ (ov : List (Nat × XV)), (∀ j, (∀ q ∈ ov, q.1 ≠ j) → Q j d) → (∀ q ∈ ov, Q q.1 q.2) → ∀ j, Q j (xelt d ov j)
  | [], hd, _, j => hd j (fun q hq => by cases hq)
  | q :: ov, hd, ho, j => by
    show Q j (bif Nat.beq q.1 j then q.2 else xelt d ov j)
    cases e : Nat.beq q.1 j
    · rw [cond_false]
      have e1 : q.1 ≠ j := Nat.ne_of_beq_eq_false e
      by_cases z : ∀ r ∈ ov, r.1 ≠ j
      · have key : ∀ (ov : List (Nat × XV)), (∀ r ∈ ov, r.1 ≠ j) → xelt d ov j = d := by
          intro ov
          induction ov with
          | nil => intro _; rfl
          | cons r ov ih =>
            intro z
            show (bif Nat.beq r.1 j then r.2 else xelt d ov j) = d
            have : Nat.beq r.1 j = false := by
              cases e : Nat.beq r.1 j
              · rfl
              · exact absurd (Nat.eq_of_beq_eq_true e) (z r List.mem_cons_self)
            rw [this, cond_false]
            exact ih (fun r' h => z r' (List.mem_cons_of_mem _ h))
        rw [key ov z]
        exact hd j (fun r hr => by
          rcases List.mem_cons.mp hr with rfl | hr
          · exact e1
          · exact z r hr)
      · refine xelt_ok (Q := fun k x => k = j → Q k x) ov (fun k hk e2 => ?_) (fun r hr _ => ho r (List.mem_cons_of_mem _ hr)) j rfl
        subst e2
        exact absurd hk z
    · rw [cond_true]
      have e1 := Nat.eq_of_beq_eq_true e
      rw [← e1]
      exact ho q List.mem_cons_self
theorem xyarr_ok {G : XG} {a len : Nat} {q : List Int} {d : XV} {ov : List (Nat × XV)} (h : xyarr a len q d ov = true) {j : Nat} (hj : j < len) {w : Value} (hx : XVok G (xelt d ov j) w) : YEok G q j (y0 a j) w := by
  unfold xyarr at h
  unfold YEok
  split at h
  · exact xyref_ok (List.all_eq_true.mp h j (List.mem_range.mpr hj)) hx
  · rw [Bool.and_eq_true, Bool.and_eq_true] at h
    obtain ⟨h1, h2, h3⟩ := h
    dsimp only
    refine xelt_ok (Q := fun j x => ∀ w, XVok G x w → ∃ i : Int32, w = .int i ∧ i.toInt = y0 a j) ov (fun j hn w hx => ?_) (fun r hr w hx => xyint_ok (List.all_eq_true.mp h2 r hr) hx) j w hx
    obtain ⟨i, e1, e2⟩ := xyint_ok h1 hx
    refine ⟨i, e1, e2.trans ?_⟩
    cases e : decide ((a : Int) ∉ ynz)
    · rw [e, Bool.false_or, Bool.and_eq_true] at h3
      have ea := Nat.eq_of_beq_eq_true h3.1
      obtain ⟨r, hr, hr0⟩ := List.any_eq_true.mp h3.2
      have := hn r hr
      have e0 := Nat.eq_of_beq_eq_true hr0
      subst ea
      exact (y0_548 (by omega)).symm
    · exact (y0_z (of_decide_eq_true e)).symm
  · cases h
theorem xycell_ok {G : XG} {D : va_G} {U : State} {a : Nat} {c : YC} {x : XC} {H : Heap} (h : xycell a c x = true) (hx : XCok G D U a x H) : YCok G D U y0 a c H := by
  obtain ⟨c1, c2, c3⟩ := c
  unfold xycell at h
  split at h
  · rename_i ci fs
    rw [Bool.and_eq_true, Bool.and_eq_true] at h
    obtain ⟨h1, h2, h3⟩ := h
    have e1 := Nat.eq_of_beq_eq_true h1
    have e2 := Nat.blt_eq.mp h2
    dsimp only at e1 e2 h3
    subst e1
    obtain ⟨g1, g2⟩ := xyflds_ok 0 fs c3 h3
    obtain ⟨vs, v1, v2, v3⟩ := hx
    refine ⟨fun _ => ⟨vs, v1.trans g1, fun j t ht => ?_, v3⟩, fun z => by dsimp only at z; omega⟩
    have hj : j < fs.length := by rw [g1]; exact (List.getElem?_eq_some_iff.mp ht).1
    obtain ⟨w, w1, w2⟩ := v2 j fs[j] (List.getElem?_eq_getElem hj)
    refine ⟨w, w1, ?_⟩
    have := g2 j fs[j] t (List.getElem?_eq_getElem hj) ht
    rw [Nat.zero_add] at this
    exact xyfld_ok this w2
  · rename_i ty len d ov
    rw [Bool.and_eq_true, Bool.and_eq_true] at h
    obtain ⟨h1, h2, h3⟩ := h
    have e1 := Nat.eq_of_beq_eq_true h1
    have e2 := Nat.eq_of_beq_eq_true h2
    dsimp only at e1 e2 h3
    subst e1 e2
    obtain ⟨cA, f, v1, v2, v3, v4⟩ := hx
    refine ⟨fun z => by dsimp only at z; omega, fun _ => ⟨cA, f, v1, ?_, ?_, fun j hj => xyarr_ok h3 hj (v4 j hj)⟩⟩
    · dsimp only; rw [show 10 + ty - 10 = ty by omega]; exact v2
    · dsimp only; rw [show 10 + ty - 10 = ty by omega]; exact v3
theorem xyheap_ok {G : XG} {D : va_G} {U : State} {Hx : XH} {H : Heap} (h : xyheap Hx = true) (hx : XWok G D U Hx 566 H) : YWok G D U y0 H := by
  refine ⟨hx.1, fun a c hc => ?_⟩
  have ha : a < 576 := by
    rcases Nat.lt_or_ge a 576 with z | z
    · exact z
    · exfalso
      unfold ycell at hc
      have : yct[a / 24]? = none := List.getElem?_eq_none (by show 24 ≤ a / 24; omega)
      rw [this] at hc
      cases hc
  have h1 := List.all_eq_true.mp h a (List.mem_range.mpr ha)
  rw [hc] at h1
  dsimp only at h1
  split at h1
  · cases h1
  · rename_i x hg
    exact xycell_ok h1 (hx.2 a x hg)
