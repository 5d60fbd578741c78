/-! What a street is (E: what stays in a step, D: what a step changes), and a step of one man. -/
abbrev mholds (D : YS) (i q : Int) : Prop := (q = 9 ∧ 0 < D 0 (D 1 i)) ∨ (q = 10 ∧ D 0 (D 1 i) = 0) ∨ (q = 11 ∧ 0 < D 2 i) ∨ (q = 12 ∧ D 2 i = 0) ∨ q < 9 ∨ 12 < q
def mgoal (kind cell sign num n : Int) : Int := if (kind = 2 ∨ kind = 5) ∧ num % 2 = 1 then cell else if sign = 0 ∧ 0 < cell then cell - 1 else if sign = 1 ∧ cell < n - 1 then cell + 1 else cell
def mtimes (kind : Int) : Int := if kind = 1 then 2 else if kind = 4 then 20 else 1
def mfetch1 (D : YS) (i : Int) : YS := if 0 < D 0 (D 1 i) ∧ D 2 i < 20 then yset (yset D 0 (D 1 i) (D 0 (D 1 i) - 1)) 2 i (D 2 i + 1) else D
def mfetch (D : YS) (i : Int) : Nat → YS
  | 0 => D
  | n + 1 => mfetch (mfetch1 D i) i n
def mput (D : YS) (i : Int) : YS := if 0 < D 2 i ∧ D 0 (D 1 i) < 20 then yset (yset D 2 i (D 2 i - 1)) 0 (D 1 i) (D 0 (D 1 i) + 1) else D
abbrev malone (E D : YS) (i : Int) : Prop := (0 < E 1 0 → 0 ≠ i → D 1 0 ≠ D 1 i) ∧ (1 < E 1 0 → 1 ≠ i → D 1 1 ≠ D 1 i) ∧ (2 < E 1 0 → 2 ≠ i → D 1 2 ≠ D 1 i)
def mwork (E D : YS) (i sg : Int) : YS :=
  if sg = 2 ∧ ¬ (E 2 i = 5 ∧ D 5 0 % 7 = 6) then mfetch D i (mtimes (E 2 i)).toNat
  else if sg = 3 ∧ ¬ (E 2 i = 5 ∧ D 5 0 % 7 = 6) then mput D i
  else if sg = 5 then yset D 4 i 1
  else yset D 1 i (mgoal (E 2 i) (D 1 i) sg (D 5 0) (E 0 0))
def mact (E D : YS) (i : Int) : YS :=
  if E 3 i ≤ D 3 i then yset D 4 i 1
  else if E (10 + i) (D 3 i) = 7 then yset D 3 i (if mholds D i (E (10 + i) (D 3 i + 1)) then D 3 i + 2 else E (20 + i) (D 3 i) + 1)
  else if E (10 + i) (D 3 i) = 8 then yset D 3 i (E (20 + i) (D 3 i))
  else if E (10 + i) (D 3 i) = 6 ∧ E 2 i ≠ 3 ∧ malone E D i then yset D 6 0 (yor (D 6 0) (yshl 1 i))
  else yset (mwork E D i (E (10 + i) (D 3 i))) 3 i (D 3 i + 1)
def macts (E D : YS) : Nat → YS
  | 0 => D
  | n + 1 => if macts E D n 4 n = 0 then mact E (macts E D n) n else macts E D n
def mstep (E D : YS) : YS := yset (macts E (yset D 6 0 0) (E 1 0).toNat) 5 0 (macts E (yset D 6 0 0) (E 1 0).toNat 5 0 + 1)
def msteps (E D : YS) : Nat → YS
  | 0 => D
  | n + 1 => mstep E (msteps E D n)
/-- how many of the first n go on -/
def mgo (D : YS) : Nat → Int
  | 0 => 0
  | n + 1 => mgo D n + if D 4 n = 0 then 1 else 0
def eG (E : YS) : Prop := (2 ≤ E 0 0 ∧ E 0 0 ≤ 9) ∧ (0 ≤ E 1 0 ∧ E 1 0 ≤ 3) ∧ ∀ i, 0 ≤ i → i < E 1 0 → (0 ≤ E 2 i ∧ E 2 i ≤ 5) ∧ (0 ≤ E 3 i ∧ E 3 i ≤ 24) ∧ ∀ k, 0 ≤ k → k < E 3 i → 0 ≤ E (10 + i) k ∧ E (10 + i) k ≤ 13
def eS (E : YS) (i : Int) : Prop := ∀ k, 0 ≤ k → k < E 3 i → (E (10 + i) k = 7 → k + 1 < E 3 i ∧ 0 ≤ E (20 + i) k ∧ E (20 + i) k < E 3 i) ∧ (E (10 + i) k = 8 → 0 ≤ E (20 + i) k ∧ E (20 + i) k < E 3 i)
def dGm (E D : YS) (i : Int) : Prop := (0 ≤ D 1 i ∧ D 1 i < E 0 0) ∧ (0 ≤ D 2 i ∧ D 2 i ≤ 20) ∧ (0 ≤ D 3 i ∧ D 3 i ≤ 25) ∧ (D 4 i = 0 ∧ eS E i ∨ D 4 i = 1)
def dG (E D : YS) : Prop := (∀ c, 0 ≤ c → c < 9 → 0 ≤ D 0 c ∧ D 0 c ≤ 20) ∧ ∀ i, 0 ≤ i → i < E 1 0 → dGm E D i
def repm (σ : YS) (a : Int) (E D : YS) (i : Int) : Prop := (σ a 2 = E 3 i ∧ σ a 4 = E 2 i) ∧ (σ a 5 = D 1 i ∧ σ a 6 = D 2 i ∧ σ a 7 = D 3 i) ∧ (D 4 i = 0 ↔ ¬ mst σ a) ∧ (σ a 8 = 0 ∨ σ a 8 = 1) ∧ (∀ k, 0 ≤ k → k < E 3 i → σ (a + 1) k = E (10 + i) k) ∧ (D 4 i = 0 → ∀ k, 0 ≤ k → k < E 3 i → E (10 + i) k = 7 ∨ E (10 + i) k = 8 → σ (a + 2) k = E (20 + i) k)
def rep (σ : YS) (s : Int) (E D : YS) : Prop := (σ s 4 = E 0 0 ∧ σ s 5 = E 1 0 ∧ σ s 6 = D 5 0 ∧ σ s 7 = D 6 0) ∧ (∀ c, 0 ≤ c → c < 9 → σ (s + 1) c = D 0 c) ∧ ∀ i, 0 ≤ i → i < E 1 0 → repm σ (s + 3 + 3 * i) E D i
/-- nothing outside the street's own cells (but seen and mark) has changed -/
def yfr (σ σ' : YS) (s : Int) : Prop := ∀ k j, k < s ∨ s + 11 < k → σ' k j = σ k j
theorem yfr_refl (σ : YS) (s : Int) : yfr σ σ s := fun _ _ _ => rfl
theorem yfr_trans {σ σ' σ'' : YS} {s : Int} (h1 : yfr σ σ' s) (h2 : yfr σ' σ'' s) : yfr σ σ'' s := fun k j h => (h2 k j h).trans (h1 k j h)
theorem yfr_set {σ σ' : YS} {s k j v : Int} (h : yfr σ σ' s) (hk : s ≤ k ∧ k ≤ s + 11) : yfr σ (yset σ' k j v) s := fun a b ha => by
  unfold yset
  rw [if_neg (by omega)]
  exact h a b ha
theorem repm_ne {σ : YS} {a k j v : Int} {E D : YS} {i : Int} (hk : k < a ∨ a + 2 < k) (h : repm σ a E D i) : repm (yset σ k j v) a E D i := by
  have e : ∀ x y, a ≤ x → x ≤ a + 2 → yset σ k j v x y = σ x y := fun x y h1 h2 => yne (by omega) rfl
  obtain ⟨⟨h1, h2⟩, ⟨h3, h4, h5⟩, h6, h7, h8, h9⟩ := h
  refine ⟨⟨by rw [e _ _ (by omega) (by omega)]; exact h1, by rw [e _ _ (by omega) (by omega)]; exact h2⟩, ⟨by rw [e _ _ (by omega) (by omega)]; exact h3, by rw [e _ _ (by omega) (by omega)]; exact h4, by rw [e _ _ (by omega) (by omega)]; exact h5⟩, ?_, by rw [e _ _ (by omega) (by omega)]; exact h7, fun k hk1 hk2 => by rw [e _ _ (by omega) (by omega)]; exact h8 k hk1 hk2, fun hd k hk1 hk2 hk3 => by rw [e _ _ (by omega) (by omega)]; exact h9 hd k hk1 hk2 hk3⟩
  unfold mst
  rw [e _ _ (by omega) (by omega), e _ _ (by omega) (by omega), e _ _ (by omega) (by omega)]
  exact h6
/-- the man's picture after D changed elsewhere -/
theorem repm_D {σ : YS} {a : Int} {E D : YS} {i r c v : Int} (h : repm σ a E D i) (hne : ¬ (1 ≤ r ∧ r ≤ 4 ∧ c = i)) : repm σ a E (yset D r c v) i := by
  have e : ∀ x, 1 ≤ x → x ≤ 4 → yset D r c v x i = D x i := fun x h1 h2 => yne (by omega) rfl
  unfold repm at h ⊢
  rw [e 1 (by omega) (by omega), e 2 (by omega) (by omega), e 3 (by omega) (by omega), e 4 (by omega) (by omega)]
  exact h
theorem rep_w {σ : YS} {s : Int} {E D : YS} {c v : Int} (h : rep σ s E D) (hc : 0 ≤ c ∧ c < 9) : rep (yset σ (s + 1) c v) s E (yset D 0 c v) := by
  obtain ⟨⟨h1, h2, h3, h4⟩, h5, h6⟩ := h
  refine ⟨⟨by rw [yne (by omega) rfl]; exact h1, by rw [yne (by omega) rfl]; exact h2, by rw [yne (by omega) rfl, yne (by omega) rfl]; exact h3, by rw [yne (by omega) rfl, yne (by omega) rfl]; exact h4⟩, fun d hd1 hd2 => ?_, fun i hi1 hi2 => repm_D (repm_ne (by omega) (h6 i hi1 hi2)) (by omega)⟩
  by_cases e : d = c
  · subst e; rw [yeq, yeq]
  · rw [yne (by omega) rfl, yne (by omega) rfl]; exact h5 d hd1 hd2
theorem rep_num {σ : YS} {s : Int} {E D : YS} {v : Int} (h : rep σ s E D) : rep (yset σ s 6 v) s E (yset D 5 0 v) := by
  obtain ⟨⟨h1, h2, h3, h4⟩, h5, h6⟩ := h
  exact ⟨⟨by rw [yne (by omega) rfl]; exact h1, by rw [yne (by omega) rfl]; exact h2, by rw [yeq, yeq], by rw [yne (by omega) rfl, yne (by omega) rfl]; exact h4⟩, fun d hd1 hd2 => by rw [yne (by omega) rfl, yne (by omega) rfl]; exact h5 d hd1 hd2, fun i hi1 hi2 => repm_D (repm_ne (by omega) (h6 i hi1 hi2)) (by omega)⟩
theorem rep_wait {σ : YS} {s : Int} {E D : YS} {v : Int} (h : rep σ s E D) : rep (yset σ s 7 v) s E (yset D 6 0 v) := by
  obtain ⟨⟨h1, h2, h3, h4⟩, h5, h6⟩ := h
  exact ⟨⟨by rw [yne (by omega) rfl]; exact h1, by rw [yne (by omega) rfl]; exact h2, by rw [yne (by omega) rfl, yne (by omega) rfl]; exact h3, by rw [yeq, yeq]⟩, fun d hd1 hd2 => by rw [yne (by omega) rfl, yne (by omega) rfl]; exact h5 d hd1 hd2, fun i hi1 hi2 => repm_D (repm_ne (by omega) (h6 i hi1 hi2)) (by omega)⟩
/-- one of a man's four numbers: place j of the cell is row r of D -/
theorem rep_man {σ : YS} {s : Int} {E D : YS} {i j r v : Int} (h : rep σ s E D) (hi : 0 ≤ i ∧ i < E 1 0) (hj : (j = 5 ∧ r = 1) ∨ (j = 6 ∧ r = 2) ∨ (j = 7 ∧ r = 3) ∨ (j = 8 ∧ r = 4 ∧ v = 1)) : rep (yset σ (s + 3 + 3 * i) j v) s E (yset D r i v) := by
  obtain ⟨⟨h1, h2, h3, h4⟩, h5, h6⟩ := h
  refine ⟨⟨by rw [yne (by omega) rfl]; exact h1, by rw [yne (by omega) rfl]; exact h2, by rw [yne (by omega) rfl, yne (by omega) rfl]; exact h3, by rw [yne (by omega) rfl, yne (by omega) rfl]; exact h4⟩, fun d hd1 hd2 => by rw [yne (by omega) rfl, yne (by omega) rfl]; exact h5 d hd1 hd2, fun q hq1 hq2 => ?_⟩
  by_cases e : q = i
  swap
  · exact repm_D (repm_ne (by omega) (h6 q hq1 hq2)) (by omega)
  subst e
  obtain ⟨⟨g1, g2⟩, ⟨g3, g4, g5⟩, g6, g7, g8, g9⟩ := h6 q hq1 hq2
  have f1 : ∀ k, 0 ≤ k → k < E 3 q → yset σ (s + 3 + 3 * q) j v (s + 3 + 3 * q + 1) k = E (10 + q) k := fun k hk1 hk2 => by rw [yne (by omega) rfl]; exact g8 k hk1 hk2
  have f2 : ∀ k, yset σ (s + 3 + 3 * q) j v (s + 3 + 3 * q + 2) k = σ (s + 3 + 3 * q + 2) k := fun k => by rw [yne (by omega) rfl]
  rcases hj with ⟨rfl, rfl⟩ | ⟨rfl, rfl⟩ | ⟨rfl, rfl⟩ | ⟨rfl, rfl, rfl⟩
  · refine ⟨⟨by rw [yne (by omega) rfl]; exact g1, by rw [yne (by omega) rfl]; exact g2⟩, ⟨by rw [yeq, yeq], by rw [yne (by omega) rfl, yne (by omega) rfl]; exact g4, by rw [yne (by omega) rfl, yne (by omega) rfl]; exact g5⟩, ?_, by rw [yne (by omega) rfl]; exact g7, f1, fun hd k => by rw [f2]; exact g9 (by rw [yne (by omega) rfl] at hd; exact hd) k⟩
    unfold mst
    rw [yne (by omega) rfl, yne (by omega) rfl, yne (by omega) rfl, yne (by omega) rfl]
    exact g6
  · refine ⟨⟨by rw [yne (by omega) rfl]; exact g1, by rw [yne (by omega) rfl]; exact g2⟩, ⟨by rw [yne (by omega) rfl, yne (by omega) rfl]; exact g3, by rw [yeq, yeq], by rw [yne (by omega) rfl, yne (by omega) rfl]; exact g5⟩, ?_, by rw [yne (by omega) rfl]; exact g7, f1, fun hd k => by rw [f2]; exact g9 (by rw [yne (by omega) rfl] at hd; exact hd) k⟩
    unfold mst
    rw [yne (by omega) rfl, yne (by omega) rfl, yne (by omega) rfl, yne (by omega) rfl]
    exact g6
  · refine ⟨⟨by rw [yne (by omega) rfl]; exact g1, by rw [yne (by omega) rfl]; exact g2⟩, ⟨by rw [yne (by omega) rfl, yne (by omega) rfl]; exact g3, by rw [yne (by omega) rfl, yne (by omega) rfl]; exact g4, by rw [yeq, yeq]⟩, ?_, by rw [yne (by omega) rfl]; exact g7, f1, fun hd k => by rw [f2]; exact g9 (by rw [yne (by omega) rfl] at hd; exact hd) k⟩
    unfold mst
    rw [yne (by omega) rfl, yne (by omega) rfl, yne (by omega) rfl, yne (by omega) rfl]
    exact g6
  · refine ⟨⟨by rw [yne (by omega) rfl]; exact g1, by rw [yne (by omega) rfl]; exact g2⟩, ⟨by rw [yne (by omega) rfl, yne (by omega) rfl]; exact g3, by rw [yne (by omega) rfl, yne (by omega) rfl]; exact g4, by rw [yne (by omega) rfl, yne (by omega) rfl]; exact g5⟩, ?_, by rw [yeq]; omega, f1, fun hd k => by rw [yeq] at hd; omega⟩
    unfold mst
    rw [yeq, yeq]
    omega
/-- good stays good -/
theorem dG_w {E D : YS} {c v : Int} (h : dG E D) (hv : 0 ≤ v ∧ v ≤ 20) : dG E (yset D 0 c v) := by
  refine ⟨fun d h1 h2 => ?_, fun i h1 h2 => ?_⟩
  · by_cases e : d = c
    · subst e; rw [yeq]; exact hv
    · rw [yne (by omega) rfl]; exact h.1 d h1 h2
  · have := h.2 i h1 h2
    unfold dGm at this ⊢
    rw [yne (by omega) rfl, yne (by omega) rfl, yne (by omega) rfl, yne (by omega) rfl]
    exact this
theorem dG_m {E D : YS} {r i v : Int} (h : dG E D) (hi : 0 ≤ i ∧ i < E 1 0) (hv : (r = 1 ∧ 0 ≤ v ∧ v < E 0 0) ∨ (r = 2 ∧ 0 ≤ v ∧ v ≤ 20) ∨ (r = 3 ∧ 0 ≤ v ∧ v ≤ 25) ∨ (r = 4 ∧ v = 1) ∨ 4 < r) : dG E (yset D r i v) := by
  refine ⟨fun d h1 h2 => by rw [yne (by omega) rfl]; exact h.1 d h1 h2, fun q h1 h2 => ?_⟩
  obtain ⟨g1, g2, g3, g4⟩ := h.2 q h1 h2
  by_cases e : q = i
  swap
  · unfold dGm
    rw [yne (by omega) rfl, yne (by omega) rfl, yne (by omega) rfl, yne (by omega) rfl]
    exact ⟨g1, g2, g3, g4⟩
  subst e
  unfold dGm
  rcases hv with ⟨rfl, hv⟩ | ⟨rfl, hv⟩ | ⟨rfl, hv⟩ | ⟨rfl, hv⟩ | hv
  · rw [yeq, yne (by omega) rfl, yne (by omega) rfl, yne (by omega) rfl]; exact ⟨hv, g2, g3, g4⟩
  · rw [yeq, yne (by omega) rfl, yne (by omega) rfl, yne (by omega) rfl]; exact ⟨g1, hv, g3, g4⟩
  · rw [yeq, yne (by omega) rfl, yne (by omega) rfl, yne (by omega) rfl]; exact ⟨g1, g2, hv, g4⟩
  · rw [yeq, yne (by omega) rfl, yne (by omega) rfl, yne (by omega) rfl]; exact ⟨g1, g2, g3, Or.inr hv⟩
  · rw [yne (by omega) rfl, yne (by omega) rfl, yne (by omega) rfl, yne (by omega) rfl]; exact ⟨g1, g2, g3, g4⟩
theorem dG_x {E D : YS} {r i v : Int} (h : dG E D) (hr : 4 < r) : dG E (yset D r i v) := by
  refine ⟨fun d h1 h2 => by rw [yne (by omega) rfl]; exact h.1 d h1 h2, fun q h1 h2 => ?_⟩
  have := h.2 q h1 h2
  unfold dGm at this ⊢
  rw [yne (by omega) rfl, yne (by omega) rfl, yne (by omega) rfl, yne (by omega) rfl]
  exact this
