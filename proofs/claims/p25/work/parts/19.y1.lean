def ydepl : List Nat := [4, 3, 2, 2, 2, 2, 2, 1, 1, 3, 2, 1, 1, 3, 2, 1, 2, 4, 3, 2, 3, 2, 4, 3, 3, 2, 1, 4, 3, 2, 3, 2, 3, 2, 2, 1, 3, 1, 2, 3, 1, 1, 15, 14, 11, 12, 5, 1, 5, 3, 2, 4, 2, 5, 1, 3, 2, 1, 4, 2, 4, 2, 2, 3, 2, 3, 6, 3, 5, 6, 5, 5, 2, 1, 1, 5, 1, 1, 7, 7, 3, 7, 7, 6, 6, 6, 6, 2, 3, 3, 5, 7, 6, 5, 4, 2, 3, 1, 4, 3, 2, 2, 2, 1, 3, 1, 3, 3, 1, 6, 5, 5, 6, 6, 2, 1, 2, 1, 1, 1, 1, 1, 1, 2, 2, 3, 4, 1, 2, 2, 2, 3, 1, 1, 6, 1, 1, 2, 1, 2, 2, 2, 2, 3, 2, 1, 1, 3, 1, 1, 2, 1, 1, 13, 10, 9, 1, 1, 1, 10, 9, 2, 9]
/-! The world with its contents exactly: σ k j is what cell k holds at place j. -/
abbrev YV : Type := Nat × Int
abbrev YS : Type := Int → Int → Int
abbrev YL : Type := List (Option YV)
abbrev YC : Type := Nat × Nat × List Int
def yct : List (List YC) := [
  [(4, 0, [1, 15, 37, 51, 65, 94, 139, 140, 143, 545, 546, -1, -1, -1]), (2, 0, [2, 3, 13, 14, -1, -1, -1, -1]), (10, 9, []), (20, 3, [4, 3]), (0, 0, [5, 6, -1, -1, -1, -1, -1, -1, -2]), (10, 24, []), (10, 24, []), (0, 0, [8, 9, -1, -1, -1, -1, -1, -1, -2]), (10, 24, []), (10, 24, []), (0, 0, [11, 12, -1, -1, -1, -1, -1, -1, -2]), (10, 24, []), (10, 24, []), (10, 4, []), (10, 22, []), (1, 0, [16, -1]), (12, 20, [17, 1]), (10, 22, []), (10, 22, []), (10, 22, []), (10, 22, []), (10, 22, []), (10, 22, []), (10, 22, [])],
  [(10, 22, []), (10, 22, []), (10, 22, []), (10, 22, []), (10, 22, []), (10, 22, []), (10, 22, []), (10, 22, []), (10, 22, []), (10, 22, []), (10, 22, []), (10, 22, []), (10, 22, []), (2, 0, [38, 39, 49, 50, -1, -1, -1, -1]), (10, 9, []), (20, 3, [40, 3]), (0, 0, [41, 42, -1, -1, -1, -1, -1, -1, -2]), (10, 24, []), (10, 24, []), (0, 0, [44, 45, -1, -1, -1, -1, -1, -1, -2]), (10, 24, []), (10, 24, []), (0, 0, [47, 48, -1, -1, -1, -1, -1, -1, -2]), (10, 24, [])],
  [(10, 24, []), (10, 4, []), (10, 22, []), (2, 0, [52, 53, 63, 64, -1, -1, -1, -1]), (10, 9, []), (20, 3, [54, 3]), (0, 0, [55, 56, -1, -1, -1, -1, -1, -1, -2]), (10, 24, []), (10, 24, []), (0, 0, [58, 59, -1, -1, -1, -1, -1, -1, -2]), (10, 24, []), (10, 24, []), (0, 0, [61, 62, -1, -1, -1, -1, -1, -1, -2]), (10, 24, []), (10, 24, []), (10, 4, []), (10, 22, []), (22, 2, [66, 14]), (2, 0, [67, 68, 78, 79, -1, -1, -1, -1]), (10, 9, []), (20, 3, [69, 3]), (0, 0, [70, 71, -1, -1, -1, -1, -1, -1, -2]), (10, 24, []), (10, 24, [])],
  [(0, 0, [73, 74, -1, -1, -1, -1, -1, -1, -2]), (10, 24, []), (10, 24, []), (0, 0, [76, 77, -1, -1, -1, -1, -1, -1, -2]), (10, 24, []), (10, 24, []), (10, 4, []), (10, 22, []), (2, 0, [81, 82, 92, 93, -1, -1, -1, -1]), (10, 9, []), (20, 3, [83, 3]), (0, 0, [84, 85, -1, -1, -1, -1, -1, -1, -2]), (10, 24, []), (10, 24, []), (0, 0, [87, 88, -1, -1, -1, -1, -1, -1, -2]), (10, 24, []), (10, 24, []), (0, 0, [90, 91, -1, -1, -1, -1, -1, -1, -2]), (10, 24, []), (10, 24, []), (10, 4, []), (10, 22, []), (21, 2, [95, 22]), (1, 0, [96, -1])],
  [(12, 20, [97, 1]), (10, 22, []), (10, 22, []), (10, 22, []), (10, 22, []), (10, 22, []), (10, 22, []), (10, 22, []), (10, 22, []), (10, 22, []), (10, 22, []), (10, 22, []), (10, 22, []), (10, 22, []), (10, 22, []), (10, 22, []), (10, 22, []), (10, 22, []), (10, 22, []), (10, 22, []), (10, 22, []), (1, 0, [118, -1]), (12, 20, [119, 1]), (10, 22, [])],
  [(10, 22, []), (10, 22, []), (10, 22, []), (10, 22, []), (10, 22, []), (10, 22, []), (10, 22, []), (10, 22, []), (10, 22, []), (10, 22, []), (10, 22, []), (10, 22, []), (10, 22, []), (10, 22, []), (10, 22, []), (10, 22, []), (10, 22, []), (10, 22, []), (10, 22, []), (11, 2, []), (3, 0, [141, 142, -1, -1, -1, -1, -1, -1, -1, -1]), (10, 200, []), (10, 2, []), (12, 401, [144, 1])],
  [(10, 22, []), (10, 22, []), (10, 22, []), (10, 22, []), (10, 22, []), (10, 22, []), (10, 22, []), (10, 22, []), (10, 22, []), (10, 22, []), (10, 22, []), (10, 22, []), (10, 22, []), (10, 22, []), (10, 22, []), (10, 22, []), (10, 22, []), (10, 22, []), (10, 22, []), (10, 22, []), (10, 22, []), (10, 22, []), (10, 22, []), (10, 22, [])],
  [(10, 22, []), (10, 22, []), (10, 22, []), (10, 22, []), (10, 22, []), (10, 22, []), (10, 22, []), (10, 22, []), (10, 22, []), (10, 22, []), (10, 22, []), (10, 22, []), (10, 22, []), (10, 22, []), (10, 22, []), (10, 22, []), (10, 22, []), (10, 22, []), (10, 22, []), (10, 22, []), (10, 22, []), (10, 22, []), (10, 22, []), (10, 22, [])],
  [(10, 22, []), (10, 22, []), (10, 22, []), (10, 22, []), (10, 22, []), (10, 22, []), (10, 22, []), (10, 22, []), (10, 22, []), (10, 22, []), (10, 22, []), (10, 22, []), (10, 22, []), (10, 22, []), (10, 22, []), (10, 22, []), (10, 22, []), (10, 22, []), (10, 22, []), (10, 22, []), (10, 22, []), (10, 22, []), (10, 22, []), (10, 22, [])],
  [(10, 22, []), (10, 22, []), (10, 22, []), (10, 22, []), (10, 22, []), (10, 22, []), (10, 22, []), (10, 22, []), (10, 22, []), (10, 22, []), (10, 22, []), (10, 22, []), (10, 22, []), (10, 22, []), (10, 22, []), (10, 22, []), (10, 22, []), (10, 22, []), (10, 22, []), (10, 22, []), (10, 22, []), (10, 22, []), (10, 22, []), (10, 22, [])],
  [(10, 22, []), (10, 22, []), (10, 22, []), (10, 22, []), (10, 22, []), (10, 22, []), (10, 22, []), (10, 22, []), (10, 22, []), (10, 22, []), (10, 22, []), (10, 22, []), (10, 22, []), (10, 22, []), (10, 22, []), (10, 22, []), (10, 22, []), (10, 22, []), (10, 22, []), (10, 22, []), (10, 22, []), (10, 22, []), (10, 22, []), (10, 22, [])],
  [(10, 22, []), (10, 22, []), (10, 22, []), (10, 22, []), (10, 22, []), (10, 22, []), (10, 22, []), (10, 22, []), (10, 22, []), (10, 22, []), (10, 22, []), (10, 22, []), (10, 22, []), (10, 22, []), (10, 22, []), (10, 22, []), (10, 22, []), (10, 22, []), (10, 22, []), (10, 22, []), (10, 22, []), (10, 22, []), (10, 22, []), (10, 22, [])],
  [(10, 22, []), (10, 22, []), (10, 22, []), (10, 22, []), (10, 22, []), (10, 22, []), (10, 22, []), (10, 22, []), (10, 22, []), (10, 22, []), (10, 22, []), (10, 22, []), (10, 22, []), (10, 22, []), (10, 22, []), (10, 22, []), (10, 22, []), (10, 22, []), (10, 22, []), (10, 22, []), (10, 22, []), (10, 22, []), (10, 22, []), (10, 22, [])],
  [(10, 22, []), (10, 22, []), (10, 22, []), (10, 22, []), (10, 22, []), (10, 22, []), (10, 22, []), (10, 22, []), (10, 22, []), (10, 22, []), (10, 22, []), (10, 22, []), (10, 22, []), (10, 22, []), (10, 22, []), (10, 22, []), (10, 22, []), (10, 22, []), (10, 22, []), (10, 22, []), (10, 22, []), (10, 22, []), (10, 22, []), (10, 22, [])],
  [(10, 22, []), (10, 22, []), (10, 22, []), (10, 22, []), (10, 22, []), (10, 22, []), (10, 22, []), (10, 22, []), (10, 22, []), (10, 22, []), (10, 22, []), (10, 22, []), (10, 22, []), (10, 22, []), (10, 22, []), (10, 22, []), (10, 22, []), (10, 22, []), (10, 22, []), (10, 22, []), (10, 22, []), (10, 22, []), (10, 22, []), (10, 22, [])],
  [(10, 22, []), (10, 22, []), (10, 22, []), (10, 22, []), (10, 22, []), (10, 22, []), (10, 22, []), (10, 22, []), (10, 22, []), (10, 22, []), (10, 22, []), (10, 22, []), (10, 22, []), (10, 22, []), (10, 22, []), (10, 22, []), (10, 22, []), (10, 22, []), (10, 22, []), (10, 22, []), (10, 22, []), (10, 22, []), (10, 22, []), (10, 22, [])],
  [(10, 22, []), (10, 22, []), (10, 22, []), (10, 22, []), (10, 22, []), (10, 22, []), (10, 22, []), (10, 22, []), (10, 22, []), (10, 22, []), (10, 22, []), (10, 22, []), (10, 22, []), (10, 22, []), (10, 22, []), (10, 22, []), (10, 22, []), (10, 22, []), (10, 22, []), (10, 22, []), (10, 22, []), (10, 22, []), (10, 22, []), (10, 22, [])],
  [(10, 22, []), (10, 22, []), (10, 22, []), (10, 22, []), (10, 22, []), (10, 22, []), (10, 22, []), (10, 22, []), (10, 22, []), (10, 22, []), (10, 22, []), (10, 22, []), (10, 22, []), (10, 22, []), (10, 22, []), (10, 22, []), (10, 22, []), (10, 22, []), (10, 22, []), (10, 22, []), (10, 22, []), (10, 22, []), (10, 22, []), (10, 22, [])],
  [(10, 22, []), (10, 22, []), (10, 22, []), (10, 22, []), (10, 22, []), (10, 22, []), (10, 22, []), (10, 22, []), (10, 22, []), (10, 22, []), (10, 22, []), (10, 22, []), (10, 22, []), (10, 22, []), (10, 22, []), (10, 22, []), (10, 22, []), (10, 22, []), (10, 22, []), (10, 22, []), (10, 22, []), (10, 22, []), (10, 22, []), (10, 22, [])],
  [(10, 22, []), (10, 22, []), (10, 22, []), (10, 22, []), (10, 22, []), (10, 22, []), (10, 22, []), (10, 22, []), (10, 22, []), (10, 22, []), (10, 22, []), (10, 22, []), (10, 22, []), (10, 22, []), (10, 22, []), (10, 22, []), (10, 22, []), (10, 22, []), (10, 22, []), (10, 22, []), (10, 22, []), (10, 22, []), (10, 22, []), (10, 22, [])],
  [(10, 22, []), (10, 22, []), (10, 22, []), (10, 22, []), (10, 22, []), (10, 22, []), (10, 22, []), (10, 22, []), (10, 22, []), (10, 22, []), (10, 22, []), (10, 22, []), (10, 22, []), (10, 22, []), (10, 22, []), (10, 22, []), (10, 22, []), (10, 22, []), (10, 22, []), (10, 22, []), (10, 22, []), (10, 22, []), (10, 22, []), (10, 22, [])],
  [(10, 22, []), (10, 22, []), (10, 22, []), (10, 22, []), (10, 22, []), (10, 22, []), (10, 22, []), (10, 22, []), (10, 22, []), (10, 22, []), (10, 22, []), (10, 22, []), (10, 22, []), (10, 22, []), (10, 22, []), (10, 22, []), (10, 22, []), (10, 22, []), (10, 22, []), (10, 22, []), (10, 22, []), (10, 22, []), (10, 22, []), (10, 22, [])],
  [(10, 22, []), (10, 22, []), (10, 22, []), (10, 22, []), (10, 22, []), (10, 22, []), (10, 22, []), (10, 22, []), (10, 22, []), (10, 22, []), (10, 22, []), (10, 22, []), (10, 22, []), (10, 22, []), (10, 22, []), (10, 22, []), (10, 22, []), (10, 400, []), (10, 22, []), (5, 0, [548, 549, 550, -1, 551, 552, 553, -1, -1, -1, 554, 555, 556, 557, 558, 559, 560, 561, -1, -1, 562, 563, 564, 565, -3]), (10, 2108, []), (11, 2, []), (10, 200, []), (10, 3, [])],
  [(10, 40, []), (10, 120, []), (10, 9, []), (10, 3, []), (10, 3, []), (10, 3, []), (10, 3, []), (10, 3, []), (10, 75, []), (10, 75, []), (10, 25, []), (10, 8421, []), (10, 401, []), (10, 15, [])]]
def ycell (a : Nat) : Option YC := (yct[a / 24]?).bind (fun c => c[a % 24]?)
def y2x (v : YV) : XV := match v with
  | (0, n) => .inl (n, n, 0, 0)
  | (1, n) => .inr (.inl (n, n))
  | (2, a) => .inr (.inr (.inl (some a.toNat)))
  | (_, a) => .inr (.inr (.inr a.toNat))
def yxl (L : YL) : XLc := L.map (Option.map y2x)
def yxs (S : List YV) : List XV := S.map y2x
def yset (σ : YS) (k j v : Int) : YS := fun a b => if a = k ∧ b = j then v else σ a b
def ycopy (σ : YS) (a sp b dp n : Int) : YS := fun k j => if k = b ∧ dp ≤ j ∧ j < dp + n then σ a (j - dp + sp) else σ k j
def YFok (G : XG) (t n : Int) (w : Value) : Prop := if t = -3 then (∃ i : Int64, w = .long i ∧ i.toInt = n) else if t < 0 then (∃ i : Int32, w = .int i ∧ i.toInt = n) else w = .ref (G.1 + t.toNat)
def YEok (G : XG) (q : List Int) (j : Nat) (n : Int) (w : Value) : Prop := match q with
  | [a, d] => w = .ref (G.1 + (a + d * j).toNat)
  | _ => ∃ i : Int32, w = .int i ∧ i.toInt = n
def YCok (G : XG) (D : va_G) (U : State) (σ : YS) (a : Nat) (c : YC) (H : Heap) : Prop :=
  (c.1 < 10 → ∃ vs : List Value, vs.length = c.2.2.length ∧ (∀ (j : Nat) (t : Int), c.2.2[j]? = some t → ∃ w, vs[j]? = some w ∧ YFok G t (σ a j) w) ∧ va_at D xqcls (G.1 + a, .inr (c.1, vs)) H) ∧
  (10 ≤ c.1 → ∃ (cA : ClassId) (f : Nat → Value), H[G.1 + a]? = some (arrV cA c.2.1 f) ∧ ArrOfT U cA (xqty (c.1 - 10)) ∧ va_RA U cA (xqty (c.1 - 10)) ∧ ∀ j : Nat, j < c.2.1 → YEok G c.2.2 j (σ a j) (f j))
def YWok (G : XG) (D : va_G) (U : State) (σ : YS) (H : Heap) : Prop := H.size = G.1 + 566 ∧ ∀ (a : Nat) (c : YC), ycell a = some c → YCok G D U σ a c H
theorem YCok.kept {G : XG} {D : va_G} {U : State} {σ σ' : YS} {a : Nat} {c : YC} {H H1 : Heap} (h : YCok G D U σ a c H) (hq : H1[G.1 + a]? = H[G.1 + a]?) (hs : ∀ j : Nat, σ' a j = σ a j) : YCok G D U σ' a c H1 := by
  refine ⟨fun h1 => ?_, fun h1 => ?_⟩
  · obtain ⟨vs, e1, e2, e3⟩ := h.1 h1
    exact ⟨vs, e1, fun j t ht => by rw [hs]; exact e2 j t ht, e3.kept hq⟩
  · obtain ⟨cA, f, e1, e2, e3, e4⟩ := h.2 h1
    exact ⟨cA, f, by rw [hq]; exact e1, e2, e3, fun j hj => by rw [hs]; exact e4 j hj⟩
theorem YCok.moved {G : XG} {D : va_G} {u U : State} {σ : YS} {a : Nat} {c : YC} {H : Heap} (hvm : u.vm.Alike U.vm) (h : YCok G D u σ a c H) : YCok G D U σ a c H := by
  refine ⟨h.1, fun h1 => ?_⟩
  obtain ⟨cA, f, e1, e2, e3, e4⟩ := h.2 h1
  exact ⟨cA, f, e1, arrOfT_moved hvm e2, e3.moved hvm, e4⟩
theorem YWok.moved {G : XG} {D : va_G} {u U : State} {σ : YS} {H : Heap} (hvm : u.vm.Alike U.vm) (h : YWok G D u σ H) : YWok G D U σ H := ⟨h.1, fun a c hk => (h.2 a c hk).moved hvm⟩
theorem YWok.put {G : XG} {D : va_G} {U : State} {σ σ' : YS} {a : Nat} {H H1 : Heap} (h : YWok G D U σ H) (hz : H1.size = H.size) (ho : ∀ q : Nat, q ≠ G.1 + a → H1[q]? = H[q]?) (hs : ∀ b j : Int, b ≠ a → σ' b j = σ b j) (hc : ∀ c, ycell a = some c → YCok G D U σ' a c H1) : YWok G D U σ' H1 := by
  refine ⟨hz.trans h.1, fun b c hk => ?_⟩
  by_cases e : b = a
  · subst e; exact hc c hk
  · exact (h.2 b c hk).kept (ho _ (by omega)) (fun j => hs b j (by omega))
theorem ys0 {G : XG} {n : Int} {S : List YV} {st : List Value} (h : XSok G (yxs ((0, n) :: S)) st) : ∃ (i : Int32) (st' : List Value), st = .int i :: st' ∧ i.toInt = n ∧ XSok G (yxs S) st' := by
  obtain ⟨w, st', rfl, ⟨i, rfl, h1, h2, -⟩, h3⟩ := XSok_cons h
  dsimp only at h1 h2
  exact ⟨i, st', rfl, by omega, h3⟩
theorem ys1 {G : XG} {n : Int} {S : List YV} {st : List Value} (h : XSok G (yxs ((1, n) :: S)) st) : ∃ (i : Int64) (st' : List Value), st = .long i :: st' ∧ i.toInt = n ∧ XSok G (yxs S) st' := by
  obtain ⟨w, st', rfl, ⟨i, rfl, h1, h2⟩, h3⟩ := XSok_cons h
  dsimp only at h1 h2
  exact ⟨i, st', rfl, by omega, h3⟩
theorem ys2 {G : XG} {a : Int} {S : List YV} {st : List Value} (h : XSok G (yxs ((2, a) :: S)) st) : ∃ (st' : List Value), st = .ref (G.1 + a.toNat) :: st' ∧ XSok G (yxs S) st' := by
  obtain ⟨w, st', rfl, h1, h3⟩ := XSok_cons h
  have h1 : w = .ref (G.1 + a.toNat) := h1
  subst h1
  exact ⟨st', rfl, h3⟩
theorem ys3 {G : XG} {a : Int} {S : List YV} {st : List Value} (h : XSok G (yxs ((3, a) :: S)) st) : ∃ (st' : List Value), st = .ref (G.2.1 a.toNat) :: st' ∧ XSok G (yxs S) st' := by
  obtain ⟨w, st', rfl, h1, h3⟩ := XSok_cons h
  have h1 : w = .ref (G.2.1 a.toNat) := h1
  subst h1
  exact ⟨st', rfl, h3⟩
theorem yp0 {G : XG} {n : Int} {i : Int32} (h : i.toInt = n) : XVok G (y2x (0, n)) (.int i) := ⟨i, rfl, by show n ≤ _; omega, by show _ ≤ n; omega, fun t ht => by cases ht⟩
theorem yp1 {G : XG} {n : Int} {i : Int64} (h : i.toInt = n) : XVok G (y2x (1, n)) (.long i) := ⟨i, rfl, by show n ≤ _; omega, by show _ ≤ n; omega⟩
theorem yref {G : XG} {t : Nat} {v : Int} {w : Value} (ht : 2 ≤ t) (h : XVok G (y2x (t, v)) w) : ∃ a, w = .ref a := by
  match t, ht with
  | 2, _ => exact ⟨_, h⟩
  | t + 3, _ => exact ⟨_, h⟩
theorem yv0 {G : XG} {n : Int} {w : Value} (h : XVok G (y2x (0, n)) w) : ∃ i : Int32, w = .int i ∧ i.toInt = n := by
  obtain ⟨i, rfl, h1, h2, -⟩ := h
  dsimp only at h1 h2
  exact ⟨i, rfl, by omega⟩
theorem yv1 {G : XG} {n : Int} {w : Value} (h : XVok G (y2x (1, n)) w) : ∃ i : Int64, w = .long i ∧ i.toInt = n := by
  obtain ⟨i, rfl, h1, h2⟩ := h
  dsimp only at h1 h2
  exact ⟨i, rfl, by omega⟩
theorem ycat1 {G : XG} {t : Nat} {v : Int} {w : Value} (ht : t ≠ 1) (h : XVok G (y2x (t, v)) w) : w.category = 1 := by
  rw [XVcat h]
  match t, ht with
  | 0, _ => rfl
  | 2, _ => rfl
  | t + 3, _ => rfl
theorem ylget {L : YL} {A : Nat} {v : YV} (h : L[A]? = some (some v)) : (yxl L)[A]? = some (some (y2x v)) := by
  unfold yxl
  rw [List.getElem?_map, h]
  rfl
theorem ylset (L : YL) (A : Nat) (v : YV) : yxl (L.set A (some v)) = (yxl L).set A (some (y2x v)) := by
  unfold yxl
  rw [List.map_set]
  rfl
theorem ylset0 (L : YL) (A : Nat) : yxl (L.set A none) = (yxl L).set A none := by
  unfold yxl
  rw [List.map_set]
  rfl
theorem yllen (L : YL) : (yxl L).length = L.length := List.length_map _
/-- the place ahead holds no long -/
noncomputable def yclr (L : YL) (A : Nat) : Bool := xclr (yxl L) A
abbrev yrg (x : Int) : Prop := -2147483648 ≤ x ∧ x ≤ 2147483647
def yshl (a b : Int) : Int := (Int32.ofInt a <<< (Int32.ofInt b &&& 31)).toInt
def yshr (a b : Int) : Int := (Int32.ofInt a >>> (Int32.ofInt b &&& 31)).toInt
def yand (a b : Int) : Int := (Int32.ofInt a &&& Int32.ofInt b).toInt
def yor (a b : Int) : Int := (Int32.ofInt a ||| Int32.ofInt b).toInt
def yl2i (a : Int) : Int := (Int64.ofInt a).toInt32.toInt
def yladd (a b : Int) : Int := (Int64.ofInt a + Int64.ofInt b).toInt
def ylsub (a b : Int) : Int := (Int64.ofInt a - Int64.ofInt b).toInt
def ylmul (a b : Int) : Int := (Int64.ofInt a * Int64.ofInt b).toInt
def yland (a b : Int) : Int := (Int64.ofInt a &&& Int64.ofInt b).toInt
def ylor (a b : Int) : Int := (Int64.ofInt a ||| Int64.ofInt b).toInt
def ylshl (a b : Int) : Int := (Int64.ofInt a <<< ((Int32.ofInt b).toInt64 &&& 63)).toInt
def ylshr (a b : Int) : Int := (Int64.ofInt a >>> ((Int32.ofInt b).toInt64 &&& 63)).toInt
def yord (i : Int) : Int := ([0, 1, 2, 0, 2, 1, 1, 0, 2, 1, 2, 0, 2, 0, 1, 2, 1, 0] : List Int).getD i.toNat 0
def yfet (i : Int) : Int := ([1, 2, 1, 1, 20, 1] : List Int).getD i.toNat 0
def ylam (i : Int) : Int := ([0, 0, 1, 0, 0, 1] : List Int).getD i.toNat 0
def yqfet (j : Nat) : Value := .int (Int32.ofInt (yfet j))
def yqlam (j : Nat) : Value := .int (Int32.ofInt (ylam j))
def ycmp (c : Nat) (a b : Int) : Prop := match c with
  | 0 => a = b
  | 1 => a ≠ b
  | 2 => a < b
  | 3 => b ≤ a
  | 4 => b < a
  | _ => a ≤ b
def ydep (i : Nat) : Nat := (ydepl[i]?).getD 0
def yrm (i : Nat) : Room := { frames := ydep i, cells := 0, slots := 0, locals := 36 * ydep i }
def yret (r : Option YV) (S : List YV) : List YV := match r with
  | none => S
  | some v => v :: S
def YGl (G : XG) (D : va_G) (s : State) : Prop := XGl G D s ∧
  (va_Z "ClaySlips" "FETCHES_AT_ONCE" "[I" (.ref (G.2.1 2)) (fun q => G.1 ≤ q) s s.heap ∧ va_T .int (G.2.1 2) 6 yqfet (fun q => G.1 ≤ q) s s.heap) ∧
  (va_Z "ClaySlips" "IS_LAME" "[I" (.ref (G.2.1 3)) (fun q => G.1 ≤ q) s s.heap ∧ va_T .int (G.2.1 3) 6 yqlam (fun q => G.1 ≤ q) s s.heap) ∧
  va_Nw (.fieldLinkNest "ClaySlips$Street" 133 "ClaySlips" "FETCHES_AT_ONCE" "[I" "ClaySlips") s ∧
  ∃ (L : Nat) (xs : Nat → Int32), va_X (G.2.1 0) L xs s s.heap ∧ G.2.1 0 < G.1 ∧ G.2.2 5 = (L : Int) ∧ L ≤ 320 ∧ ∀ j, (xs j).toInt = G.2.2 (6 + j)
theorem YGl.moved {G : XG} {D : va_G} {u U : State} (h : YGl G D u) (hW : u.WarmedH U.vm) (hsz : G.1 ≤ U.heap.size) (hh : ∀ q : Nat, q < G.1 → U.heap[q]? = u.heap[q]?) : YGl G D U := by
  obtain ⟨h1, ⟨h2, h3⟩, ⟨h4, h5⟩, h6, L, xs, h7, h8, h9⟩ := h
  have hvm := hW.alike
  have hh2 : ∀ a : Nat, a < u.heap.size → ¬ G.1 ≤ a → U.heap[a]? = u.heap[a]? := fun a _ h => hh a (Nat.not_le.mp h)
  exact ⟨h1.moved hW hsz hh, ⟨(h2.moved hvm).kept hh2, (h3.moved hvm).kept hh2⟩, ⟨(h4.moved hvm).kept hh2, (h5.moved hvm).kept hh2⟩, va_Nw.warmF hW h6, L, xs, (h7.moved hvm).kept (hh _ h8), h8, h9⟩
def YPc (G : XG) (D : va_G) (as : List YV) (σ : YS) : Array Value → State → Prop := fun v U => ∃ vs : List Value, v = vs.toArray ∧ XSok G (yxs as) vs ∧ YWok G D U σ U.heap ∧ YGl G D U
def YQc (G : XG) (D : va_G) (P : Option YV → YS → Prop) : Array Value → State → Outcome → State → Prop := fun _ st oc t => (∀ q : Nat, q < G.1 → t.heap[q]? = st.heap[q]?) ∧ ∃ (r : Option YV) (σ' : YS), P r σ' ∧ YWok G D t σ' t.heap ∧ XOc G (r.map y2x) oc
/-- a method called with these arguments in this world comes back, and P speaks of what it hands back -/
def YM (g : Launch × XG × va_G) (k : Nat) (as : List YV) (σ : YS) (P : Option YV → YS → Prop) : Prop := Met g.1 (xqyn k) (xqws k) (yrm k) (YPc g.2.1 g.2.2 as σ) (YQc g.2.1 g.2.2 P) 0 0 (fun q => g.2.1.1 ≤ q)
theorem YPc_blind {G : XG} {D : va_G} {σ : YS} (as : List YV) : FrameBlind (YPc G D as σ) := by
  rintro a U g mk ⟨vs, h1, h2, h3, h4⟩
  exact ⟨vs, h1, h2, YWok.moved (u := U) (U := U.calling g mk a) (Vm.Alike.refl U.vm) h3, h4.moved (U := U.calling g mk a) (State.WarmedH.refl U) h4.1.2.2.2.1 (fun q _ => rfl)⟩
