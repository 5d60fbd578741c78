/-! where things lie -/
def yS (s : Int) : Prop := s = 1 ∨ s = 37 ∨ s = 51 ∨ s = 66 ∨ s = 80
def yN (a : Int) : Prop := ∃ s i, yS s ∧ (0 ≤ i ∧ i < 3) ∧ a = s + 3 + 3 * i
def yP (p : Int) : Prop := p = 15 ∨ p = 95 ∨ p = 117
def yR (r : Int) : Prop := 0 ≤ r ∧ ycell r.toNat = some (10, 22, [])
theorem yS_0 {s : Int} (h : yS s) : 0 ≤ s ∧ s ≤ 80 := by unfold yS at h; omega
theorem yS_c {s : Int} (h : yS s) : ycell s.toNat = some (2, 0, [s + 1, s + 2, s + 12, s + 13, -1, -1, -1, -1]) := by
  rcases h with rfl | rfl | rfl | rfl | rfl <;> rfl
theorem yS_w {s : Int} (h : yS s) : ycell (s + 1).toNat = some (10, 9, []) := by
  rcases h with rfl | rfl | rfl | rfl | rfl <;> rfl
theorem yS_m {s : Int} (h : yS s) : ycell (s + 2).toNat = some (12 + 8, 3, [s + 3, 3]) := by
  rcases h with rfl | rfl | rfl | rfl | rfl <;> rfl
theorem yS_e {s : Int} (h : yS s) : ycell (s + 12).toNat = some (10, 4, []) := by
  rcases h with rfl | rfl | rfl | rfl | rfl <;> rfl
theorem yS_r {s : Int} (h : yS s) : yR (s + 13) := by
  rcases h with rfl | rfl | rfl | rfl | rfl <;> exact ⟨by decide, rfl⟩
theorem yS_n {s i : Int} (h : yS s) (hi : 0 ≤ i ∧ i < 3) : yN (s + 3 + 3 * i) := ⟨s, i, h, hi, rfl⟩
theorem yN_0 {a : Int} (h : yN a) : 4 ≤ a ∧ a ≤ 90 := by
  obtain ⟨s, i, h, hi, rfl⟩ := h
  unfold yS at h
  omega
theorem yN_all {a : Int} (h : yN a) : ycell a.toNat = some (0, 0, [a + 1, a + 2, -1, -1, -1, -1, -1, -1, -2]) ∧ ycell (a + 1).toNat = some (10, 24, []) ∧ ycell (a + 2).toNat = some (10, 24, []) := by
  obtain ⟨s, i, h, hi, rfl⟩ := h
  rcases (by omega : i = 0 ∨ i = 1 ∨ i = 2) with rfl | rfl | rfl <;> rcases h with rfl | rfl | rfl | rfl | rfl <;> exact ⟨rfl, rfl, rfl⟩
theorem yN_c {a : Int} (h : yN a) : ycell a.toNat = some (0, 0, [a + 1, a + 2, -1, -1, -1, -1, -1, -1, -2]) := (yN_all h).1
theorem yN_s {a : Int} (h : yN a) : ycell (a + 1).toNat = some (10, 24, []) := (yN_all h).2.1
theorem yN_p {a : Int} (h : yN a) : ycell (a + 2).toNat = some (10, 24, []) := (yN_all h).2.2
theorem yP_0 {p : Int} (h : yP p) : 15 ≤ p ∧ p ≤ 117 := by unfold yP at h; omega
theorem yP_c {p : Int} (h : yP p) : ycell p.toNat = some (1, 0, [p + 1, -1]) := by
  rcases h with rfl | rfl | rfl <;> rfl
theorem yP_w {p : Int} (h : yP p) : ycell (p + 1).toNat = some (12 + 0, 20, [p + 2, 1]) := by
  rcases h with rfl | rfl | rfl <;> rfl
def yrow (a : Nat) : Bool := match ycell a with
  | some (10, 22, []) => true
  | _ => false
theorem yrow_ok {a : Nat} (h : yrow a = true) : ycell a = some (10, 22, []) := by
  unfold yrow at h
  split at h
  · assumption
  · cases h
theorem yrows_b : (List.range 401).all (fun j => yrow (144 + j)) = true := by decide +kernel
theorem yrows_p : ([15, 95, 117] : List Nat).all (fun p => (List.range 20).all (fun j => yrow (p + 2 + j))) = true := by decide +kernel
theorem yB_r {j : Int} (h : 0 ≤ j ∧ j < 401) : yR (144 + j) := by
  refine ⟨by omega, ?_⟩
  have := List.all_eq_true.mp yrows_b j.toNat (List.mem_range.mpr (by omega))
  rw [show (144 + j).toNat = 144 + j.toNat by omega]
  exact yrow_ok this
theorem yP_r {p j : Int} (hp : yP p) (h : 0 ≤ j ∧ j < 20) : yR (p + 2 + j) := by
  have h0 := yP_0 hp
  refine ⟨by omega, ?_⟩
  have h1 := List.all_eq_true.mp yrows_p p.toNat (by rcases hp with rfl | rfl | rfl <;> decide)
  have := List.all_eq_true.mp h1 j.toNat (List.mem_range.mpr (by omega))
  rw [show (p + 2 + j).toNat = p.toNat + 2 + j.toNat by omega]
  exact yrow_ok this
/-- what is read behind a write -/
theorem yne {σ : YS} {k j w a b v : Int} (h : ¬ (a = k ∧ b = j)) (hv : σ a b = v) : yset σ k j w a b = v := by
  unfold yset
  rw [if_neg h]
  exact hv
theorem ycn {σ : YS} {c p d q n a b v : Int} (h : ¬ (a = d ∧ q ≤ b ∧ b < q + n)) (hv : σ a b = v) : ycopy σ c p d q n a b = v := by
  unfold ycopy
  rw [if_neg h]
  exact hv
theorem yeq (σ : YS) (k j w : Int) : yset σ k j w k j = w := by
  unfold yset
  rw [if_pos ⟨rfl, rfl⟩]
def yb (p : Prop) [Decidable p] : Int := if p then 1 else 0
theorem yb_0 {p : Prop} [Decidable p] : yb p = 0 ↔ ¬ p := by unfold yb; split <;> simp_all
theorem yb_1 {p : Prop} [Decidable p] : yb p ≠ 0 ↔ p := by unfold yb; split <;> simp_all
theorem yb_r {p : Prop} [Decidable p] : 0 ≤ yb p ∧ yb p ≤ 1 := by unfold yb; split <;> omega
theorem yb_t {p : Prop} [Decidable p] (h : p) : yb p = 1 := by unfold yb; rw [if_pos h]
theorem yb_f {p : Prop} [Decidable p] (h : ¬ p) : yb p = 0 := by unfold yb; rw [if_neg h]
theorem yS_1 : yS 1 := Or.inl rfl
theorem yS_37 : yS 37 := Or.inr (Or.inl rfl)
theorem yS_51 : yS 51 := Or.inr (Or.inr (Or.inl rfl))
theorem yP_15 : yP 15 := Or.inl rfl
theorem yR_546 : yR 546 := ⟨by decide, rfl⟩
theorem yS_img {i : Int} (h : 0 ≤ i ∧ i < 2) : yS (66 + 14 * i) := by
  rcases (by omega : i = 0 ∨ i = 1) with rfl | rfl
  · exact Or.inr (Or.inr (Or.inr (Or.inl rfl)))
  · exact Or.inr (Or.inr (Or.inr (Or.inr rfl)))
theorem yP_img {i : Int} (h : 0 ≤ i ∧ i < 2) : yP (95 + 22 * i) := by
  rcases (by omega : i = 0 ∨ i = 1) with rfl | rfl
  · exact Or.inr (Or.inl rfl)
  · exact Or.inr (Or.inr rfl)
theorem yone (b i : Int) : b + 1 * i = b + i := by omega
abbrev ylc (a b : Int) : Int := if b < a then 1 else if a = b then 0 else -1
theorem ylc_lt0 {a b : Int} : ylc a b < 0 ↔ a < b := by unfold ylc; split <;> (try split) <;> omega
theorem ylc_lt1 {a b : Int} : 0 ≤ ylc a b ↔ b ≤ a := by unfold ylc; split <;> (try split) <;> omega
theorem ylc_gt0 {a b : Int} : 0 < ylc a b ↔ b < a := by unfold ylc; split <;> (try split) <;> omega
theorem ylc_gt1 {a b : Int} : ylc a b ≤ 0 ↔ a ≤ b := by unfold ylc; split <;> (try split) <;> omega
theorem ylc_eq0 {a b : Int} : ylc a b = 0 ↔ a = b := by unfold ylc; split <;> (try split) <;> omega
theorem ylc_eq1 {a b : Int} : ylc a b ≠ 0 ↔ a ≠ b := by unfold ylc; split <;> (try split) <;> omega
theorem ylc_ne0 {a b : Int} : ylc a b ≠ 0 ↔ a ≠ b := ylc_eq1
theorem ylc_ne1 {a b : Int} : ylc a b = 0 ↔ a = b := ylc_eq0
theorem ylc_ge0 {a b : Int} : 0 ≤ ylc a b ↔ b ≤ a := ylc_lt1
theorem ylc_ge1 {a b : Int} : ylc a b < 0 ↔ a < b := ylc_lt0
theorem ylc_le0 {a b : Int} : ylc a b ≤ 0 ↔ a ≤ b := ylc_gt1
theorem ylc_le1 {a b : Int} : 0 < ylc a b ↔ b < a := ylc_gt0
/-- locals that are not read any more -/
def ysub : YL → YL → Prop
  | [], [] => True
  | x :: L, y :: M => (y = none ∨ x = y) ∧ ysub L M
  | _, _ => False
theorem ysub_get : ∀ {L M : YL}, ysub L M → M.length = L.length ∧ ∀ (i : Nat) (v : YV), M[i]? = some (some v) → L[i]? = some (some v)
  | [], [], _ => ⟨rfl, fun i v h => h⟩
  | x :: L, y :: M, h => by
    obtain ⟨h1, h2⟩ := h
    obtain ⟨g1, g2⟩ := ysub_get h2
    refine ⟨by rw [List.length_cons, List.length_cons, g1], fun i v hv => ?_⟩
    match i with
    | 0 =>
      rcases h1 with h1 | h1
      · subst h1; cases hv
      · subst h1; exact hv
    | i + 1 => exact g2 i v hv
  | [], _ :: _, h => h.elim
  | _ :: _, [], h => h.elim
theorem ysub_ok {G : XG} {L M : YL} {ls : Array Slot} {nL : Nat} (h : ysub L M) (hL : XLok G (yxl L) ls nL) : XLok G (yxl M) ls nL := by
  obtain ⟨g1, g2⟩ := ysub_get h
  obtain ⟨a1, a2, a3, a4⟩ := hL
  refine ⟨a1, by unfold yxl at a2 ⊢; rw [List.length_map] at a2 ⊢; omega, a3, fun i x hx => ?_⟩
  unfold yxl at hx
  rw [List.getElem?_map] at hx
  match hm : M[i]? with
  | none => rw [hm] at hx; cases hx
  | some none => rw [hm] at hx; cases hx
  | some (some v) =>
    rw [hm] at hx
    have := ylget (g2 i v hm)
    have e : x = y2x v := by cases hx; rfl
    rw [e]
    exact a4 i _ this
theorem y_forget {g : Launch × XG × va_G} {k pc : Nat} {L M : YL} {S : List YV} {σ : YS} {P : Option YV → YS → Prop} (hs : ysub L M) (h : YW g k pc M S σ P) : YW g k pc L S σ P :=
  fun p e s m args below meth c hctx ls st H locs hL hS hW hl hf => h p e s m args below meth c hctx ls st H locs (ysub_ok hs hL) hS hW hl hf
