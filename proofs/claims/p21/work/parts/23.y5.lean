section YQ5
variable {g : Launch × XG × va_G} {k pc nx A r1 r2 r3 : Nat} {B : Int} {L L' : YL} {S : List YV} {σ : YS} {P : Option YV → YS → Prop} {a b v w i j n t : Int}
theorem y_push (hT : ytab k pc = some (0, A, B, nx, r1, r2, r3)) (h : YW g k nx L ((0, B) :: S) σ P) (hB : yrg B := by decide) : YW g k pc L S σ P := y_step hT rfl ⟨hB, h⟩
theorem y_lconst (hT : ytab k pc = some (1, A, B, nx, r1, r2, r3)) (hv : ((A : Nat) : Int) = v) (h : YW g k nx L ((1, v) :: S) σ P) : YW g k pc L S σ P := by
  subst hv
  exact y_step hT rfl h
theorem y_ldc2 (hT : ytab k pc = some (2, A, B, nx, r1, r2, r3)) (hv : ((r1 : Nat) : Int) = v) (h : YW g k nx L ((1, v) :: S) σ P) : YW g k pc L S σ P := by
  subst hv
  exact y_step hT rfl h
theorem y_iload (hT : ytab k pc = some (3, A, B, nx, r1, r2, r3)) (hL : L[A]? = some (some (0, v))) (h : YW g k nx L ((0, v) :: S) σ P) : YW g k pc L S σ P := y_step hT rfl ⟨v, hL, h⟩
theorem y_aload {ta : Nat} (hT : ytab k pc = some (4, A, B, nx, r1, r2, r3)) (hL : L[A]? = some (some (ta, v))) (ht : Nat.ble 2 ta = true) (h : YW g k nx L ((ta, v) :: S) σ P) : YW g k pc L S σ P := y_step hT rfl ⟨ta, v, Nat.ble_eq.mp ht, hL, h⟩
theorem y_lload (hT : ytab k pc = some (5, A, B, nx, r1, r2, r3)) (hL : L[A]? = some (some (1, v))) (h : YW g k nx L ((1, v) :: S) σ P) : YW g k pc L S σ P := y_step hT rfl ⟨v, hL, h⟩
theorem y_istore (hT : ytab k pc = some (6, A, B, nx, r1, r2, r3)) (hc : yclr L A = true) (hA : Nat.blt A L.length = true) (hL : L.set A (some (0, v)) = L') (h : YW g k nx L' S σ P) : YW g k pc L ((0, v) :: S) σ P := by
  subst hL
  exact y_step hT rfl ⟨v, S, rfl, ⟨hc, Nat.blt_eq.mp hA⟩, h⟩
theorem y_astore {ta : Nat} (hT : ytab k pc = some (7, A, B, nx, r1, r2, r3)) (hc : yclr L A = true) (hA : Nat.blt A L.length = true) (ht : Nat.ble 2 ta = true) (hL : L.set A (some (ta, v)) = L') (h : YW g k nx L' S σ P) : YW g k pc L ((ta, v) :: S) σ P := by
  subst hL
  exact y_step hT rfl ⟨ta, v, S, Nat.ble_eq.mp ht, rfl, ⟨hc, Nat.blt_eq.mp hA⟩, h⟩
theorem y_lstore (hT : ytab k pc = some (8, A, B, nx, r1, r2, r3)) (hc : yclr L A = true) (hA : Nat.blt (A + 1) L.length = true) (hL : (L.set A (some (1, v))).set (A + 1) none = L') (h : YW g k nx L' S σ P) : YW g k pc L ((1, v) :: S) σ P := by
  subst hL
  exact y_step hT rfl ⟨v, S, rfl, ⟨hc, Nat.blt_eq.mp hA⟩, h⟩
theorem y_iinc (hT : ytab k pc = some (9, A, B, nx, r1, r2, r3)) (hL0 : L[A]? = some (some (0, v))) (hc : yclr L A = true) (hA : Nat.blt A L.length = true) (hL : L.set A (some (0, v + B)) = L') (hr : yrg (v + B)) (h : YW g k nx L' S σ P) (hB : yrg B := by decide) : YW g k pc L S σ P := by
  subst hL
  exact y_step hT rfl ⟨v, hL0, ⟨hB, hc, Nat.blt_eq.mp hA⟩, hr, h⟩
theorem y_iadd (hT : ytab k pc = some (10, A, B, nx, r1, r2, r3)) (hv : a + b = v) (hr : yrg v) (h : YW g k nx L ((0, v) :: S) σ P) : YW g k pc L ((0, b) :: (0, a) :: S) σ P := by
  subst hv
  exact y_step hT rfl ⟨a, b, S, rfl, hr, h⟩
theorem y_isub (hT : ytab k pc = some (11, A, B, nx, r1, r2, r3)) (hv : a - b = v) (hr : yrg v) (h : YW g k nx L ((0, v) :: S) σ P) : YW g k pc L ((0, b) :: (0, a) :: S) σ P := by
  subst hv
  exact y_step hT rfl ⟨a, b, S, rfl, hr, h⟩
theorem y_imul (hT : ytab k pc = some (12, A, B, nx, r1, r2, r3)) (hv : a * b = v) (hr : yrg v) (h : YW g k nx L ((0, v) :: S) σ P) : YW g k pc L ((0, b) :: (0, a) :: S) σ P := by
  subst hv
  exact y_step hT rfl ⟨a, b, S, rfl, hr, h⟩
theorem y_irem (hT : ytab k pc = some (14, A, B, nx, r1, r2, r3)) (hv : a % b = v) (hr : 0 ≤ a ∧ 0 < b) (h : YW g k nx L ((0, v) :: S) σ P) : YW g k pc L ((0, b) :: (0, a) :: S) σ P := by
  subst hv
  exact y_step hT rfl ⟨a, b, S, rfl, hr, h⟩
theorem y_idiv (hT : ytab k pc = some (54, A, B, nx, r1, r2, r3)) (hv : a / b = v) (hr : 0 ≤ a ∧ 0 < b) (h : YW g k nx L ((0, v) :: S) σ P) : YW g k pc L ((0, b) :: (0, a) :: S) σ P := by
  subst hv
  exact y_step hT rfl ⟨a, b, S, rfl, hr, h⟩
theorem y_ishl (hT : ytab k pc = some (13, A, B, nx, r1, r2, r3)) (hv : yshl a b = v) (h : YW g k nx L ((0, v) :: S) σ P) : YW g k pc L ((0, b) :: (0, a) :: S) σ P := by
  subst hv
  exact y_step hT rfl ⟨a, b, S, rfl, h⟩
theorem y_iand (hT : ytab k pc = some (15, A, B, nx, r1, r2, r3)) (hv : yand a b = v) (h : YW g k nx L ((0, v) :: S) σ P) : YW g k pc L ((0, b) :: (0, a) :: S) σ P := by
  subst hv
  exact y_step hT rfl ⟨a, b, S, rfl, h⟩
theorem y_ior (hT : ytab k pc = some (53, A, B, nx, r1, r2, r3)) (hv : yor a b = v) (h : YW g k nx L ((0, v) :: S) σ P) : YW g k pc L ((0, b) :: (0, a) :: S) σ P := by
  subst hv
  exact y_step hT rfl ⟨a, b, S, rfl, h⟩
theorem y_ishr (hT : ytab k pc = some (55, A, B, nx, r1, r2, r3)) (hv : yshr a b = v) (h : YW g k nx L ((0, v) :: S) σ P) : YW g k pc L ((0, b) :: (0, a) :: S) σ P := by
  subst hv
  exact y_step hT rfl ⟨a, b, S, rfl, h⟩
theorem y_ladd (hT : ytab k pc = some (18, A, B, nx, r1, r2, r3)) (hv : yladd a b = v) (h : YW g k nx L ((1, v) :: S) σ P) : YW g k pc L ((1, b) :: (1, a) :: S) σ P := by
  subst hv
  exact y_step hT rfl ⟨a, b, S, rfl, h⟩
theorem y_lsub (hT : ytab k pc = some (56, A, B, nx, r1, r2, r3)) (hv : ylsub a b = v) (h : YW g k nx L ((1, v) :: S) σ P) : YW g k pc L ((1, b) :: (1, a) :: S) σ P := by
  subst hv
  exact y_step hT rfl ⟨a, b, S, rfl, h⟩
theorem y_lmul (hT : ytab k pc = some (19, A, B, nx, r1, r2, r3)) (hv : ylmul a b = v) (h : YW g k nx L ((1, v) :: S) σ P) : YW g k pc L ((1, b) :: (1, a) :: S) σ P := by
  subst hv
  exact y_step hT rfl ⟨a, b, S, rfl, h⟩
theorem y_land (hT : ytab k pc = some (20, A, B, nx, r1, r2, r3)) (hv : yland a b = v) (h : YW g k nx L ((1, v) :: S) σ P) : YW g k pc L ((1, b) :: (1, a) :: S) σ P := by
  subst hv
  exact y_step hT rfl ⟨a, b, S, rfl, h⟩
theorem y_lor (hT : ytab k pc = some (21, A, B, nx, r1, r2, r3)) (hv : ylor a b = v) (h : YW g k nx L ((1, v) :: S) σ P) : YW g k pc L ((1, b) :: (1, a) :: S) σ P := by
  subst hv
  exact y_step hT rfl ⟨a, b, S, rfl, h⟩
theorem y_lshl (hT : ytab k pc = some (22, A, B, nx, r1, r2, r3)) (hv : ylshl a b = v) (h : YW g k nx L ((1, v) :: S) σ P) : YW g k pc L ((0, b) :: (1, a) :: S) σ P := by
  subst hv
  exact y_step hT rfl ⟨a, b, S, rfl, h⟩
theorem y_lshr (hT : ytab k pc = some (23, A, B, nx, r1, r2, r3)) (hv : ylshr a b = v) (h : YW g k nx L ((1, v) :: S) σ P) : YW g k pc L ((0, b) :: (1, a) :: S) σ P := by
  subst hv
  exact y_step hT rfl ⟨a, b, S, rfl, h⟩
theorem y_i2l (hT : ytab k pc = some (16, A, B, nx, r1, r2, r3)) (h : YW g k nx L ((1, a) :: S) σ P) : YW g k pc L ((0, a) :: S) σ P := y_step hT rfl ⟨a, S, rfl, h⟩
theorem y_l2i (hT : ytab k pc = some (17, A, B, nx, r1, r2, r3)) (hv : yl2i a = v) (h : YW g k nx L ((0, v) :: S) σ P) : YW g k pc L ((1, a) :: S) σ P := by
  subst hv
  exact y_step hT rfl ⟨a, S, rfl, h⟩
theorem y_i2c (hT : ytab k pc = some (57, A, B, nx, r1, r2, r3)) (hr : 0 ≤ a ∧ a < 65536) (h : YW g k nx L ((0, a) :: S) σ P) : YW g k pc L ((0, a) :: S) σ P := y_step hT rfl ⟨a, S, rfl, hr, h⟩
theorem y_lcmp (hT : ytab k pc = some (24, A, B, nx, r1, r2, r3)) (hv : (if b < a then 1 else if a = b then 0 else -1 : Int) = v) (h : YW g k nx L ((0, v) :: S) σ P) : YW g k pc L ((1, b) :: (1, a) :: S) σ P := by
  subst hv
  exact y_step hT rfl ⟨a, b, S, rfl, h⟩
theorem y_dup {ta : Nat} (hT : ytab k pc = some (25, A, B, nx, r1, r2, r3)) (ht : Nat.beq ta 1 = false) (h : YW g k nx L ((ta, v) :: (ta, v) :: S) σ P) : YW g k pc L ((ta, v) :: S) σ P := y_step hT rfl ⟨ta, v, S, rfl, Nat.ne_of_beq_eq_false ht, h⟩
theorem y_dup2 {ta tb : Nat} (hT : ytab k pc = some (26, A, B, nx, r1, r2, r3)) (ht : Nat.beq ta 1 = false) (hu : Nat.beq tb 1 = false) (h : YW g k nx L ((ta, v) :: (tb, w) :: (ta, v) :: (tb, w) :: S) σ P) : YW g k pc L ((ta, v) :: (tb, w) :: S) σ P := y_step hT rfl ⟨ta, v, tb, w, S, rfl, ⟨Nat.ne_of_beq_eq_false ht, Nat.ne_of_beq_eq_false hu⟩, h⟩
theorem y_pop {ta : Nat} (hT : ytab k pc = some (27, A, B, nx, r1, r2, r3)) (ht : Nat.beq ta 1 = false) (h : YW g k nx L S σ P) : YW g k pc L ((ta, v) :: S) σ P := y_step hT rfl ⟨ta, v, S, rfl, Nat.ne_of_beq_eq_false ht, h⟩
theorem y_pop2 (hT : ytab k pc = some (58, A, B, nx, r1, r2, r3)) (h : YW g k nx L S σ P) : YW g k pc L ((1, v) :: S) σ P := y_step hT rfl ⟨v, S, rfl, h⟩
theorem y_goto (hT : ytab k pc = some (28, A, B, nx, r1, r2, r3)) (h : YW g k r1 L S σ P) : YW g k pc L S σ P := y_step hT rfl h
theorem y_ifeq (hT : ytab k pc = some (29, 0, B, nx, r1, r2, r3)) (ht : a = 0 → YW g k r1 L S σ P) (hn : a ≠ 0 → YW g k nx L S σ P) : YW g k pc L ((0, a) :: S) σ P := y_step hT rfl ⟨a, S, rfl, fun z => ht (z), fun z => hn (z)⟩
theorem y_iceq (hT : ytab k pc = some (30, 0, B, nx, r1, r2, r3)) (ht : a = b → YW g k r1 L S σ P) (hn : a ≠ b → YW g k nx L S σ P) : YW g k pc L ((0, b) :: (0, a) :: S) σ P := y_step hT rfl ⟨a, b, S, rfl, fun z => ht (z), fun z => hn (z)⟩
theorem y_ifne (hT : ytab k pc = some (29, 1, B, nx, r1, r2, r3)) (ht : a ≠ 0 → YW g k r1 L S σ P) (hn : a = 0 → YW g k nx L S σ P) : YW g k pc L ((0, a) :: S) σ P := y_step hT rfl ⟨a, S, rfl, fun z => ht (z), fun z => hn (Decidable.not_not.mp z)⟩
theorem y_icne (hT : ytab k pc = some (30, 1, B, nx, r1, r2, r3)) (ht : a ≠ b → YW g k r1 L S σ P) (hn : a = b → YW g k nx L S σ P) : YW g k pc L ((0, b) :: (0, a) :: S) σ P := y_step hT rfl ⟨a, b, S, rfl, fun z => ht (z), fun z => hn (Decidable.not_not.mp z)⟩
theorem y_iflt (hT : ytab k pc = some (29, 2, B, nx, r1, r2, r3)) (ht : a < 0 → YW g k r1 L S σ P) (hn : 0 ≤ a → YW g k nx L S σ P) : YW g k pc L ((0, a) :: S) σ P := y_step hT rfl ⟨a, S, rfl, fun z => ht (z), fun z => hn (Int.not_lt.mp z)⟩
theorem y_iclt (hT : ytab k pc = some (30, 2, B, nx, r1, r2, r3)) (ht : a < b → YW g k r1 L S σ P) (hn : b ≤ a → YW g k nx L S σ P) : YW g k pc L ((0, b) :: (0, a) :: S) σ P := y_step hT rfl ⟨a, b, S, rfl, fun z => ht (z), fun z => hn (Int.not_lt.mp z)⟩
theorem y_ifge (hT : ytab k pc = some (29, 3, B, nx, r1, r2, r3)) (ht : 0 ≤ a → YW g k r1 L S σ P) (hn : a < 0 → YW g k nx L S σ P) : YW g k pc L ((0, a) :: S) σ P := y_step hT rfl ⟨a, S, rfl, fun z => ht (z), fun z => hn (Int.not_le.mp z)⟩
theorem y_icge (hT : ytab k pc = some (30, 3, B, nx, r1, r2, r3)) (ht : b ≤ a → YW g k r1 L S σ P) (hn : a < b → YW g k nx L S σ P) : YW g k pc L ((0, b) :: (0, a) :: S) σ P := y_step hT rfl ⟨a, b, S, rfl, fun z => ht (z), fun z => hn (Int.not_le.mp z)⟩
theorem y_ifgt (hT : ytab k pc = some (29, 4, B, nx, r1, r2, r3)) (ht : 0 < a → YW g k r1 L S σ P) (hn : a ≤ 0 → YW g k nx L S σ P) : YW g k pc L ((0, a) :: S) σ P := y_step hT rfl ⟨a, S, rfl, fun z => ht (z), fun z => hn (Int.not_lt.mp z)⟩
theorem y_icgt (hT : ytab k pc = some (30, 4, B, nx, r1, r2, r3)) (ht : b < a → YW g k r1 L S σ P) (hn : a ≤ b → YW g k nx L S σ P) : YW g k pc L ((0, b) :: (0, a) :: S) σ P := y_step hT rfl ⟨a, b, S, rfl, fun z => ht (z), fun z => hn (Int.not_lt.mp z)⟩
theorem y_ifle (hT : ytab k pc = some (29, 5, B, nx, r1, r2, r3)) (ht : a ≤ 0 → YW g k r1 L S σ P) (hn : 0 < a → YW g k nx L S σ P) : YW g k pc L ((0, a) :: S) σ P := y_step hT rfl ⟨a, S, rfl, fun z => ht (z), fun z => hn (Int.not_le.mp z)⟩
theorem y_icle (hT : ytab k pc = some (30, 5, B, nx, r1, r2, r3)) (ht : a ≤ b → YW g k r1 L S σ P) (hn : b < a → YW g k nx L S σ P) : YW g k pc L ((0, b) :: (0, a) :: S) σ P := y_step hT rfl ⟨a, b, S, rfl, fun z => ht (z), fun z => hn (Int.not_le.mp z)⟩
theorem y_tsw3 {df lo hi o0 o1 o2 : Int} {td t0 t1 t2 : Nat} (hT : ytab k pc = some (31, A, B, nx, r1, r2, r3)) (hs : xqsw[r1]? = some (df, lo, hi, [o0, o1, o2])) (hh : hi = lo + 2) (hd : (pc : Int) + df = td) (e0 : (pc : Int) + o0 = t0) (e1 : (pc : Int) + o1 = t1) (e2 : (pc : Int) + o2 = t2) (hn : v < lo ∨ hi < v → YW g k td L S σ P) (h0 : v = lo + 0 → YW g k t0 L S σ P) (h1 : v = lo + 1 → YW g k t1 L S σ P) (h2 : v = lo + 2 → YW g k t2 L S σ P) : YW g k pc L ((0, v) :: S) σ P := by
  refine y_step hT rfl ⟨v, S, df, lo, hi, _, rfl, hs, fun z => ⟨td, hd, hn z⟩, fun z1 z2 => ?_⟩
  rcases (by omega : v = lo + 0 ∨ v = lo + 1 ∨ v = lo + 2) with z | z | z
  · exact ⟨o0, t0, by rw [show (v - lo).toNat = 0 by omega]; rfl, e0, h0 z⟩
  · exact ⟨o1, t1, by rw [show (v - lo).toNat = 1 by omega]; rfl, e1, h1 z⟩
  · exact ⟨o2, t2, by rw [show (v - lo).toNat = 2 by omega]; rfl, e2, h2 z⟩
theorem y_tsw4 {df lo hi o0 o1 o2 o3 : Int} {td t0 t1 t2 t3 : Nat} (hT : ytab k pc = some (31, A, B, nx, r1, r2, r3)) (hs : xqsw[r1]? = some (df, lo, hi, [o0, o1, o2, o3])) (hh : hi = lo + 3) (hd : (pc : Int) + df = td) (e0 : (pc : Int) + o0 = t0) (e1 : (pc : Int) + o1 = t1) (e2 : (pc : Int) + o2 = t2) (e3 : (pc : Int) + o3 = t3) (hn : v < lo ∨ hi < v → YW g k td L S σ P) (h0 : v = lo + 0 → YW g k t0 L S σ P) (h1 : v = lo + 1 → YW g k t1 L S σ P) (h2 : v = lo + 2 → YW g k t2 L S σ P) (h3 : v = lo + 3 → YW g k t3 L S σ P) : YW g k pc L ((0, v) :: S) σ P := by
  refine y_step hT rfl ⟨v, S, df, lo, hi, _, rfl, hs, fun z => ⟨td, hd, hn z⟩, fun z1 z2 => ?_⟩
  rcases (by omega : v = lo + 0 ∨ v = lo + 1 ∨ v = lo + 2 ∨ v = lo + 3) with z | z | z | z
  · exact ⟨o0, t0, by rw [show (v - lo).toNat = 0 by omega]; rfl, e0, h0 z⟩
  · exact ⟨o1, t1, by rw [show (v - lo).toNat = 1 by omega]; rfl, e1, h1 z⟩
  · exact ⟨o2, t2, by rw [show (v - lo).toNat = 2 by omega]; rfl, e2, h2 z⟩
  · exact ⟨o3, t3, by rw [show (v - lo).toNat = 3 by omega]; rfl, e3, h3 z⟩
theorem y_tsw7 {df lo hi o0 o1 o2 o3 o4 o5 o6 : Int} {td t0 t1 t2 t3 t4 t5 t6 : Nat} (hT : ytab k pc = some (31, A, B, nx, r1, r2, r3)) (hs : xqsw[r1]? = some (df, lo, hi, [o0, o1, o2, o3, o4, o5, o6])) (hh : hi = lo + 6) (hd : (pc : Int) + df = td) (e0 : (pc : Int) + o0 = t0) (e1 : (pc : Int) + o1 = t1) (e2 : (pc : Int) + o2 = t2) (e3 : (pc : Int) + o3 = t3) (e4 : (pc : Int) + o4 = t4) (e5 : (pc : Int) + o5 = t5) (e6 : (pc : Int) + o6 = t6) (hn : v < lo ∨ hi < v → YW g k td L S σ P) (h0 : v = lo + 0 → YW g k t0 L S σ P) (h1 : v = lo + 1 → YW g k t1 L S σ P) (h2 : v = lo + 2 → YW g k t2 L S σ P) (h3 : v = lo + 3 → YW g k t3 L S σ P) (h4 : v = lo + 4 → YW g k t4 L S σ P) (h5 : v = lo + 5 → YW g k t5 L S σ P) (h6 : v = lo + 6 → YW g k t6 L S σ P) : YW g k pc L ((0, v) :: S) σ P := by
  refine y_step hT rfl ⟨v, S, df, lo, hi, _, rfl, hs, fun z => ⟨td, hd, hn z⟩, fun z1 z2 => ?_⟩
  rcases (by omega : v = lo + 0 ∨ v = lo + 1 ∨ v = lo + 2 ∨ v = lo + 3 ∨ v = lo + 4 ∨ v = lo + 5 ∨ v = lo + 6) with z | z | z | z | z | z | z
  · exact ⟨o0, t0, by rw [show (v - lo).toNat = 0 by omega]; rfl, e0, h0 z⟩
  · exact ⟨o1, t1, by rw [show (v - lo).toNat = 1 by omega]; rfl, e1, h1 z⟩
  · exact ⟨o2, t2, by rw [show (v - lo).toNat = 2 by omega]; rfl, e2, h2 z⟩
  · exact ⟨o3, t3, by rw [show (v - lo).toNat = 3 by omega]; rfl, e3, h3 z⟩
  · exact ⟨o4, t4, by rw [show (v - lo).toNat = 4 by omega]; rfl, e4, h4 z⟩
  · exact ⟨o5, t5, by rw [show (v - lo).toNat = 5 by omega]; rfl, e5, h5 z⟩
  · exact ⟨o6, t6, by rw [show (v - lo).toNat = 6 by omega]; rfl, e6, h6 z⟩
theorem y_gfi (hT : ytab k pc = some (37, A, B, nx, r1, r2, r3)) {ts : List Int} (hc : ycell a.toNat = some (r1, 0, ts)) (ha : 0 ≤ a) (ht : ts[r2]? = some t) (htt : t = -1 ∨ t = -2) (hj : ((r2 : Nat) : Int) = j) (hv : σ a j = v) (h : YW g k nx L ((0, v) :: S) σ P) : YW g k pc L ((2, a) :: S) σ P := by
  subst hj hv
  refine y_step hT rfl ⟨a, S, ts, t, rfl, ⟨ha, hc, ht⟩, ?_⟩
  rw [if_neg (by omega), if_pos (by omega)]
  exact h
theorem y_gfr (hT : ytab k pc = some (37, A, B, nx, r1, r2, r3)) {ts : List Int} (hc : ycell a.toNat = some (r1, 0, ts)) (ha : 0 ≤ a) (ht : ts[r2]? = some t) (htt : 0 ≤ t) (h : YW g k nx L ((2, t) :: S) σ P) : YW g k pc L ((2, a) :: S) σ P := by
  refine y_step hT rfl ⟨a, S, ts, t, rfl, ⟨ha, hc, ht⟩, ?_⟩
  rw [if_neg (by omega), if_neg (by omega)]
  exact h
theorem y_gfj (hT : ytab k pc = some (37, A, B, nx, r1, r2, r3)) {ts : List Int} (hc : ycell a.toNat = some (r1, 0, ts)) (ha : 0 ≤ a) (ht : ts[r2]? = some t) (htt : t = -3) (hj : ((r2 : Nat) : Int) = j) (hv : σ a j = v) (h : YW g k nx L ((1, v) :: S) σ P) : YW g k pc L ((2, a) :: S) σ P := by
  subst hj hv
  refine y_step hT rfl ⟨a, S, ts, t, rfl, ⟨ha, hc, ht⟩, ?_⟩
  rw [if_pos htt]
  exact h
theorem y_pfi (hT : ytab k pc = some (38, A, B, nx, r1, r2, r3)) {ts : List Int} (hc : ycell a.toNat = some (r1, 0, ts)) (ha : 0 ≤ a) (ht : ts[r2]? = some t) (htt : t = -1) (hk : xqkind r1 r2 = 0) (hf : (((xqcls[r1]?).getD (RX0, TX0, 9)).2.1 r2).2.2.2 = false) (hj : ((r2 : Nat) : Int) = j) (h : YW g k nx L S (yset σ a j v) P) : YW g k pc L ((0, v) :: (2, a) :: S) σ P := by
  subst hj
  exact y_step hT rfl ⟨0, v, a, S, ts, t, rfl, ⟨ha, hc, ht⟩, Or.inl ⟨hk, htt, rfl⟩, hf, h⟩
theorem y_pfz (hT : ytab k pc = some (38, A, B, nx, r1, r2, r3)) {ts : List Int} (hc : ycell a.toNat = some (r1, 0, ts)) (ha : 0 ≤ a) (ht : ts[r2]? = some t) (htt : t = -2) (hk : xqkind r1 r2 = 1) (hf : (((xqcls[r1]?).getD (RX0, TX0, 9)).2.1 r2).2.2.2 = false) (hj : ((r2 : Nat) : Int) = j) (hv : 0 ≤ v ∧ v ≤ 1) (h : YW g k nx L S (yset σ a j v) P) : YW g k pc L ((0, v) :: (2, a) :: S) σ P := by
  subst hj
  exact y_step hT rfl ⟨0, v, a, S, ts, t, rfl, ⟨ha, hc, ht⟩, Or.inr (Or.inl ⟨hk, htt, rfl, hv⟩), hf, h⟩
theorem y_pfj (hT : ytab k pc = some (38, A, B, nx, r1, r2, r3)) {ts : List Int} (hc : ycell a.toNat = some (r1, 0, ts)) (ha : 0 ≤ a) (ht : ts[r2]? = some t) (htt : t = -3) (hk : xqkind r1 r2 = 3) (hf : (((xqcls[r1]?).getD (RX0, TX0, 9)).2.1 r2).2.2.2 = false) (hj : ((r2 : Nat) : Int) = j) (h : YW g k nx L S (yset σ a j v) P) : YW g k pc L ((1, v) :: (2, a) :: S) σ P := by
  subst hj
  exact y_step hT rfl ⟨1, v, a, S, ts, t, rfl, ⟨ha, hc, ht⟩, Or.inr (Or.inr ⟨hk, htt, rfl⟩), hf, h⟩
theorem y_gets1 (hT : ytab k pc = some (39, A, B, nx, r1, r2, r3)) (h : YW g k nx L ((3, 1) :: S) σ P) : YW g k pc L S σ P := y_step hT rfl h
theorem y_gets2 (hT : ytab k pc = some (60, A, B, nx, r1, r2, r3)) (h : YW g k nx L ((3, 2) :: S) σ P) : YW g k pc L S σ P := y_step hT rfl h
theorem y_gets3 (hT : ytab k pc = some (61, A, B, nx, r1, r2, r3)) (h : YW g k nx L ((3, 3) :: S) σ P) : YW g k pc L S σ P := y_step hT rfl h
theorem y_iald (hT : ytab k pc = some (40, A, B, nx, r1, r2, r3)) {len : Nat} (hc : ycell a.toNat = some (10, len, [])) (ha : 0 ≤ a) (hn : ((len : Nat) : Int) = n) (hi : 0 ≤ i ∧ i < n) (hv : σ a i = v) (h : YW g k nx L ((0, v) :: S) σ P) : YW g k pc L ((0, i) :: (2, a) :: S) σ P := by
  subst hn hv
  exact y_step hT rfl (Or.inl ⟨i, a, S, len, rfl, ⟨ha, hc⟩, hi, h⟩)
theorem y_iald0 (hT : ytab k pc = some (40, A, B, nx, r1, r2, r3)) (hi : 0 ≤ i ∧ i < g.2.1.2.2 5) (h : YW g k nx L ((0, g.2.1.2.2 (6 + i.toNat)) :: S) σ P) : YW g k pc L ((0, i) :: (3, 0) :: S) σ P := y_step hT rfl (Or.inr (Or.inl ⟨i, S, rfl, hi, h⟩))
theorem y_iald1 (hT : ytab k pc = some (40, A, B, nx, r1, r2, r3)) (hi : 0 ≤ i ∧ i < 18) (h : YW g k nx L ((0, yord i) :: S) σ P) : YW g k pc L ((0, i) :: (3, 1) :: S) σ P := y_step hT rfl (Or.inr (Or.inr (Or.inl ⟨i, S, rfl, hi, h⟩)))
theorem y_iald2 (hT : ytab k pc = some (40, A, B, nx, r1, r2, r3)) (hi : 0 ≤ i ∧ i < 6) (h : YW g k nx L ((0, yfet i) :: S) σ P) : YW g k pc L ((0, i) :: (3, 2) :: S) σ P := y_step hT rfl (Or.inr (Or.inr (Or.inr (Or.inl ⟨i, S, rfl, hi, h⟩))))
theorem y_iald3 (hT : ytab k pc = some (40, A, B, nx, r1, r2, r3)) (hi : 0 ≤ i ∧ i < 6) (h : YW g k nx L ((0, ylam i) :: S) σ P) : YW g k pc L ((0, i) :: (3, 3) :: S) σ P := y_step hT rfl (Or.inr (Or.inr (Or.inr (Or.inr ⟨i, S, rfl, hi, h⟩))))
theorem y_bald (hT : ytab k pc = some (41, A, B, nx, r1, r2, r3)) {len : Nat} (hc : ycell a.toNat = some (11, len, [])) (ha : 0 ≤ a) (hn : ((len : Nat) : Int) = n) (hi : 0 ≤ i ∧ i < n) (hv : σ a i = v) (h : YW g k nx L ((0, v) :: S) σ P) : YW g k pc L ((0, i) :: (2, a) :: S) σ P := by
  subst hn hv
  exact y_step hT rfl ⟨i, a, S, len, rfl, ⟨ha, hc⟩, hi, h⟩
theorem y_aald {ty : Nat} (hT : ytab k pc = some (42, A, B, nx, r1, r2, r3)) {len : Nat} (hc : ycell a.toNat = some (12 + ty, len, [b, w])) (ha : 0 ≤ a) (hn : ((len : Nat) : Int) = n) (hi : 0 ≤ i ∧ i < n) (hv : b + w * i = v) (h : YW g k nx L ((2, v) :: S) σ P) : YW g k pc L ((0, i) :: (2, a) :: S) σ P := by
  subst hn hv
  exact y_step hT rfl ⟨i, a, S, ty, len, b, w, rfl, ⟨ha, hc⟩, hi, h⟩
theorem y_iast (hT : ytab k pc = some (43, A, B, nx, r1, r2, r3)) {len : Nat} (hc : ycell a.toNat = some (10, len, [])) (ha : 0 ≤ a) (hn : ((len : Nat) : Int) = n) (hi : 0 ≤ i ∧ i < n) (h : YW g k nx L S (yset σ a i v) P) : YW g k pc L ((0, v) :: (0, i) :: (2, a) :: S) σ P := by
  subst hn
  exact y_step hT rfl ⟨v, i, a, S, len, rfl, ⟨ha, hc⟩, hi, h⟩
theorem y_bast (hT : ytab k pc = some (44, A, B, nx, r1, r2, r3)) {len : Nat} (hc : ycell a.toNat = some (11, len, [])) (ha : 0 ≤ a) (hn : ((len : Nat) : Int) = n) (hi : 0 ≤ i ∧ i < n) (hv : 0 ≤ v ∧ v ≤ 1) (h : YW g k nx L S (yset σ a i v) P) : YW g k pc L ((0, v) :: (0, i) :: (2, a) :: S) σ P := by
  subst hn
  exact y_step hT rfl ⟨v, i, a, S, len, rfl, ⟨ha, hc⟩, hi, hv, h⟩
theorem y_alen (hT : ytab k pc = some (46, A, B, nx, r1, r2, r3)) (h : YW g k nx L ((0, g.2.1.2.2 5) :: S) σ P) : YW g k pc L ((3, 0) :: S) σ P := y_step hT rfl ⟨S, rfl, h⟩
theorem y_ldcs {q : Int} (hT : ytab k pc = some (62, A, B, nx, r1, r2, r3)) (hq : 10 + ((A : Nat) : Int) = q) (h : YW g k nx L ((3, q) :: S) σ P) : YW g k pc L S σ P := by
  subst hq
  exact y_step hT rfl h
theorem y_slen {li : Nat} {q : Int} (hT : ytab k pc = some (63, A, B, nx, r1, r2, r3)) (hq : 10 + ((li : Nat) : Int) = q) (hli : li < 5) (hcat : Nat.ble (xcat (yxs S)) 8 = true) (hv : ((jlen.getD li 0 : Nat) : Int) = v) (h : YW g k nx L ((0, v) :: S) σ P) : YW g k pc L ((3, q) :: S) σ P := by
  subst hq hv
  exact y_step hT rfl ⟨li, S, rfl, hli, Nat.ble_eq.mp hcat, h⟩
theorem y_schar {li : Nat} {q : Int} (hT : ytab k pc = some (64, A, B, nx, r1, r2, r3)) (hq : 10 + ((li : Nat) : Int) = q) (hli : li < 5) (hcat : Nat.ble (xcat (yxs S)) 8 = true) (hi : 0 ≤ i ∧ i < ((jlen.getD li 0 : Nat) : Int)) (hv : ychr li i.toNat = v) (h : YW g k nx L ((0, v) :: S) σ P) : YW g k pc L ((0, i) :: (3, q) :: S) σ P := by
  subst hq hv
  exact y_step hT rfl ⟨li, i.toNat, S, by rw [show ((i.toNat : Nat) : Int) = i by omega], hli, by omega, Nat.ble_eq.mp hcat, h⟩
theorem y_sidx {li : Nat} {q : Int} (hT : ytab k pc = some (65, A, B, nx, r1, r2, r3)) (hq : 10 + ((li : Nat) : Int) = q) (hli : li < 5) (hcat : Nat.ble (xcat (yxs S)) 8 = true) (ha : 0 ≤ a ∧ a ≤ 255) (hv : ysix li a = v) (h : YW g k nx L ((0, v) :: S) σ P) : YW g k pc L ((0, a) :: (3, q) :: S) σ P := by
  subst hq hv
  exact y_step hT rfl ⟨li, a, S, rfl, hli, ha, Nat.ble_eq.mp hcat, h⟩
theorem y_min (hT : ytab k pc = some (49, A, B, nx, 1001, r2, r3)) (hcat : Nat.ble (xcat (yxs S)) 8 = true) (hv : min a b = v) (h : YW g k nx L ((0, v) :: S) σ P) : YW g k pc L ((0, b) :: (0, a) :: S) σ P := by
  subst hv
  exact y_step hT rfl (Or.inl ⟨rfl, a, b, S, rfl, Nat.ble_eq.mp hcat, h⟩)
theorem y_acopy {sp dp c : Int} {len len' : Nat} (hT : ytab k pc = some (49, A, B, nx, 1002, r2, r3)) (hca : ycell a.toNat = some (10, len, [])) (hcc : ycell c.toNat = some (10, len', [])) (ha : 0 ≤ a ∧ 0 ≤ c) (hn1 : ((len : Nat) : Int) = v) (hn2 : ((len' : Nat) : Int) = w) (hr : 0 ≤ sp ∧ 0 ≤ dp ∧ 0 ≤ n ∧ sp + n ≤ v ∧ dp + n ≤ w) (hcat : Nat.ble (xcat (yxs S)) 8 = true) (h : YW g k nx L S (ycopy σ a sp c dp n) P) : YW g k pc L ((0, n) :: (0, dp) :: (2, c) :: (0, sp) :: (2, a) :: S) σ P := by
  subst hn1 hn2
  exact y_step hT rfl (Or.inr (Or.inl ⟨rfl, a, c, sp, dp, n, S, len, len', rfl, ⟨ha.1, hca⟩, ⟨ha.2, hcc⟩, hr, Nat.ble_eq.mp hcat, h⟩))
theorem y_vi {as as' Z : List YV} {Q : Int → YS → Prop} {ts : List Int} (hT : ytab k pc = some (48, A, B, nx, r1, r2, r3)) (hl : as.length = r2) (hS : Z = as.reverse ++ S) (hcat : Nat.ble (xcat (yxs S)) 8 = true) (hdep : Nat.blt (ydep r1) (ydep k) = true) (hr : as = (2, a) :: as') (ha : 0 ≤ a) (hc : ycell a.toNat = some (r3 - 1, 0, ts)) (hM : YI g r1 as σ Q) (h : ∀ b σ', Q b σ' → YW g k nx L ((0, b) :: S) σ' P) : YW g k pc L Z σ P := by
  subst hS
  exact y_step hT rfl ⟨as, S, _, rfl, hl, Nat.ble_eq.mp hcat, ⟨a, as', ts, hr, ha, hc⟩, ⟨Nat.blt_eq.mp hdep, hM⟩, fun r σ' z => by
    obtain ⟨b, rfl, z⟩ := z
    exact h b σ' z⟩
theorem y_si {as Z : List YV} {Q : Int → YS → Prop} (hT : ytab k pc = some (49, A, B, nx, r1, r2, r3)) (hl : as.length = r2) (hS : Z = as.reverse ++ S) (hcat : Nat.ble (xcat (yxs S)) 8 = true) (hdep : Nat.blt (ydep r1) (ydep k) = true) (hlt : Nat.blt r1 163 = true) (hM : YI g r1 as σ Q) (h : ∀ b σ', Q b σ' → YW g k nx L ((0, b) :: S) σ' P) : YW g k pc L Z σ P := by
  subst hS
  exact y_step hT rfl (Or.inr (Or.inr ⟨Nat.blt_eq.mp hlt, as, S, _, rfl, hl, Nat.ble_eq.mp hcat, ⟨Nat.blt_eq.mp hdep, hM⟩, fun r σ' z => by
    obtain ⟨b, rfl, z⟩ := z
    exact h b σ' z⟩))
theorem y_ni {as Z : List YV} {Q : Int → YS → Prop} (hT : ytab k pc = some (66, A, B, nx, r1, r2, r3)) (hl : as.length = r2) (hS : Z = as.reverse ++ S) (hcat : Nat.ble (xcat (yxs S)) 8 = true) (hdep : Nat.blt (ydep r1) (ydep k) = true) (hM : YI g r1 as σ Q) (h : ∀ b σ', Q b σ' → YW g k nx L ((0, b) :: S) σ' P) : YW g k pc L Z σ P := by
  subst hS
  exact y_step hT rfl ⟨as, S, _, rfl, hl, Nat.ble_eq.mp hcat, ⟨Nat.blt_eq.mp hdep, hM⟩, fun r σ' z => by
    obtain ⟨b, rfl, z⟩ := z
    exact h b σ' z⟩
theorem y_vj {as as' Z : List YV} {Q : Int → YS → Prop} {ts : List Int} (hT : ytab k pc = some (48, A, B, nx, r1, r2, r3)) (hl : as.length = r2) (hS : Z = as.reverse ++ S) (hcat : Nat.ble (xcat (yxs S)) 8 = true) (hdep : Nat.blt (ydep r1) (ydep k) = true) (hr : as = (2, a) :: as') (ha : 0 ≤ a) (hc : ycell a.toNat = some (r3 - 1, 0, ts)) (hM : YJ g r1 as σ Q) (h : ∀ b σ', Q b σ' → YW g k nx L ((1, b) :: S) σ' P) : YW g k pc L Z σ P := by
  subst hS
  exact y_step hT rfl ⟨as, S, _, rfl, hl, Nat.ble_eq.mp hcat, ⟨a, as', ts, hr, ha, hc⟩, ⟨Nat.blt_eq.mp hdep, hM⟩, fun r σ' z => by
    obtain ⟨b, rfl, z⟩ := z
    exact h b σ' z⟩
theorem y_sj {as Z : List YV} {Q : Int → YS → Prop} (hT : ytab k pc = some (49, A, B, nx, r1, r2, r3)) (hl : as.length = r2) (hS : Z = as.reverse ++ S) (hcat : Nat.ble (xcat (yxs S)) 8 = true) (hdep : Nat.blt (ydep r1) (ydep k) = true) (hlt : Nat.blt r1 163 = true) (hM : YJ g r1 as σ Q) (h : ∀ b σ', Q b σ' → YW g k nx L ((1, b) :: S) σ' P) : YW g k pc L Z σ P := by
  subst hS
  exact y_step hT rfl (Or.inr (Or.inr ⟨Nat.blt_eq.mp hlt, as, S, _, rfl, hl, Nat.ble_eq.mp hcat, ⟨Nat.blt_eq.mp hdep, hM⟩, fun r σ' z => by
    obtain ⟨b, rfl, z⟩ := z
    exact h b σ' z⟩))
theorem y_nj {as Z : List YV} {Q : Int → YS → Prop} (hT : ytab k pc = some (66, A, B, nx, r1, r2, r3)) (hl : as.length = r2) (hS : Z = as.reverse ++ S) (hcat : Nat.ble (xcat (yxs S)) 8 = true) (hdep : Nat.blt (ydep r1) (ydep k) = true) (hM : YJ g r1 as σ Q) (h : ∀ b σ', Q b σ' → YW g k nx L ((1, b) :: S) σ' P) : YW g k pc L Z σ P := by
  subst hS
  exact y_step hT rfl ⟨as, S, _, rfl, hl, Nat.ble_eq.mp hcat, ⟨Nat.blt_eq.mp hdep, hM⟩, fun r σ' z => by
    obtain ⟨b, rfl, z⟩ := z
    exact h b σ' z⟩
theorem y_vu {as as' Z : List YV} {Q : YS → Prop} {ts : List Int} (hT : ytab k pc = some (48, A, B, nx, r1, r2, r3)) (hl : as.length = r2) (hS : Z = as.reverse ++ S) (hcat : Nat.ble (xcat (yxs S)) 8 = true) (hdep : Nat.blt (ydep r1) (ydep k) = true) (hr : as = (2, a) :: as') (ha : 0 ≤ a) (hc : ycell a.toNat = some (r3 - 1, 0, ts)) (hM : YU g r1 as σ Q) (h : ∀ σ', Q σ' → YW g k nx L S σ' P) : YW g k pc L Z σ P := by
  subst hS
  exact y_step hT rfl ⟨as, S, _, rfl, hl, Nat.ble_eq.mp hcat, ⟨a, as', ts, hr, ha, hc⟩, ⟨Nat.blt_eq.mp hdep, hM⟩, fun r σ' z => by
    obtain ⟨rfl, z⟩ := z
    exact h σ' z⟩
theorem y_su {as Z : List YV} {Q : YS → Prop} (hT : ytab k pc = some (49, A, B, nx, r1, r2, r3)) (hl : as.length = r2) (hS : Z = as.reverse ++ S) (hcat : Nat.ble (xcat (yxs S)) 8 = true) (hdep : Nat.blt (ydep r1) (ydep k) = true) (hlt : Nat.blt r1 163 = true) (hM : YU g r1 as σ Q) (h : ∀ σ', Q σ' → YW g k nx L S σ' P) : YW g k pc L Z σ P := by
  subst hS
  exact y_step hT rfl (Or.inr (Or.inr ⟨Nat.blt_eq.mp hlt, as, S, _, rfl, hl, Nat.ble_eq.mp hcat, ⟨Nat.blt_eq.mp hdep, hM⟩, fun r σ' z => by
    obtain ⟨rfl, z⟩ := z
    exact h σ' z⟩))
theorem y_nu {as Z : List YV} {Q : YS → Prop} (hT : ytab k pc = some (66, A, B, nx, r1, r2, r3)) (hl : as.length = r2) (hS : Z = as.reverse ++ S) (hcat : Nat.ble (xcat (yxs S)) 8 = true) (hdep : Nat.blt (ydep r1) (ydep k) = true) (hM : YU g r1 as σ Q) (h : ∀ σ', Q σ' → YW g k nx L S σ' P) : YW g k pc L Z σ P := by
  subst hS
  exact y_step hT rfl ⟨as, S, _, rfl, hl, Nat.ble_eq.mp hcat, ⟨Nat.blt_eq.mp hdep, hM⟩, fun r σ' z => by
    obtain ⟨rfl, z⟩ := z
    exact h σ' z⟩
theorem y_iret (hT : ytab k pc = some (50, A, B, nx, r1, r2, r3)) (hrt : xqrt k = 1) (h : P (some (0, v)) σ) : YW g k pc L [(0, v)] σ P := y_step hT rfl ⟨v, rfl, Or.inl hrt, h⟩
theorem y_zret (hT : ytab k pc = some (50, A, B, nx, r1, r2, r3)) (hrt : xqrt k = 2) (hv : 0 ≤ v ∧ v ≤ 1) (h : P (some (0, v)) σ) : YW g k pc L [(0, v)] σ P := y_step hT rfl ⟨v, rfl, Or.inr ⟨hrt, hv⟩, h⟩
theorem y_jret (hT : ytab k pc = some (51, A, B, nx, r1, r2, r3)) (hrt : xqrt k = 3) (h : P (some (1, v)) σ) : YW g k pc L [(1, v)] σ P := y_step hT rfl ⟨v, rfl, hrt, h⟩
theorem y_ret (hT : ytab k pc = some (52, A, B, nx, r1, r2, r3)) (hrt : xqrt k = 0) (h : P none σ) : YW g k pc L [] σ P := y_step hT rfl ⟨rfl, hrt, h⟩
end YQ5
