/-- from this place of the law it comes to its end, with true (the two dummies stand as the method and its post do elsewhere) -/
def LV (g : Launch × XG × va_G) (_k : Nat) (pc : Nat) (L : YL) (S : List YV) (σ : YS) (_P : Option YV → YS → Prop) : Prop :=
  ∀ (p : Program) (e : Env) (s : State) (m : MethodId) (below : List Frame) (meth : Method) (c : Code) (b n : Nat) (xs : Nat → Int32), lw_At p s m meth c b n xs → g.2.1.1 = s.heap.size → YGl g.2.1 g.2.2 s → YWin p g.1 e room_1 s m #[Value.ref b] below meth c (lw_Z below #[Value.ref b] s) g.2.1 g.2.2 4 566 23882 pc L S σ
noncomputable def ltab (_k pc : Nat) : Option XI := xtab xqTL pc
def ldep (_k : Nat) : Nat := 11
theorem lq_step {g : Launch × XG × va_G} {k pc op A nx r1 r2 r3 : Nat} {B : Int} {L : YL} {S : List YV} {σ : YS} {P : Option YV → YS → Prop} (hT : ltab k pc = some (op, A, B, nx, r1, r2, r3)) (hne : Nat.beq op 99 = false)
    (h : ydisp g.2.1.2.2 (fun pc L S σ => LV g k pc L S σ P) (fun k' as σ P' => ydep k' < ldep k ∧ YM (g.1, g.2.1, g.2.2) k' as σ P') (fun r _ => r = some (0, 1)) 2 op A B nx r1 r2 r3 pc L S σ) : LV g k pc L S σ P := by
  have hp := xqtkL hT
  unfold xqokP at hp
  dsimp only at hp
  rw [hne, cond_false] at hp
  split at hp
  rotate_left
  · cases hp
  rename_i ins len hdec
  intro p e s m below meth c b n xs C0 hG GL
  have C1 := C0
  obtain ⟨hx, hb, hr, hml, hown, hts0, hX, hbl, hlocks, hgv⟩ := C0
  have hown2 : s.vm.findClass "ClaySlipsLaw" = some m.cls := hown
  have hts : ∀ w ∈ xqgw, w.before #[Value.ref b] s = true := fun w hw => hts0 w (List.mem_filter.mp hw).1
  refine ys_disp (R := room_1) (d := 11) (rt := 2) (Rt := fun r _ => r = some (0, 1)) (K := fun pc L S σ => LV g k pc L S σ P) hx hb hml hown2 hts GL (by decide) (by decide) (by decide) (by decide) (fun j hj hjd => ⟨?_, ?_⟩) ?_ ?_ ?_ (fun pc L S σ h => h p e s m below meth c b n xs C1 hG GL) hdec hp h
  · show ydep j + 1 ≤ 15
    omega
  · have := (xqcall_ok hj).2.2.2.2
    show 8 + (xqmll j + 11) + 36 * ydep j ≤ 584
    omega
  · intro v σ' hrt hP pc2 ls2 i H locs hd2 hi hW hl hf
    have hv : v = 1 := by
      have hP : some ((0 : Nat), v) = some (0, 1) := hP
      cases hP
      rfl
    have hone : i = 1 := by
      have e9 : (1 : Int32).toInt = 1 := rfl
      exact Int32.toInt_inj.mp (by omega)
    subst hone
    refine va_forget (fun q hq => by rw [← hG]; exact hl q hq) ?_
    refine W.widen (show 566 ≤ 600000 by decide) (show 23882 ≤ 7302250 by decide) ?_
    exact lw_ret hx hb hr hlocks hd2
  · intro v σ' hrt
    exact absurd hrt (by decide)
  · intro σ' hrt
    exact absurd hrt (by decide)
section LQ5
variable {g : Launch × XG × va_G} {k pc nx A r1 r2 r3 : Nat} {B : Int} {L L' : YL} {S : List YV} {σ : YS} {P : Option YV → YS → Prop} {a b v w i j n t : Int}
theorem lq_push (hT : ltab k pc = some (0, A, B, nx, r1, r2, r3)) (h : LV g k nx L ((0, B) :: S) σ P) (hB : yrg B := by decide) : LV g k pc L S σ P := lq_step hT rfl ⟨hB, h⟩
theorem lq_lconst (hT : ltab k pc = some (1, A, B, nx, r1, r2, r3)) (hv : ((A : Nat) : Int) = v) (h : LV g k nx L ((1, v) :: S) σ P) : LV g k pc L S σ P := by
  subst hv
  exact lq_step hT rfl h
theorem lq_ldc2 (hT : ltab k pc = some (2, A, B, nx, r1, r2, r3)) (hv : ((r1 : Nat) : Int) = v) (h : LV g k nx L ((1, v) :: S) σ P) : LV g k pc L S σ P := by
  subst hv
  exact lq_step hT rfl h
theorem lq_iload (hT : ltab k pc = some (3, A, B, nx, r1, r2, r3)) (hL : L[A]? = some (some (0, v))) (h : LV g k nx L ((0, v) :: S) σ P) : LV g k pc L S σ P := lq_step hT rfl ⟨v, hL, h⟩
theorem lq_aload {ta : Nat} (hT : ltab k pc = some (4, A, B, nx, r1, r2, r3)) (hL : L[A]? = some (some (ta, v))) (ht : Nat.ble 2 ta = true) (h : LV g k nx L ((ta, v) :: S) σ P) : LV g k pc L S σ P := lq_step hT rfl ⟨ta, v, Nat.ble_eq.mp ht, hL, h⟩
theorem lq_lload (hT : ltab k pc = some (5, A, B, nx, r1, r2, r3)) (hL : L[A]? = some (some (1, v))) (h : LV g k nx L ((1, v) :: S) σ P) : LV g k pc L S σ P := lq_step hT rfl ⟨v, hL, h⟩
theorem lq_istore (hT : ltab k pc = some (6, A, B, nx, r1, r2, r3)) (hc : yclr L A = true) (hA : Nat.blt A L.length = true) (hL : L.set A (some (0, v)) = L') (h : LV g k nx L' S σ P) : LV g k pc L ((0, v) :: S) σ P := by
  subst hL
  exact lq_step hT rfl ⟨v, S, rfl, ⟨hc, Nat.blt_eq.mp hA⟩, h⟩
theorem lq_astore {ta : Nat} (hT : ltab k pc = some (7, A, B, nx, r1, r2, r3)) (hc : yclr L A = true) (hA : Nat.blt A L.length = true) (ht : Nat.ble 2 ta = true) (hL : L.set A (some (ta, v)) = L') (h : LV g k nx L' S σ P) : LV g k pc L ((ta, v) :: S) σ P := by
  subst hL
  exact lq_step hT rfl ⟨ta, v, S, Nat.ble_eq.mp ht, rfl, ⟨hc, Nat.blt_eq.mp hA⟩, h⟩
theorem lq_iinc (hT : ltab k pc = some (9, A, B, nx, r1, r2, r3)) (hL0 : L[A]? = some (some (0, v))) (hc : yclr L A = true) (hA : Nat.blt A L.length = true) (hL : L.set A (some (0, v + B)) = L') (hr : yrg (v + B)) (h : LV g k nx L' S σ P) (hB : yrg B := by decide) : LV g k pc L S σ P := by
  subst hL
  exact lq_step hT rfl ⟨v, hL0, ⟨hB, hc, Nat.blt_eq.mp hA⟩, hr, h⟩
theorem lq_iadd (hT : ltab k pc = some (10, A, B, nx, r1, r2, r3)) (hv : a + b = v) (hr : yrg v) (h : LV g k nx L ((0, v) :: S) σ P) : LV g k pc L ((0, b) :: (0, a) :: S) σ P := by
  subst hv
  exact lq_step hT rfl ⟨a, b, S, rfl, hr, h⟩
theorem lq_isub (hT : ltab k pc = some (11, A, B, nx, r1, r2, r3)) (hv : a - b = v) (hr : yrg v) (h : LV g k nx L ((0, v) :: S) σ P) : LV g k pc L ((0, b) :: (0, a) :: S) σ P := by
  subst hv
  exact lq_step hT rfl ⟨a, b, S, rfl, hr, h⟩
theorem lq_iand (hT : ltab k pc = some (15, A, B, nx, r1, r2, r3)) (hv : yand a b = v) (h : LV g k nx L ((0, v) :: S) σ P) : LV g k pc L ((0, b) :: (0, a) :: S) σ P := by
  subst hv
  exact lq_step hT rfl ⟨a, b, S, rfl, h⟩
theorem lq_land (hT : ltab k pc = some (20, A, B, nx, r1, r2, r3)) (hv : yland a b = v) (h : LV g k nx L ((1, v) :: S) σ P) : LV g k pc L ((1, b) :: (1, a) :: S) σ P := by
  subst hv
  exact lq_step hT rfl ⟨a, b, S, rfl, h⟩
theorem lq_lor (hT : ltab k pc = some (21, A, B, nx, r1, r2, r3)) (hv : ylor a b = v) (h : LV g k nx L ((1, v) :: S) σ P) : LV g k pc L ((1, b) :: (1, a) :: S) σ P := by
  subst hv
  exact lq_step hT rfl ⟨a, b, S, rfl, h⟩
theorem lq_lshl (hT : ltab k pc = some (22, A, B, nx, r1, r2, r3)) (hv : ylshl a b = v) (h : LV g k nx L ((1, v) :: S) σ P) : LV g k pc L ((0, b) :: (1, a) :: S) σ P := by
  subst hv
  exact lq_step hT rfl ⟨a, b, S, rfl, h⟩
theorem lq_i2l (hT : ltab k pc = some (16, A, B, nx, r1, r2, r3)) (h : LV g k nx L ((1, a) :: S) σ P) : LV g k pc L ((0, a) :: S) σ P := lq_step hT rfl ⟨a, S, rfl, h⟩
theorem lq_pop {ta : Nat} (hT : ltab k pc = some (27, A, B, nx, r1, r2, r3)) (ht : Nat.beq ta 1 = false) (h : LV g k nx L S σ P) : LV g k pc L ((ta, v) :: S) σ P := lq_step hT rfl ⟨ta, v, S, rfl, Nat.ne_of_beq_eq_false ht, h⟩
theorem lq_pop2 (hT : ltab k pc = some (58, A, B, nx, r1, r2, r3)) (h : LV g k nx L S σ P) : LV g k pc L ((1, v) :: S) σ P := lq_step hT rfl ⟨v, S, rfl, h⟩
theorem lq_goto (hT : ltab k pc = some (28, A, B, nx, r1, r2, r3)) (h : LV g k r1 L S σ P) : LV g k pc L S σ P := lq_step hT rfl h
theorem lq_iceq (hT : ltab k pc = some (30, 0, B, nx, r1, r2, r3)) (ht : a = b → LV g k r1 L S σ P) (hn : a ≠ b → LV g k nx L S σ P) : LV g k pc L ((0, b) :: (0, a) :: S) σ P := lq_step hT rfl ⟨a, b, S, rfl, fun z => ht (z), fun z => hn (z)⟩
theorem lq_icne (hT : ltab k pc = some (30, 1, B, nx, r1, r2, r3)) (ht : a ≠ b → LV g k r1 L S σ P) (hn : a = b → LV g k nx L S σ P) : LV g k pc L ((0, b) :: (0, a) :: S) σ P := lq_step hT rfl ⟨a, b, S, rfl, fun z => ht (z), fun z => hn (Decidable.not_not.mp z)⟩
theorem lq_icgt (hT : ltab k pc = some (30, 4, B, nx, r1, r2, r3)) (ht : b < a → LV g k r1 L S σ P) (hn : a ≤ b → LV g k nx L S σ P) : LV g k pc L ((0, b) :: (0, a) :: S) σ P := lq_step hT rfl ⟨a, b, S, rfl, fun z => ht (z), fun z => hn (Int.not_lt.mp z)⟩
theorem lq_icge (hT : ltab k pc = some (30, 3, B, nx, r1, r2, r3)) (ht : b ≤ a → LV g k r1 L S σ P) (hn : a < b → LV g k nx L S σ P) : LV g k pc L ((0, b) :: (0, a) :: S) σ P := lq_step hT rfl ⟨a, b, S, rfl, fun z => ht (z), fun z => hn (Int.not_le.mp z)⟩
theorem lq_iclt (hT : ltab k pc = some (30, 2, B, nx, r1, r2, r3)) (ht : a < b → LV g k r1 L S σ P) (hn : b ≤ a → LV g k nx L S σ P) : LV g k pc L ((0, b) :: (0, a) :: S) σ P := lq_step hT rfl ⟨a, b, S, rfl, fun z => ht (z), fun z => hn (Int.not_lt.mp z)⟩
theorem lq_icle (hT : ltab k pc = some (30, 5, B, nx, r1, r2, r3)) (ht : a ≤ b → LV g k r1 L S σ P) (hn : b < a → LV g k nx L S σ P) : LV g k pc L ((0, b) :: (0, a) :: S) σ P := lq_step hT rfl ⟨a, b, S, rfl, fun z => ht (z), fun z => hn (Int.not_le.mp z)⟩
theorem lq_ifeq (hT : ltab k pc = some (29, 0, B, nx, r1, r2, r3)) (ht : a = 0 → LV g k r1 L S σ P) (hn : a ≠ 0 → LV g k nx L S σ P) : LV g k pc L ((0, a) :: S) σ P := lq_step hT rfl ⟨a, S, rfl, fun z => ht (z), fun z => hn (z)⟩
theorem lq_ifne (hT : ltab k pc = some (29, 1, B, nx, r1, r2, r3)) (ht : a ≠ 0 → LV g k r1 L S σ P) (hn : a = 0 → LV g k nx L S σ P) : LV g k pc L ((0, a) :: S) σ P := lq_step hT rfl ⟨a, S, rfl, fun z => ht (z), fun z => hn (Decidable.not_not.mp z)⟩
theorem lq_iald0 (hT : ltab k pc = some (40, A, B, nx, r1, r2, r3)) (hi : 0 ≤ i ∧ i < g.2.1.2.2 5) (h : LV g k nx L ((0, g.2.1.2.2 (6 + i.toNat)) :: S) σ P) : LV g k pc L ((0, i) :: (3, 0) :: S) σ P := lq_step hT rfl (Or.inr (Or.inl ⟨i, S, rfl, hi, h⟩))
theorem lq_alen (hT : ltab k pc = some (46, A, B, nx, r1, r2, r3)) (h : LV g k nx L ((0, g.2.1.2.2 5) :: S) σ P) : LV g k pc L ((3, 0) :: S) σ P := lq_step hT rfl ⟨S, rfl, h⟩
theorem lq_vi {as as' Z : List YV} {Q : Int → YS → Prop} {ts : List Int} (hT : ltab k pc = some (48, A, B, nx, r1, r2, r3)) (hl : as.length = r2) (hS : Z = as.reverse ++ S) (hcat : Nat.ble (xcat (yxs S)) 8 = true) (hdep : Nat.blt (ydep r1) (ldep k) = true) (hr : as = (2, a) :: as') (ha : 0 ≤ a) (hc : ycell a.toNat = some (r3 - 1, 0, ts)) (hM : YI g r1 as σ Q) (h : ∀ b σ', Q b σ' → LV g k nx L ((0, b) :: S) σ' P) : LV g k pc L Z σ P := by
  subst hS
  exact lq_step hT rfl ⟨as, S, _, rfl, hl, Nat.ble_eq.mp hcat, ⟨a, as', ts, hr, ha, hc⟩, ⟨Nat.blt_eq.mp hdep, hM⟩, fun r σ' z => by
    obtain ⟨b, rfl, z⟩ := z
    exact h b σ' z⟩
theorem lq_vj {as as' Z : List YV} {Q : Int → YS → Prop} {ts : List Int} (hT : ltab k pc = some (48, A, B, nx, r1, r2, r3)) (hl : as.length = r2) (hS : Z = as.reverse ++ S) (hcat : Nat.ble (xcat (yxs S)) 8 = true) (hdep : Nat.blt (ydep r1) (ldep k) = true) (hr : as = (2, a) :: as') (ha : 0 ≤ a) (hc : ycell a.toNat = some (r3 - 1, 0, ts)) (hM : YJ g r1 as σ Q) (h : ∀ b σ', Q b σ' → LV g k nx L ((1, b) :: S) σ' P) : LV g k pc L Z σ P := by
  subst hS
  exact lq_step hT rfl ⟨as, S, _, rfl, hl, Nat.ble_eq.mp hcat, ⟨a, as', ts, hr, ha, hc⟩, ⟨Nat.blt_eq.mp hdep, hM⟩, fun r σ' z => by
    obtain ⟨b, rfl, z⟩ := z
    exact h b σ' z⟩
theorem lq_lcmp (hT : ltab k pc = some (24, A, B, nx, r1, r2, r3)) (hv : (if b < a then 1 else if a = b then 0 else -1 : Int) = v) (h : LV g k nx L ((0, v) :: S) σ P) : LV g k pc L ((1, b) :: (1, a) :: S) σ P := by
  subst hv
  exact lq_step hT rfl ⟨a, b, S, rfl, h⟩
theorem lq_dup {ta : Nat} (hT : ltab k pc = some (25, A, B, nx, r1, r2, r3)) (ht : Nat.beq ta 1 = false) (h : LV g k nx L ((ta, v) :: (ta, v) :: S) σ P) : LV g k pc L ((ta, v) :: S) σ P := lq_step hT rfl ⟨ta, v, S, rfl, Nat.ne_of_beq_eq_false ht, h⟩
theorem lq_zret (hT : ltab k pc = some (50, A, B, nx, r1, r2, r3)) (hv : v = 1) : LV g k pc L [(0, v)] σ P := by
  subst hv
  exact lq_step hT rfl ⟨1, rfl, Or.inr ⟨rfl, by decide⟩, rfl⟩
theorem lq_sw {tg : List Nat} {df : Int} {offs : List Int} (hT : ltab k pc = some (31, A, B, nx, r1, r2, r3)) (hs : xqsw[r1]? = some (df, 0, 27, offs)) (hd : (pc : Int) + df = ((tg.getD 28 0 : Nat) : Int)) (ho : ∀ j : Nat, j < 28 → ∃ o : Int, offs[j]? = some o ∧ (pc : Int) + o = ((tg.getD j 0 : Nat) : Int)) (h : ∀ j : Nat, j ≤ 28 → LV g k (tg.getD j 0) L S σ P) : LV g k pc L ((0, v) :: S) σ P := by
  refine lq_step hT rfl ⟨v, S, df, 0, 27, offs, rfl, hs, fun _ => ⟨_, hd, h 28 (Nat.le_refl _)⟩, fun h1 h2 => ?_⟩
  obtain ⟨o, a, b⟩ := ho (v - 0).toNat (by omega)
  exact ⟨o, _, a, b, h _ (by omega)⟩
end LQ5
