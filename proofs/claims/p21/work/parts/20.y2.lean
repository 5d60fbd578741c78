section YQ1
variable {p : Program} {l : Launch} {e : Env} {R : Room} {s : State} {m : MethodId} {args : Array Value} {below : List Frame} {meth : Method} {c : Code} {Q : State → Prop} {G : XG} {D : va_G} {nL ce sl : Nat}
/-- from every state of the machine that these contents stand for, the machine comes to Q -/
def YWin (p : Program) (l : Launch) (e : Env) (R : Room) (s : State) (m : MethodId) (args : Array Value) (below : List Frame) (meth : Method) (c : Code) (Q : State → Prop) (G : XG) (D : va_G) (nL ce sl : Nat) (pc : Nat) (L : YL) (S : List YV) (σ : YS) : Prop :=
  ∀ (ls : Array Slot) (st : List Value) (H : Heap) (locs : List Loc), XLok G (yxl L) ls nL → XSok G (yxs S) st → YWok G D s σ H → (∀ q ∈ locs, G.1 ≤ q.base) → (∀ q : Nat, q < G.1 → H[q]? = s.heap[q]?) → W p l e R s m args below meth c H locs ce sl Q (F0 m pc ls st)
variable {cc : ByteArray} {pc : Nat} {L : YL} {S : List YV} {σ : YS} {own : String}
theorem ys_gf (hx : p.tables.exec = Jvm.exec) (hb : c.code = cc) (hown : s.vm.findClass own = some m.cls) (hts : ∀ w ∈ xqgw, w.before args s = true) (GL : XGl G D s) {r1 r2 index : Nat} {q : vw_C} (hq : xqcls[r1]? = some q) (hr2 : r2 < q.2.2) (hlink : (Cond.fieldLink own index (q.2.1 r2).1 (q.2.1 r2).2.1 (q.2.1 r2).2.2.1) ∈ xqgw) (hd : decode cc pc = .ok (.getfield index, 3)) (h10 : r1 < 10)
    {a : Int} {ts : List Int} {t : Int} (hc : ycell a.toNat = some (r1, 0, ts)) (ha : 0 ≤ a) (ht : ts[r2]? = some t) (h : YWin p l e R s m args below meth c Q G D nL ce sl (pc + 3) L ((if t = -3 then (1, σ a r2) else if t < 0 then (0, σ a r2) else (2, t)) :: S) σ) : YWin p l e R s m args below meth c Q G D nL ce sl pc L ((2, a) :: S) σ := by
  intro ls st H locs hL hS hW hl hf
  obtain ⟨ty, t1, t2, t3, t4, t5, t6, t7⟩ := xqc_ok hq
  obtain ⟨st1, rfl, h2⟩ := ys2 hS
  obtain ⟨vs, g1, g2, g3⟩ := (hW.2 _ _ hc).1 h10
  obtain ⟨w, g4, g5⟩ := g2 r2 t ht
  have hP : va_P D xqcls [(G.1 + a.toNat, .inr (r1, vs))] H := fun k x hk => by
    cases k with
    | zero => cases hk; exact g3
    | succ k => simp at hk
  obtain ⟨C, T, N⟩ := q
  refine va_get hx hb hts t3 hown (tys := []) ⟨GL.1, fun k x h => by simp at h⟩ hP 0 rfl hq r2 hr2 (hts _ hlink) (fun _ h => h) g4 hd (h ls _ H locs hL ⟨?_, h2⟩ hW hl hf)
  have ea : ((a.toNat : Nat) : Int) = a := by omega
  rw [ea] at g5
  unfold YFok at g5
  by_cases e1 : t = -3
  · rw [if_pos e1] at g5 ⊢
    obtain ⟨i, rfl, hi⟩ := g5
    exact yp1 hi
  · rw [if_neg e1] at g5 ⊢
    by_cases e2 : t < 0
    · rw [if_pos e2] at g5 ⊢
      obtain ⟨i, rfl, hi⟩ := g5
      exact yp0 hi
    · rw [if_neg e2] at g5 ⊢
      subst g5
      exact (rfl : (Value.ref (G.1 + t.toNat)) = Value.ref (G.1 + t.toNat))
theorem ys_pf (hx : p.tables.exec = Jvm.exec) (hb : c.code = cc) (hown : s.vm.findClass own = some m.cls) (hts : ∀ w ∈ xqgw, w.before args s = true) (GL : XGl G D s) {r1 r2 index : Nat} {q : vw_C} (hq : xqcls[r1]? = some q) (hr2 : r2 < 30) (hlink : (Cond.fieldLink own index (q.2.1 r2).1 (q.2.1 r2).2.1 (q.2.1 r2).2.2.1) ∈ xqgw) (hfin : (q.2.1 r2).2.2.2 = false) (hd : decode cc pc = .ok (.putfield index, 3)) (h10 : r1 < 10)
    {a v : Int} {tv : Nat} {ts : List Int} {t : Int} (hc : ycell a.toNat = some (r1, 0, ts)) (ha : 0 ≤ a) (ht : ts[r2]? = some t) (hfit : (xqkind r1 r2 = 0 ∧ t = -1 ∧ tv = 0) ∨ (xqkind r1 r2 = 1 ∧ t = -2 ∧ tv = 0 ∧ 0 ≤ v ∧ v ≤ 1) ∨ (xqkind r1 r2 = 3 ∧ t = -3 ∧ tv = 1)) (h : YWin p l e R s m args below meth c Q G D nL ce sl (pc + 3) L S (yset σ a r2 v)) : YWin p l e R s m args below meth c Q G D nL ce sl pc L ((tv, v) :: (2, a) :: S) σ := by
  intro ls st H locs hL hS hW hl hf
  obtain ⟨ty, t1, t2, t3, t4, t5, t6, t7⟩ := xqc_ok hq
  obtain ⟨w, st0, rfl, h0, h0'⟩ := XSok_cons hS
  obtain ⟨st1, rfl, h2⟩ := ys2 h0'
  obtain ⟨vs, g1, g2, r, hr, cell, y1, y2, y3, y4⟩ := (hW.2 _ _ hc).1 h10
  dsimp only at g1 g2 hr y1 y2 y4
  have hr : r = q := Option.some.inj (hr.symm.trans hq)
  subst hr
  obtain ⟨C, T, N⟩ := r
  have ea : ((a.toNat : Nat) : Int) = a := by omega
  rw [ea] at g2
  have k9 : xqkind r1 r2 ≠ 9 := by rcases hfit with h | h | h <;> omega
  have hkN := (t4 r2 hr2 k9).1
  have kk := (t4 r2 hr2 k9).2
  have hty : narrow (ty r2) w = w ∧ fits (ty r2) w = true ∧ YFok G t v w := by
    rcases hfit with ⟨z0, z1, rfl⟩ | ⟨z0, z1, rfl, z2, z3⟩ | ⟨z0, z1, rfl⟩
    · obtain ⟨i, rfl, hi⟩ := yv0 h0
      rw [z0] at kk
      have hb : ty r2 = .int := by
        cases hz : ty r2 <;> rw [hz] at kk <;> first | rfl | (exact absurd kk (by simp [xtk]))
      rw [hb]
      refine ⟨rfl, rfl, ?_⟩
      unfold YFok
      rw [if_neg (by omega), if_pos (by omega)]
      exact ⟨i, rfl, hi⟩
    · obtain ⟨i, rfl, hi⟩ := yv0 h0
      rw [z0] at kk
      have hb : ty r2 = .boolean := by
        cases hz : ty r2 <;> rw [hz] at kk <;> first | rfl | (exact absurd kk (by simp [xtk]))
      rw [hb]
      refine ⟨xnarz (by omega) (by omega), xfitz (by omega) (by omega), ?_⟩
      unfold YFok
      rw [if_neg (by omega), if_pos (by omega)]
      exact ⟨i, rfl, hi⟩
    · obtain ⟨i, rfl, hi⟩ := yv1 h0
      rw [z0] at kk
      have hb : ty r2 = .long := by
        cases hz : ty r2 <;> rw [hz] at kk <;> first | rfl | (exact absurd kk (by simp [xtk]))
      rw [hb]
      refine ⟨rfl, rfl, ?_⟩
      unfold YFok
      rw [if_pos z1]
      exact ⟨i, rfl, hi⟩
  obtain ⟨hnar, hfit', hv⟩ := hty
  have hdd := t1 r2 hkN
  have hK : va_K D xqcls [] s := ⟨GL.1, fun k x h => by simp at h⟩
  have hap := va_apart (own := own) hts t3 ty t1 t2 hK hq
  obtain ⟨hSl, hfc, kC, hkC, hkind⟩ := hK.1 r1 _ hq
  obtain ⟨cf, kf, fi, f, hi, hsl⟩ := hSl r2 hkN
  have hst := (u_facts hfc hkC (u_lays hts t3 hkN) hi).1
  have e3 : r2 < ts.length := (List.getElem?_eq_some_iff.mp ht).1
  have done : ∀ H1 : Heap, H1[G.1 + a.toNat]? = some (cell.setSlot f.slot w) → H1.size = H.size → (∀ q, q ≠ G.1 + a.toNat → H1[q]? = H[q]?) → W p l e R s m args below meth c H1 (locs ++ [⟨G.1 + a.toNat, f.slot⟩]) ce sl Q (F0 m (pc + 3) ls st1) := by
    intro H1 e1 z oq
    rw [hsl] at e1
    refine h ls st1 H1 _ hL h2 (hW.put (a := a.toNat) z oq (fun b j hb => by unfold yset; rw [if_neg (fun q => hb (by rw [q.1]; omega))]) fun c' hc' => ?_) (xlocs1 hl) (fun q hq => by rw [oq q (by omega)]; exact hf q hq)
    rw [hc] at hc'
    cases hc'
    refine ⟨fun _ => ⟨vs.set r2 w, by rw [List.length_set]; exact g1, fun j x hx => ?_, ⟨_, hq, t_OB.to (V := updV (vp_V vs) r2 w) ⟨_, e1, y2, y3, t_set y4 hap hkN w⟩ (fun j _ => vp_updV_set (by omega) w j)⟩⟩, fun z => by dsimp only at z; omega⟩
    rw [ea]
    by_cases ej : r2 = j
    · subst ej
      dsimp only at hx
      rw [ht] at hx
      cases hx
      refine ⟨w, by rw [List.getElem?_set_self (by omega)], ?_⟩
      unfold yset
      rw [if_pos ⟨rfl, rfl⟩]
      exact hv
    · obtain ⟨w', b1, b2⟩ := g2 j x hx
      refine ⟨w', by rw [List.getElem?_set_ne ej]; exact b1, ?_⟩
      unfold yset
      rw [if_neg (fun q => ej (by have := q.2; omega))]
      exact b2
  have hlay := hts _ (t3 _ (u_in_lay hkN))
  unfold u_lay at hlay
  dsimp only at hfin
  rw [if_neg (by rw [hfin]; decide)] at hlay
  have h6 := u_store hfc hkC hkind hlay hi hdd hnar hfit'
  exact W.putK hx hb (f := f) ⟨hown, hts _ hlink, ⟨_, _, _, hi⟩, hst⟩ (by rw [y2]; exact h6) y1 y3 (by rw [hsl]; exact k2_hasslot (y4 r2 hkN)) rfl rfl hd done
theorem ys_ald (hx : p.tables.exec = Jvm.exec) (hb : c.code = cc) {kd ty len : Nat} {q : List Int} (hd : (kd = 0 ∧ decode cc pc = .ok (.iaload, 1)) ∨ (kd = 1 ∧ decode cc pc = .ok (.baload, 1)) ∨ (kd = 2 ∧ decode cc pc = .ok (.aaload, 1))) (ht : (bif Nat.beq kd 2 then Nat.ble 2 ty else Nat.beq kd ty) = true)
    {a i : Int} (hc : ycell a.toNat = some (10 + ty, len, q)) (ha : 0 ≤ a) (h1 : 0 ≤ i) (h2 : i < (len : Int)) (v : YV) (hv : ∀ w, YEok G q i.toNat (σ a i) w → XVok G (y2x v) w) (h : YWin p l e R s m args below meth c Q G D nL ce sl (pc + 1) L (v :: S) σ) : YWin p l e R s m args below meth c Q G D nL ce sl pc L ((0, i) :: (2, a) :: S) σ := by
  intro ls st H locs hL hS hW hl hf
  obtain ⟨j, st0, rfl, hj, h0'⟩ := ys0 hS
  obtain ⟨st1, rfl, h4⟩ := ys2 h0'
  obtain ⟨cA, f, g1, g2, g3, g4⟩ := (hW.2 _ _ hc).2 (by show 10 ≤ 10 + ty; omega)
  dsimp only at g1 g2 g3 g4
  rw [show 10 + ty - 10 = ty by omega] at g2
  have hlt : j.toNatClampNeg < len := Nat.not_le.mp fun q => xidx (by omega) (by omega) (Or.inr q)
  have ej : j.toNatClampNeg = i.toNat := xclamp (by omega)
  refine xald_row hx hb hd ht g1 g2 (by omega) (by omega) (h ls _ H locs hL ⟨?_, h4⟩ hW hl hf)
  have g5 := g4 _ hlt
  rw [ej] at g5 ⊢
  have ea : ((a.toNat : Nat) : Int) = a := by omega
  have ei : ((i.toNat : Nat) : Int) = i := by omega
  rw [ea, ei] at g5
  exact hv _ g5
theorem ys_ast (hx : p.tables.exec = Jvm.exec) (hb : c.code = cc) {kd len : Nat} (hd : (kd = 0 ∧ decode cc pc = .ok (.iastore, 1)) ∨ (kd = 1 ∧ decode cc pc = .ok (.bastore, 1)))
    {a i v : Int} (hc : ycell a.toNat = some (10 + kd, len, [])) (ha : 0 ≤ a) (h1 : 0 ≤ i) (h2 : i < (len : Int)) (hv : kd = 1 → 0 ≤ v ∧ v ≤ 1) (h : YWin p l e R s m args below meth c Q G D nL ce sl (pc + 1) L S (yset σ a i v)) : YWin p l e R s m args below meth c Q G D nL ce sl pc L ((0, v) :: (0, i) :: (2, a) :: S) σ := by
  intro ls st H locs hL hS hW hl hf
  obtain ⟨x, st00, rfl, hxv, h00⟩ := ys0 hS
  obtain ⟨j, st0, rfl, hj, h0'⟩ := ys0 h00
  obtain ⟨st1, rfl, h4⟩ := ys2 h0'
  obtain ⟨cA, f, g1, g2, g3, g4⟩ := (hW.2 _ _ hc).2 (by show 10 ≤ 10 + kd; omega)
  dsimp only at g1 g2 g3 g4
  rw [show 10 + kd - 10 = kd by omega] at g2 g3
  have hin := xidx (i := j) (n := len) (by omega) (by omega)
  have hin' : ¬ (j < 0 ∨ (arrV cA len f).slots.size ≤ j.toNatClampNeg) := by rw [arrV_size]; exact hin
  have ej : j.toNatClampNeg = i.toNat := xclamp (by omega)
  have ea : ((a.toNat : Nat) : Int) = a := by omega
  have done : ∀ H1 : Heap, H1[G.1 + a.toNat]? = some ((arrV cA len f).setSlot i.toNat (.int x)) → H1.size = H.size → (∀ q, q ≠ G.1 + a.toNat → H1[q]? = H[q]?) → W p l e R s m args below meth c H1 (locs ++ [⟨G.1 + a.toNat, i.toNat⟩]) ce sl Q (F0 m (pc + 1) ls st1) := by
    intro H1 e z oq
    rw [arrV_store] at e
    refine h ls st1 H1 _ hL h4 (hW.put (a := a.toNat) z oq (fun b j hb => by unfold yset; rw [if_neg (fun q => hb (by rw [q.1]; omega))]) fun c' hc' => ?_) (xlocs1 hl) (fun q hq => by rw [oq q (by omega)]; exact hf q hq)
    rw [hc] at hc'
    cases hc'
    refine ⟨fun z => by dsimp only at z; omega, fun _ => ⟨cA, updV f i.toNat (.int x), e, by dsimp only; rw [show 10 + kd - 10 = kd by omega]; exact g2, by dsimp only; rw [show 10 + kd - 10 = kd by omega]; exact g3, fun k hk => ?_⟩⟩
    dsimp only at hk ⊢
    by_cases ek : k = i.toNat
    · subst ek
      have z : updV f i.toNat (.int x) i.toNat = .int x := by simp [updV]
      rw [z]
      refine ⟨x, rfl, ?_⟩
      unfold yset
      rw [if_pos ⟨ea, by omega⟩]
      exact hxv
    · have z : updV f i.toNat (.int x) k = f k := by simp [updV, ek]
      rw [z]
      obtain ⟨y, b1, b2⟩ := g4 k hk
      refine ⟨y, b1, ?_⟩
      unfold yset
      rw [if_neg (fun q => ek (by have := q.2; omega))]
      exact b2
  rcases hd with ⟨rfl, hd⟩ | ⟨rfl, hd⟩
  · refine W.iast hx hb g1 (g2 len f) (fun q => by cases q) hin' rfl rfl hd fun H1 e z oq => ?_
    rw [ej] at e ⊢
    exact done H1 e z oq
  · refine W.zast hx hb g1 (g2 len f) (fun q => by cases q) hin' rfl rfl hd fun H1 e z oq => ?_
    rw [ej] at e ⊢
    rw [xnarz (by have := hv rfl; omega) (by have := hv rfl; omega)] at e
    exact done H1 e z oq
theorem ys_min (hx : p.tables.exec = Jvm.exec) (hb : c.code = cc) (hml : c.maxLocals = nL) (hown : s.vm.findClass own = some m.cls) (hts : ∀ w ∈ xqgw, w.before args s = true) {index : Nat} (hlink : Cond.methodLink own index Lib.Math.min.name ∈ xqgw) (hfr : 1 ≤ R.frames) (hlo : 30 ≤ R.locals) (hmc : ce ≤ R.cells) (hms : sl ≤ R.slots) (hstat : Cond.static Lib.Math.min.name ∈ xqgw) (hini : Cond.initialized "java/lang/Math" ∈ xqgw) (hcode : Cond.code Lib.Math.min.name Lib.Math.min.code 2 (some .int) ∈ xqgw) (hd : decode cc pc = .ok (.invokestatic index, 3))
    {a b : Int} (hcat : xcat (yxs S) ≤ 8) (h : YWin p l e R s m args below meth c Q G D nL ce sl (pc + 3) L ((0, min a b) :: S) σ) : YWin p l e R s m args below meth c Q G D nL ce sl pc L ((0, b) :: (0, a) :: S) σ := by
  intro ls st H locs hL hS hW hl hf
  obtain ⟨j, st0, rfl, hj, h0'⟩ := ys0 hS
  obtain ⟨i, st1, rfl, hi, h4⟩ := ys0 h0'
  refine va_mmin hx hb (hml.trans hL.1.symm) hown (hts _ hlink) (hts _ hstat) (hts _ hini) (hts _ hcode) hfr (by rw [XScat h4]; omega) hmc hms hd ?_
  by_cases e1 : j < i
  · rw [if_pos e1]
    rw [Int32.lt_iff_toInt_lt] at e1
    exact h ls _ H locs hL ⟨yp0 (by omega), h4⟩ hW hl hf
  · rw [if_neg e1]
    rw [Int32.lt_iff_toInt_lt] at e1
    exact h ls _ H locs hL ⟨yp0 (by omega), h4⟩ hW hl hf
theorem ys_copy (hx : p.tables.exec = Jvm.exec) (hb : c.code = cc) (hml : c.maxLocals = nL) (hown : s.vm.findClass own = some m.cls) (hts : ∀ w ∈ xqgw, w.before args s = true) {index : Nat} (hlink : Cond.methodLink own index arraycopyName ∈ xqgw) (hnat : Cond.native arraycopyName ∈ xqgw) (hstat : Cond.static arraycopyName ∈ xqgw) (hini : Cond.initialized "java/lang/System" ∈ xqgw) (hfr : 1 ≤ R.frames) (hlo : 36 ≤ R.locals) (hd : decode cc pc = .ok (.invokestatic index, 3))
    {a b sp dp n : Int} {len len' : Nat} (ca : ycell a.toNat = some (10, len, [])) (cb : ycell b.toNat = some (10, len', [])) (ha : 0 ≤ a) (hb' : 0 ≤ b) (h1 : 0 ≤ sp) (h2 : 0 ≤ dp) (h3 : 0 ≤ n) (h4 : sp + n ≤ len) (h5 : dp + n ≤ len') (hcat : xcat (yxs S) ≤ 8) (h : YWin p l e R s m args below meth c Q G D nL ce sl (pc + 3) L S (ycopy σ a sp b dp n)) : YWin p l e R s m args below meth c Q G D nL ce sl pc L ((0, n) :: (0, dp) :: (2, b) :: (0, sp) :: (2, a) :: S) σ := by
  intro ls st H locs hL hS hW hl hf
  obtain ⟨ni, st1, rfl, hni, y1⟩ := ys0 hS
  obtain ⟨nd, st2, rfl, hnd, y2⟩ := ys0 y1
  obtain ⟨st3, rfl, y4⟩ := ys2 y2
  obtain ⟨ns, st4, rfl, hns, y5⟩ := ys0 y4
  obtain ⟨st5, rfl, y7⟩ := ys2 y5
  obtain ⟨c0, f, a1, a2, a3, a4⟩ := (hW.2 _ _ ca).2 (Nat.le_refl 10)
  obtain ⟨c1, g, b1, b2, b3, b4⟩ := (hW.2 _ _ cb).2 (Nat.le_refl 10)
  dsimp only at a1 a2 a4 b1 b2 b3 b4
  have ea : ((a.toNat : Nat) : Int) = a := by omega
  have eb : ((b.toNat : Nat) : Int) = b := by omega
  have ci : ni.toNatClampNeg = n.toNat := xclamp (by omega)
  have cd : nd.toNatClampNeg = dp.toNat := xclamp (by omega)
  have cs : ns.toNatClampNeg = sp.toNat := xclamp (by omega)
  have nneg : ∀ z : Int32, 0 ≤ z.toInt → ¬ z < 0 := fun z h0 q => by
    have := Int32.lt_iff_toInt_lt.mp q
    have e : (0 : Int32).toInt = 0 := rfl
    omega
  intro T hT X
  obtain ⟨-, k0, hk0, cm0, hkk0⟩ := a2 len f
  obtain ⟨-, k1, hk1, cm1, hkk1⟩ := b2 len' g
  obtain ⟨vm', X', step⟩ := X.arraycopy hx hown (hts _ hlink) (hts _ hnat) (hts _ hstat) (hts _ hini) (src := G.1 + a.toNat) (dst := G.1 + b.toNat) (cs := arrV c0 len f) (cd := arrV c1 len' g) (srcPos := ns) (destPos := nd) (n := ni) (by rw [hT]; exact a1) (by rw [hT]; exact b1)
    (fun _ h => by cases h) (fun _ h => by cases h) (fun h => by cases h) (fun h => by cases h) hk0 hk1 hkk0 hkk1 (by simp [xqty, refKind]) (nneg ns (by omega)) (nneg nd (by omega)) (nneg ni (by omega))
    (by rw [arrV_size]; omega)
    (by rw [arrV_size]; omega)
    (fun vm₁ _ j hj => by
      rw [cs]
      have e : (arrV c0 len f).slots.getD (sp.toNat + j) .null = f (sp.toNat + j) := by
        rw [Array.getD_eq_getD_getElem?, arrV_read _ _ (by omega)]
        rfl
      obtain ⟨z, hz, -⟩ := a4 (sp.toNat + j) (by omega)
      refine ⟨?_, ?_⟩
      · rw [e, hz]
        rfl
      · rw [e, hz]
        exact trivial)
    (g := F0 m pc ls (.int ni :: .int nd :: .ref (G.1 + b.toNat) :: .int ns :: .ref (G.1 + a.toNat) :: st5)) rfl (by rw [hml]; exact hL.1) (rest := st5) rfl (by rw [hb]; exact hd) hfr (by
      have h9 := XScat y7
      have h8 : nativeFrameWords "java/lang/System" "arraycopy" 5 = 7 := by decide +kernel
      show 2 * 0 + _ + _ ≤ _
      omega)
  have ecp : copied (arrV c0 len f) (arrV c1 len' g) ns nd ni = arrV c1 len' (va_cpy f g sp.toNat dp.toNat n.toNat) := by
    have := va_copied (fun z : Value => z) c0 c1 (n0 := len) (n1 := len') (sp := sp.toNat) (dp := dp.toNat) (n := n.toNat) f g (by omega)
    show (arrV c1 len' g).storeRun nd.toNatClampNeg ((arrV c0 len f).stretch ns.toNatClampNeg ni.toNatClampNeg) = _
    rw [ci, cd, cs]
    exact this
  rw [ecp] at X' step
  have hl9 : G.1 + b.toNat < H.size := (Array.getElem?_eq_some_iff.mp b1).1
  have hheap : ((T.setVm vm').setCell (G.1 + b.toNat) (arrV c1 len' (va_cpy f g sp.toNat dp.toNat n.toNat))).heap = H.setIfInBounds (G.1 + b.toNat) (arrV c1 len' (va_cpy f g sp.toNat dp.toNat n.toNat)) := by rw [← hT]; rfl
  have oq : ∀ q : Nat, q ≠ G.1 + b.toNat → (H.setIfInBounds (G.1 + b.toNat) (arrV c1 len' (va_cpy f g sp.toNat dp.toNat n.toNat)))[q]? = H[q]? := fun q hq => by simp [Array.getElem?_setIfInBounds, Ne.symm hq]
  have hWn : YWok G D s (ycopy σ a sp b dp n) (H.setIfInBounds (G.1 + b.toNat) (arrV c1 len' (va_cpy f g sp.toNat dp.toNat n.toNat))) := by
    refine hW.put (a := b.toNat) (by simp) oq (fun k j hk => by unfold ycopy; rw [if_neg (fun q => hk (by rw [q.1]; omega))]) fun c' hc' => ?_
    rw [cb] at hc'
    cases hc'
    refine ⟨fun z => by dsimp only at z; omega, fun _ => ⟨c1, va_cpy f g sp.toNat dp.toNat n.toNat, by simp [Array.getElem?_setIfInBounds, hl9], b2, b3, fun k hk => ?_⟩⟩
    dsimp only at hk ⊢
    rw [eb]
    unfold ycopy va_cpy
    by_cases ek : dp.toNat ≤ k ∧ k < dp.toNat + n.toNat
    · rw [if_pos ⟨rfl, by omega, by omega⟩, if_pos ek]
      obtain ⟨y, q1, q2⟩ := a4 (sp.toNat + (k - dp.toNat)) (by omega)
      refine ⟨y, q1, ?_⟩
      rw [q2, ea]
      congr 1
      omega
    · rw [if_neg (fun q => ek (by have := q.2; omega)), if_neg ek]
      obtain ⟨y, q1, q2⟩ := b4 k hk
      refine ⟨y, q1, ?_⟩
      rw [q2, eb]
  obtain ⟨t, a9, b9⟩ := h ls st5 (H.setIfInBounds (G.1 + b.toNat) (arrV c1 len' (va_cpy f g sp.toNat dp.toNat n.toNat))) _ hL y7 hWn (fun q hq => by
    rcases List.mem_append.mp hq with h | h
    · exact hl q h
    · obtain ⟨z, -, hz⟩ := List.mem_map.mp h
      rw [← hz]
      exact Nat.le_add_right _ _) (fun q hq => by rw [oq q (by omega)]; exact hf q hq) _ hheap X'
  exact ⟨t, step t a9, b9⟩
theorem ys_after {P : Option YV → YS → Prop} {st0 rest : List Value} {S' : List YV} {a : Array Value} {ls : Array Slot} {H : Heap} {locs : List Loc} (hr : va_Run p l e R s m args below meth c H locs ce sl 0 0 (F0 m pc ls st0) rest (YQc G D P a) (fun q => G.1 ≤ q)) (hL : XLok G (yxl L) ls nL) (hS : XSok G (yxs S') rest) (hl : ∀ q ∈ locs, G.1 ≤ q.base) (hf : ∀ q : Nat, q < G.1 → H[q]? = s.heap[q]?)
    (hk : ∀ r σ', P r σ' → YWin p l e R s m args below meth c Q G D nL ce sl (pc + 3) L (yret r S') σ') : W p l e R s m args below meth c H locs ce sl Q (F0 m pc ls st0) := by
  intro T hT X
  obtain ⟨v, st₀, t, T', Lq, h0, X', hLq, e1, e2, ⟨hq1, r, σ', hr1, hr3, hr4⟩, st⟩ := hr T hT X
  have hw := hk r σ' hr1
  have hvm : t.vm.Alike s.vm := by rw [← e2]; exact X'.warmed.alike.symm
  have hl' : ∀ q ∈ locs ++ Lq, G.1 ≤ q.base := fun q hq => (List.mem_append.mp hq).elim (hl q) (hLq q)
  have hf' : ∀ q : Nat, q < G.1 → t.heap[q]? = s.heap[q]? := fun q hq => by rw [hq1 q hq, h0]; exact hf q hq
  cases r with
  | none =>
    cases hr4
    obtain ⟨t2, b1, b2⟩ := hw ls rest t.heap (locs ++ Lq) hL hS (hr3.moved hvm) hl' hf' T' e1 X'
    exact ⟨t2, st t2 b1, b2⟩
  | some x =>
    obtain ⟨w, hw1, hw2⟩ := hr4
    cases hw1
    obtain ⟨t2, b1, b2⟩ := hw ls (w :: rest) t.heap (locs ++ Lq) hL ⟨hw2, hS⟩ (hr3.moved hvm) hl' hf' T' e1 X'
    exact ⟨t2, st t2 b1, b2⟩
theorem ysplit {G : XG} : ∀ (as : List YV) (S' : List YV) (st : List Value), XSok G (yxs (as.reverse ++ S')) st → ∃ vs st' : List Value, XSok G (yxs as) vs ∧ XSok G (yxs S') st' ∧ st = vs.reverse ++ st' ∧ vs.length = as.length
  | [], S', st, h => ⟨[], st, trivial, h, rfl, rfl⟩
  | a :: as, S', st, h => by
    rw [List.reverse_cons, List.append_assoc] at h
    obtain ⟨vs, st', h1, h2, h3, h4⟩ := ysplit as ([a] ++ S') st h
    obtain ⟨w, st2, rfl, h5, h6⟩ := XSok_cons h2
    exact ⟨w :: vs, st2, ⟨h5, h1⟩, h6, by rw [h3, List.reverse_cons, List.append_assoc]; rfl, by rw [List.length_cons, List.length_cons, h4]⟩
/-- what a call hands to its callee, and how it goes on -/
theorem ys_call (GL : YGl G D s) {as S' : List YV} {P : Option YV → YS → Prop} (hcat : xcat (yxs S') ≤ 8)
    (hk : ∀ r σ', P r σ' → YWin p l e R s m args below meth c Q G D nL ce sl (pc + 3) L (yret r S') σ')
    (row : ∀ (H : Heap) (locs : List Loc) (ls : Array Slot) (vs rest : List Value), vs.length = as.length → FrameBlind (YPc G D as σ) → (∀ U : State, U.heap = H → s.WarmedH U.vm → YPc G D as σ vs.toArray U) → (rest.map fun v => v.category).sum ≤ 8 → ls.size = nL → YWok G D s σ H → XSok G (yxs as) vs → ∃ a, va_Run p l e R s m args below meth c H locs ce sl 0 0 (F0 m pc ls (vs.reverse ++ rest)) rest (YQc G D P a) (fun q => G.1 ≤ q)) : YWin p l e R s m args below meth c Q G D nL ce sl pc L (as.reverse ++ S') σ := by
  intro ls st H locs hL hS hW hl hf
  obtain ⟨vs, st', h1, h2, rfl, h4⟩ := ysplit as S' st hS
  have hsz : G.1 ≤ H.size := by rw [hW.1]; exact Nat.le_add_right _ _
  obtain ⟨a, hrun⟩ := row H locs ls vs st' h4 (YPc_blind as) (fun U hU hWm => ⟨vs, rfl, h1, by rw [hU]; exact hW.moved hWm.alike, GL.moved hWm (by rw [hU]; exact hsz) (fun q hq => by rw [hU]; exact hf q hq)⟩) (by rw [XScat h2]; exact hcat) hL.1 hW h1
  exact ys_after hrun hL h2 hl hf hk
end YQ1
