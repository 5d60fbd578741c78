def xqgw : List Cond := lw_tbl.filter goodWord
def xqorder (j : Nat) : Value := .int (Int32.ofInt (([0, 1, 2, 0, 2, 1, 1, 0, 2, 1, 2, 0, 2, 0, 1, 2, 1, 0] : List Int).getD j 0))
def xqnest : List Cond := [.methodLinkNest "ClaySlips" 11 ⟨RX2, "<init>", "()V"⟩ "ClaySlips", .methodLinkNest "ClaySlips" 18 ⟨RX1, "<init>", "()V"⟩ "ClaySlips", .methodLinkNest "ClaySlips" 43 ⟨RX3, "<init>", "()V"⟩ "ClaySlips", .methodLinkNest "ClaySlips$Street" 17 ⟨RX0, "<init>", "()V"⟩ "ClaySlips", .methodLinkNest "ClaySlips$Man" 50 ⟨RX4, "shortSign", "(III)I"⟩ "ClaySlips", .methodLinkNest "ClaySlips$Street" 129 ⟨RX4, "goal", "(IIIII)I"⟩ "ClaySlips"]
def xqAOA (t : FieldType) (U : State) : Prop := (Cond.arrayOver (.array t)).before #[] U = true
theorem xqAOA.use {t : FieldType} {A : Array Value} {U : State} (h : xqAOA t U) : (Cond.arrayOver (.array t)).before A U = true := h
theorem xqAOA.moved {t : FieldType} {u U : State} (hvm : u.vm.Alike U.vm) (h : xqAOA t u) : xqAOA t U := by
  obtain ⟨comp, c, k, h1, h2, h3, h4, h5⟩ := arrayOverA_spec h
  obtain ⟨k', hk', he⟩ := hvm.2.2 _ _ h3
  have hb := va_idx_bare U.vm comp
  have ha := va_idx_bare u.vm comp
  have e : U.vm.bare = u.vm.bare := by first | exact hvm.bare_eq | exact hvm.bare_eq.symm
  rw [e] at hb
  have hi := hb.symm.trans (ha.trans h2)
  have hkind : k'.kind = .array comp (.array t) := by rw [he]; exact h4
  have f1 : U.vm.findClass (FieldType.array t).toString = some comp := by rw [hvm.findClass]; exact h1
  have f2 : U.vm.findClass ("[" ++ (FieldType.array t).toString) = some c := by rw [hvm.findClass]; exact h5
  unfold xqAOA Cond.before Cond.holds
  simp only [Cond.value]
  rw [f1, Option.bind_some]
  refine (congrArg (fun o : Option Nat => (o.bind (fun c => (U.vm.classes[c]?).map fun (k : Class) => match k.kind with | .array _ ty => decide (ty = FieldType.array t) && decide (U.vm.findClass ("[" ++ (FieldType.array t).toString) = some c) | _ => false) == some true)) hi).trans ?_
  simp [hk', hkind, f2]
/-- what the tables and the cells that nobody writes say, at a method's start -/
def XGl (G : XG) (D : va_G) (s : State) : Prop :=
  (∀ (k : Nat) (q : vw_C), xqcls[k]? = some q → u_Kn s q.1 q.2.1 q.2.2 (D.1 k) (D.2 k)) ∧ (∀ w ∈ xqnest, va_Nw w s) ∧ (va_AO RX0 s ∧ va_AO RX1 s ∧ va_AO RX2 s ∧ xqAOA .int s) ∧ G.1 ≤ s.heap.size ∧
  (va_Z "ClaySlips" "ORDER" "[I" (.ref (G.2.1 1)) (fun q => G.1 ≤ q) s s.heap ∧ va_T .int (G.2.1 1) 18 xqorder (fun q => G.1 ≤ q) s s.heap) ∧
  ∃ (L : Nat) (xs : Nat → Int32), va_X (G.2.1 0) L xs s s.heap ∧ G.2.1 0 < G.1 ∧ (∀ j, j < 5 → (xs j).toInt = G.2.2 j) ∧ G.2.2 5 = (L : Int) ∧ L ≤ 320
def XLok (G : XG) (L : XLc) (ls : Array Slot) (nL : Nat) : Prop := ls.size = nL ∧ L.length ≤ nL ∧ lv_wf ls ∧ ∀ (i : Nat) (x : XV), L[i]? = some (some x) → ∃ w, ls[i]? = some (.val w) ∧ XVok G x w
def XSok (G : XG) : List XV → List Value → Prop
  | [], [] => True
  | v :: S, w :: st => XVok G v w ∧ XSok G S st
  | _, _ => False
theorem XSok_cons {G : XG} {v : XV} {S : List XV} {st : List Value} (h : XSok G (v :: S) st) : ∃ w st', st = w :: st' ∧ XVok G v w ∧ XSok G S st' := by
  cases st with
  | nil => exact h.elim
  | cons w st' => exact ⟨w, st', rfl, h.1, h.2⟩
theorem XSok_nil {G : XG} {st : List Value} (h : XSok G [] st) : st = [] := by
  cases st with
  | nil => rfl
  | cons w st' => exact h.elim
theorem XVcat {G : XG} {x : XV} {w : Value} (h : XVok G x w) : w.category = xcatv x := by
  rcases x with u | u | (_ | a) | t
  · obtain ⟨i, rfl, -⟩ := h; rfl
  · obtain ⟨i, rfl, -⟩ := h; rfl
  · cases h; rfl
  · cases h; rfl
  · cases h; rfl
theorem XScat {G : XG} : ∀ {S : List XV} {st : List Value}, XSok G S st → (st.map fun v => v.category).sum = xcat S
  | [], st, h => by rw [XSok_nil h]; rfl
  | v :: S, st, h => by
    obtain ⟨w, st', rfl, h1, h2⟩ := XSok_cons h
    rw [List.map_cons, List.sum_cons, XScat h2, XVcat h1]
    rfl
theorem XLok.list {G : XG} {L : XLc} {ls : Array Slot} {nL : Nat} (h : XLok G L ls nL) : ∃ lv : List (Nat × Value), lv_has ls nL lv ∧ ∀ (i : Nat) (x : XV), L[i]? = some (some x) → ∃ w, (i, w) ∈ lv ∧ XVok G x w := by
  refine ⟨(List.range nL).filterMap (fun i : Nat => match (ls[i]? : Option Slot) with
    | some (Slot.val w) => some (i, w)
    | _ => none), ⟨h.1, h.2.2.1, fun q hq => ?_⟩, fun i x hx => ?_⟩
  · obtain ⟨i, -, hi⟩ := List.mem_filterMap.mp hq
    split at hi
    · rename_i w hw
      cases hi
      exact hw
    · cases hi
  · obtain ⟨w, h1, h2⟩ := h.2.2.2 i x hx
    refine ⟨w, List.mem_filterMap.mpr ⟨i, List.mem_range.mpr ?_, by rw [h1]⟩, h2⟩
    rw [← h.1]
    exact lv_lt h1
theorem xclr_ok {L : XLc} {i j : Nat} {u : Int × Int} (h : xclr L i = true) (hj : j + 1 = i) (hL : L[j]? = some (some (.inr (.inl u)))) : False := by
  subst hj
  have : xclr L (j + 1) = (match xnth L j with
    | some (some (.inr (.inl _))) => false
    | _ => true) := rfl
  rw [this, xnth_eq, hL] at h
  cases h
theorem XLok.store1 {G : XG} {L : XLc} {ls ls' : Array Slot} {nL i : Nat} {v : XV} {w : Value} {lv : List (Nat × Value)} (h : XLok G L ls nL) (hl : ∀ (i : Nat) (x : XV), L[i]? = some (some x) → ∃ w, (i, w) ∈ lv ∧ XVok G x w) (hc : xclr L i = true) (hv : XVok G v w)
    (h' : lv_has ls' nL ((i, w) :: lv.filter (fun q => !(q.1 == i) && !(q.1 + 1 == i && q.2.category == 2)))) : XLok G (L.set i (some v)) ls' nL := by
  refine ⟨h'.1, by rw [List.length_set]; exact h.2.1, h'.2.1, fun j x hx => ?_⟩
  rw [List.getElem?_set] at hx
  by_cases e : i = j
  · subst e
    rw [if_pos rfl] at hx
    split at hx
    · cases hx
      exact ⟨w, h'.2.2 (i, w) List.mem_cons_self, hv⟩
    · cases hx
  · rw [if_neg e] at hx
    obtain ⟨w', h1, h2⟩ := hl j x hx
    refine ⟨w', h'.2.2 (j, w') (List.mem_cons_of_mem _ (List.mem_filter.mpr ⟨h1, ?_⟩)), h2⟩
    have e1 : (j == i) = false := by simp; omega
    dsimp only
    rw [e1]
    by_cases e2 : j + 1 = i
    · have hcat := XVcat h2
      cases e3 : (w'.category == 2)
      · simp
      · exfalso
        have e3 := eq_of_beq e3
        rw [e3] at hcat
        rcases x with u | u | u
        · cases hcat
        · exact xclr_ok hc e2 hx
        · cases hcat
    · have e4 : (j + 1 == i) = false := by simp; omega
      rw [e4]
      rfl
theorem XLok.store2 {G : XG} {L : XLc} {ls ls' : Array Slot} {nL i : Nat} {v : XV} {w : Value} {lv : List (Nat × Value)} (h : XLok G L ls nL) (hl : ∀ (i : Nat) (x : XV), L[i]? = some (some x) → ∃ w, (i, w) ∈ lv ∧ XVok G x w) (hc : xclr L i = true) (hv : XVok G v w)
    (h' : lv_has ls' nL ((i, w) :: lv.filter (fun q => !(q.1 == i) && (!(q.1 == i + 1) && !(q.1 + 1 == i && q.2.category == 2))))) : XLok G ((L.set i (some v)).set (i + 1) none) ls' nL := by
  refine ⟨h'.1, by rw [List.length_set, List.length_set]; exact h.2.1, h'.2.1, fun j x hx => ?_⟩
  rw [List.getElem?_set] at hx
  by_cases e0 : i + 1 = j
  · rw [if_pos e0] at hx
    split at hx <;> cases hx
  rw [if_neg e0, List.getElem?_set] at hx
  by_cases e : i = j
  · subst e
    rw [if_pos rfl] at hx
    split at hx
    · cases hx
      exact ⟨w, h'.2.2 (i, w) List.mem_cons_self, hv⟩
    · cases hx
  · rw [if_neg e] at hx
    obtain ⟨w', h1, h2⟩ := hl j x hx
    refine ⟨w', h'.2.2 (j, w') (List.mem_cons_of_mem _ (List.mem_filter.mpr ⟨h1, ?_⟩)), h2⟩
    have e1 : (j == i) = false := by simp; omega
    have e5 : (j == i + 1) = false := by simp; omega
    dsimp only
    rw [e1, e5]
    by_cases e2 : j + 1 = i
    · have hcat := XVcat h2
      cases e3 : (w'.category == 2)
      · simp
      · exfalso
        have e3 := eq_of_beq e3
        rw [e3] at hcat
        rcases x with u | u | u
        · cases hcat
        · exact xclr_ok hc e2 hx
        · cases hcat
    · have e4 : (j + 1 == i) = false := by simp; omega
      rw [e4]
      rfl
section XQ1
variable {p : Program} {l : Launch} {e : Env} {R : Room} {s : State} {m : MethodId} {args : Array Value} {below : List Frame} {meth : Method} {c : Code} {Q : State → Prop} {G : XG} {D : va_G} {nL : Nat}
/-- from every state of the machine that the abstract state stands for, the machine comes to Q -/
def XWin (p : Program) (l : Launch) (e : Env) (R : Room) (s : State) (m : MethodId) (args : Array Value) (below : List Frame) (meth : Method) (c : Code) (Q : State → Prop) (G : XG) (D : va_G) (nL : Nat) (x : XS) : Prop :=
  ∀ (ls : Array Slot) (st : List Value) (H : Heap) (locs : List Loc), XLok G x.2.1 ls nL → XSok G x.2.2.1 st → XEok G.2.2 x.2.2.2.1 → XWok G D s x.2.2.2.2.1 x.2.2.2.2.2.1 H → (∀ q ∈ locs, G.1 ≤ q.base) → (∀ q : Nat, q < G.1 → H[q]? = s.heap[q]?) → W p l e R s m args below meth c H locs x.2.2.2.2.2.2.1 x.2.2.2.2.2.2.2 Q (F0 m x.1 ls st)
def XOk (p : Program) (l : Launch) (e : Env) (R : Room) (s : State) (m : MethodId) (args : Array Value) (below : List Frame) (meth : Method) (c : Code) (Q : State → Prop) (G : XG) (D : va_G) (nL : Nat) (Rt : XRt → Prop) (o : XS ⊕ (List XS ⊕ XRt)) : Prop := match o with
  | .inl y => XWin p l e R s m args below meth c Q G D nL y
  | .inr (.inl ys) => ∀ y ∈ ys, XWin p l e R s m args below meth c Q G D nL y
  | .inr (.inr r) => Rt r
variable {Rt : XRt → Prop} {o : XS ⊕ (List XS ⊕ XRt)} {cc : ByteArray} {pc nx : Nat} {L : XLc} {S : List XV} {E : XE} {Hx : XH} {n ce sl : Nat}
theorem xgo_win (h : xgo nx L S E Hx n ce sl = some o) (hk : XOk p l e R s m args below meth c Q G D nL Rt o) : XWin p l e R s m args below meth c Q G D nL (nx, L, S, E, Hx, n, ce, sl) := by
  cases h
  exact hk
theorem xs_push {v : Int} {len : Nat} (hn : nx = pc + len) (h : xpush nx L S E Hx n ce sl v = some o) (hk : XOk p l e R s m args below meth c Q G D nL Rt o)
    (row : ∀ (H : Heap) (locs : List Loc) (ls : Array Slot) (st : List Value), W p l e R s m args below meth c H locs ce sl Q (F0 m (pc + len) ls (.int (Int32.ofInt v) :: st)) → W p l e R s m args below meth c H locs ce sl Q (F0 m pc ls st)) : XWin p l e R s m args below meth c Q G D nL (pc, L, S, E, Hx, n, ce, sl) := by
  subst hn
  unfold xpush at h
  cases e0 : (xle xqMIN v && xle v xqMAX)
  · rw [e0] at h; cases h
  · rw [e0] at h
    rw [Bool.and_eq_true, xle_iff, xle_iff, xqMIN_v, xqMAX_v] at e0
    have hw := xgo_win h hk
    intro ls st H locs hL hS hE hW hl hf
    refine row H locs ls st (hw ls _ H locs hL ⟨⟨Int32.ofInt v, rfl, ?_⟩, hS⟩ hE hW hl hf)
    rw [Int32.toInt_ofInt_of_le (by omega) (by omega)]
    exact xk_ok _ _
theorem xs_lconst {a : Nat} {len : Nat} (ha : a < 2 ^ 62) (hn : nx = pc + len) (h : xgo nx L (.inr (.inl (.ofNat a, .ofNat a)) :: S) E Hx n ce sl = some o) (hk : XOk p l e R s m args below meth c Q G D nL Rt o)
    (row : ∀ (H : Heap) (locs : List Loc) (ls : Array Slot) (st : List Value), W p l e R s m args below meth c H locs ce sl Q (F0 m (pc + len) ls (.long (Int64.ofNat a) :: st)) → W p l e R s m args below meth c H locs ce sl Q (F0 m pc ls st)) : XWin p l e R s m args below meth c Q G D nL (pc, L, S, E, Hx, n, ce, sl) := by
  subst hn
  have hw := xgo_win h hk
  intro ls st H locs hL hS hE hW hl hf
  have e0 : (Int64.ofNat a).toInt = (a : Int) := Int64.toInt_ofNat_of_lt (by omega)
  refine row H locs ls st (hw ls _ H locs hL ⟨⟨Int64.ofNat a, rfl, ?_, ?_⟩, hS⟩ hE hW hl hf)
  · rw [e0]; exact Int.le_refl _
  · rw [e0]; exact Int.le_refl _
theorem xs_ld {i t len : Nat} (hn : nx = pc + len) (h : xld nx L S E Hx n ce sl t (xnth L i) = some o) (hk : XOk p l e R s m args below meth c Q G D nL Rt o)
    (rowi : t = 0 → ∀ (H : Heap) (locs : List Loc) (ls : Array Slot) (st : List Value) (x : Int32), ls[i]? = some (.val (.int x)) → W p l e R s m args below meth c H locs ce sl Q (F0 m (pc + len) ls (.int x :: st)) → W p l e R s m args below meth c H locs ce sl Q (F0 m pc ls st))
    (rowl : t = 1 → ∀ (H : Heap) (locs : List Loc) (ls : Array Slot) (st : List Value) (x : Int64), ls[i]? = some (.val (.long x)) → W p l e R s m args below meth c H locs ce sl Q (F0 m (pc + len) ls (.long x :: st)) → W p l e R s m args below meth c H locs ce sl Q (F0 m pc ls st))
    (rowa : t = 2 → ∀ (H : Heap) (locs : List Loc) (ls : Array Slot) (st : List Value) (w : Value), (w = .null ∨ ∃ a, w = .ref a) → ls[i]? = some (.val w) → W p l e R s m args below meth c H locs ce sl Q (F0 m (pc + len) ls (w :: st)) → W p l e R s m args below meth c H locs ce sl Q (F0 m pc ls st)) : XWin p l e R s m args below meth c Q G D nL (pc, L, S, E, Hx, n, ce, sl) := by
  subst hn
  rw [xnth_eq] at h
  unfold xld at h
  intro ls st H locs hL hS hE hW hl hf
  split at h
  · rename_i v hx
    cases ht : Nat.beq t 0
    · rw [ht] at h; cases h
    · rw [ht] at h
      obtain ⟨w, h1, h2⟩ := hL.2.2.2 i _ hx
      obtain ⟨x, rfl, h3⟩ := id h2
      exact rowi (Nat.eq_of_beq_eq_true ht) H locs ls st x h1 (xgo_win h hk ls _ H locs hL ⟨h2, hS⟩ hE hW hl hf)
  · rename_i v hx
    cases ht : Nat.beq t 1
    · rw [ht] at h; cases h
    · rw [ht] at h
      obtain ⟨w, h1, h2⟩ := hL.2.2.2 i _ hx
      obtain ⟨x, rfl, h3⟩ := id h2
      exact rowl (Nat.eq_of_beq_eq_true ht) H locs ls st x h1 (xgo_win h hk ls _ H locs hL ⟨h2, hS⟩ hE hW hl hf)
  · rename_i v hx
    cases ht : Nat.beq t 2
    · rw [ht] at h; cases h
    · rw [ht] at h
      obtain ⟨w, h1, h2⟩ := hL.2.2.2 i _ hx
      refine rowa (Nat.eq_of_beq_eq_true ht) H locs ls st w ?_ h1 (xgo_win h hk ls _ H locs hL ⟨h2, hS⟩ hE hW hl hf)
      rcases v with (_ | a) | t
      · exact Or.inl h2
      · exact Or.inr ⟨_, h2⟩
      · exact Or.inr ⟨_, h2⟩
  · cases h
theorem xs_st1 {i len : Nat} {v : XV} (hn : nx = pc + len) (h : xst1 nx L S E Hx n ce sl i v = some o) (hk : XOk p l e R s m args below meth c Q G D nL Rt o) {ls : Array Slot} {st0 st : List Value} {w : Value} {H : Heap} {locs : List Loc} (hL : XLok G L ls nL) (hv : XVok G v w) (hS : XSok G S st) (hE : XEok G.2.2 E) (hW : XWok G D s Hx n H) (hl : ∀ q ∈ locs, G.1 ≤ q.base) (hf : ∀ q : Nat, q < G.1 → H[q]? = s.heap[q]?)
    (row : ∀ lv : List (Nat × Value), lv_has ls nL lv → i < nL → (∀ ls' : Array Slot, lv_has ls' nL ((i, w) :: lv.filter (fun q => !(q.1 == i) && !(q.1 + 1 == i && q.2.category == 2))) → W p l e R s m args below meth c H locs ce sl Q (F0 m (pc + len) ls' st)) → W p l e R s m args below meth c H locs ce sl Q (F0 m pc ls st0)) : W p l e R s m args below meth c H locs ce sl Q (F0 m pc ls st0) := by
  subst hn
  unfold xst1 at h
  cases e0 : (xclr L i && Nat.blt i (xlen L))
  · rw [e0] at h; cases h
  · rw [e0] at h
    rw [Bool.and_eq_true, xlen_eq] at e0
    have e1 : i < L.length := Nat.blt_eq.mp e0.2
    rw [cond_true, xset_eq] at h
    have hw := xgo_win h hk
    obtain ⟨lv, g1, g2⟩ := hL.list
    exact row lv g1 (Nat.lt_of_lt_of_le e1 hL.2.1) fun ls' h' => hw ls' st H locs (hL.store1 g2 e0.1 hv h') hS hE hW hl hf
theorem xs_st {i t len : Nat} (hn : nx = pc + len) (h : xst nx L S E Hx n ce sl t i = some o) (hk : XOk p l e R s m args below meth c Q G D nL Rt o)
    (rowi : t = 0 → ∀ (H : Heap) (locs : List Loc) (ls : Array Slot) (st : List Value) (x : Int32) (lv : List (Nat × Value)), lv_has ls nL lv → i < nL → (∀ ls' : Array Slot, lv_has ls' nL ((i, .int x) :: lv.filter (fun q => !(q.1 == i) && !(q.1 + 1 == i && q.2.category == 2))) → W p l e R s m args below meth c H locs ce sl Q (F0 m (pc + len) ls' st)) → W p l e R s m args below meth c H locs ce sl Q (F0 m pc ls (.int x :: st)))
    (rowa : t = 2 → ∀ (H : Heap) (locs : List Loc) (ls : Array Slot) (st : List Value) (x : Nat) (lv : List (Nat × Value)), lv_has ls nL lv → i < nL → (∀ ls' : Array Slot, lv_has ls' nL ((i, .ref x) :: lv.filter (fun q => !(q.1 == i) && !(q.1 + 1 == i && q.2.category == 2))) → W p l e R s m args below meth c H locs ce sl Q (F0 m (pc + len) ls' st)) → W p l e R s m args below meth c H locs ce sl Q (F0 m pc ls (.ref x :: st)))
    (rowl : t = 1 → ∀ (H : Heap) (locs : List Loc) (ls : Array Slot) (st : List Value) (x : Int64) (lv : List (Nat × Value)), lv_has ls nL lv → i + 1 < nL → (∀ ls' : Array Slot, lv_has ls' nL ((i, .long x) :: lv.filter (fun q => !(q.1 == i) && (!(q.1 == i + 1) && !(q.1 + 1 == i && q.2.category == 2)))) → W p l e R s m args below meth c H locs ce sl Q (F0 m (pc + len) ls' st)) → W p l e R s m args below meth c H locs ce sl Q (F0 m pc ls (.long x :: st))) : XWin p l e R s m args below meth c Q G D nL (pc, L, S, E, Hx, n, ce, sl) := by
  intro ls st H locs hL hS hE hW hl hf
  unfold xst at h
  split at h
  · obtain ⟨w, st', rfl, h1, h2⟩ := XSok_cons hS
    cases ht : Nat.beq t 0
    · rw [ht] at h; cases h
    · rw [ht] at h
      obtain ⟨x, rfl, h3⟩ := id h1
      exact xs_st1 hn h hk hL h1 h2 hE hW hl hf (rowi (Nat.eq_of_beq_eq_true ht) H locs ls st' x)
  · obtain ⟨w, st', rfl, h1, h2⟩ := XSok_cons hS
    cases ht : Nat.beq t 2
    · rw [ht] at h; cases h
    · rw [ht] at h
      have h3 : w = .ref _ := h1
      subst h3
      exact xs_st1 hn h hk hL h1 h2 hE hW hl hf (rowa (Nat.eq_of_beq_eq_true ht) H locs ls st' _)
  · obtain ⟨w, st', rfl, h1, h2⟩ := XSok_cons hS
    cases ht : (Nat.beq t 1 && xclr L i && Nat.blt (i + 1) (xlen L))
    · rw [ht] at h; cases h
    · rw [ht] at h
      rw [Bool.and_eq_true, Bool.and_eq_true, xlen_eq] at ht
      have e1 : i + 1 < L.length := Nat.blt_eq.mp ht.2
      obtain ⟨x, rfl, h3⟩ := id h1
      rw [cond_true, xset_eq, xset_eq] at h
      have hw := xgo_win h hk
      obtain ⟨lv, g1, g2⟩ := hL.list
      subst hn
      exact rowl (Nat.eq_of_beq_eq_true ht.1.1) H locs ls st' x lv g1 (Nat.lt_of_lt_of_le e1 hL.2.1) fun ls' h' => hw ls' st' H locs (hL.store2 g2 ht.1.2 h1 h') h2 hE hW hl hf
  · cases h
theorem xs_ii {f : XVI → XVI → (XVI → XO) → XO} {g : Int32 → Int32 → Int32} {len : Nat} (hn : nx = pc + len) (h : xii nx L S E Hx n ce sl f = some o) (hk : XOk p l e R s m args below meth c Q G D nL Rt o)
    (hfg : ∀ (x y : XVI) (i j : Int32), XEok G.2.2 E → XIok G.2.2 x i.toInt → XIok G.2.2 y j.toInt → ∃ w : XVI, XIok G.2.2 w (g i j).toInt ∧ ∀ k : XVI → XO, f x y k = k w)
    (row : ∀ (H : Heap) (locs : List Loc) (ls : Array Slot) (st : List Value) (x y : Int32), W p l e R s m args below meth c H locs ce sl Q (F0 m (pc + len) ls (.int (g x y) :: st)) → W p l e R s m args below meth c H locs ce sl Q (F0 m pc ls (.int y :: .int x :: st))) : XWin p l e R s m args below meth c Q G D nL (pc, L, S, E, Hx, n, ce, sl) := by
  subst hn
  intro ls st H locs hL hS hE hW hl hf
  unfold xii at h
  split at h
  · obtain ⟨w1, st1, rfl, h1, h2⟩ := XSok_cons hS
    obtain ⟨w2, st2, rfl, h3, h4⟩ := XSok_cons h2
    obtain ⟨y, rfl, h5⟩ := h1
    obtain ⟨x, rfl, h6⟩ := h3
    obtain ⟨w, h7, h8⟩ := hfg _ _ x y hE h6 h5
    rw [h8] at h
    exact row H locs ls st2 x y (xgo_win h hk ls _ H locs hL ⟨⟨_, rfl, h7⟩, h4⟩ hE hW hl hf)
  · cases h
theorem xs_ll {f : Int × Int → Int × Int → (Int × Int → XO) → XO} {g : Int64 → Int64 → Int64} {len : Nat} (hn : nx = pc + len) (h : xll nx L S E Hx n ce sl f = some o) (hk : XOk p l e R s m args below meth c Q G D nL Rt o)
    (hfg : ∀ (x y : Int × Int) (i j : Int64), x.1 ≤ i.toInt → i.toInt ≤ x.2 → y.1 ≤ j.toInt → j.toInt ≤ y.2 → ∃ w : Int × Int, (w.1 ≤ (g i j).toInt ∧ (g i j).toInt ≤ w.2) ∧ ∀ k : Int × Int → XO, f x y k = k w)
    (row : ∀ (H : Heap) (locs : List Loc) (ls : Array Slot) (st : List Value) (x y : Int64), W p l e R s m args below meth c H locs ce sl Q (F0 m (pc + len) ls (.long (g x y) :: st)) → W p l e R s m args below meth c H locs ce sl Q (F0 m pc ls (.long y :: .long x :: st))) : XWin p l e R s m args below meth c Q G D nL (pc, L, S, E, Hx, n, ce, sl) := by
  subst hn
  intro ls st H locs hL hS hE hW hl hf
  unfold xll at h
  split at h
  · obtain ⟨w1, st1, rfl, h1, h2⟩ := XSok_cons hS
    obtain ⟨w2, st2, rfl, h3, h4⟩ := XSok_cons h2
    obtain ⟨y, rfl, h5, h5'⟩ := h1
    obtain ⟨x, rfl, h6, h6'⟩ := h3
    obtain ⟨w, h7, h8⟩ := hfg _ _ x y h6 h6' h5 h5'
    rw [h8] at h
    exact row H locs ls st2 x y (xgo_win h hk ls _ H locs hL ⟨⟨_, rfl, h7⟩, h4⟩ hE hW hl hf)
  · cases h
theorem xlfold_ok (f : Int64 → Int64 → Int64) {x y : Int × Int} {i j : Int64} (h1 : x.1 ≤ i.toInt) (h2 : i.toInt ≤ x.2) (h3 : y.1 ≤ j.toInt) (h4 : j.toInt ≤ y.2) : ∃ w : Int × Int, (w.1 ≤ (f i j).toInt ∧ (f i j).toInt ≤ w.2) ∧ ∀ k : Int × Int → XO, xlfold f x y k = k w := by
  unfold xlfold
  cases e0 : (xeq x.1 x.2 && xeq y.1 y.2)
  · exact ⟨(xqLMIN, xqLMAX), xi64 _, fun k => rfl⟩
  · rw [Bool.and_eq_true, xeq_iff, xeq_iff] at e0
    rw [xof64 h1 h2 e0.1, xof64 h3 h4 e0.2]
    exact ⟨_, ⟨Int.le_refl _, Int.le_refl _⟩, fun k => by rw [cond_true, fI_eq]⟩
/-- a test and its two ways -/
theorem xs_br {tg : Nat} {S' : List XV} {t : XT} {P : Prop} {H : Heap} {locs : List Loc} {ls : Array Slot} {st : List Value} {g : JFrame} (h : xbr nx tg L S' Hx n ce sl E t = some o) (hk : XOk p l e R s m args below meth c Q G D nL Rt o) (ht : XTok G.2.2 t P) (hL : XLok G L ls nL) (hS : XSok G S' st) (hE : XEok G.2.2 E) (hW : XWok G D s Hx n H) (hl : ∀ q ∈ locs, G.1 ≤ q.base) (hf : ∀ q : Nat, q < G.1 → H[q]? = s.heap[q]?)
    (row : (P → W p l e R s m args below meth c H locs ce sl Q (F0 m tg ls st)) → (¬ P → W p l e R s m args below meth c H locs ce sl Q (F0 m nx ls st)) → W p l e R s m args below meth c H locs ce sl Q g) : W p l e R s m args below meth c H locs ce sl Q g := by
  rcases t with (_ | _) | ⟨e1, e2⟩
  · have ht : false = true ↔ P := ht
    exact row (fun hp => absurd (ht.mpr hp) (by decide)) (fun _ => xgo_win (o := o) h hk ls st H locs hL hS hE hW hl hf)
  · have ht : true = true ↔ P := ht
    exact row (fun _ => xgo_win (o := o) h hk ls st H locs hL hS hE hW hl hf) (fun hp => absurd (ht.mp rfl) hp)
  · cases h
    have hk : ∀ y ∈ [(tg, L, S', e1, Hx, n, ce, sl), (nx, L, S', e2, Hx, n, ce, sl)], XWin p l e R s m args below meth c Q G D nL y := hk
    exact row (fun hp => hk _ List.mem_cons_self ls st H locs hL hS (ht.1 hp) hW hl hf) (fun hp => hk _ (List.mem_cons_of_mem _ List.mem_cons_self) ls st H locs hL hS (ht.2 hp) hW hl hf)
end XQ1
