/-! THE CLAIM OUT OF ONE WALK OF THE LAW'S BODY. Your part is whole_start (and what it stands on); all else here is the same for every law, but numbers. -/
def R_law : String := "ClaySlipsLaw"
def lw_P (b : Addr) (xs : List Int32) (args : Array Value) (s : State) : Prop := args = #[.ref b] ∧ s.IntsAt b xs ∧ xs.length ≤ 5 ∧ (Jvm.Cond.and given_1 narrow_1).before args s = true
def lw_Q (_ : Array Value) (s : State) (o : Outcome) (t : State) : Prop := o = .returned (some (.int 1)) ∧ Framed s o t [] 600000 7302250
def lw_Z (below : List Frame) (a : Array Value) (s : State) : State → Prop := fun t => ∃ o, t.status = .running ∧ Ended t below o ∧ lw_Q a s o t
/-- the law's own end, with 1 on the stack, nothing written that was there before, its room as the claim has it -/
theorem lw_ret {p : Program} {l : Launch} {e : Env} {s : State} {m : MethodId} {below : List Frame} {meth : Method} {c : Code} {b : Nat} (hx : p.tables.exec = Jvm.exec) (hb : c.code = code) (hr : meth.sig.returnType = ret) (hlocks : meth.locks = false) {pc : Nat} {H : Heap} {ls : Array Slot} (hdg : decode code pc = .ok (.ireturn, 1)) : W p l e room_1 s m #[Value.ref b] below meth c H [] 600000 7302250 (lw_Z below #[Value.ref b] s) (F0 m pc ls [.int 1]) := by
  intro T hT X
  obtain ⟨fs, hret, hrun, hended, hW, hframe⟩ := X.leave (v := some (.int 1)) (hlocks := hlocks) (fun h => by rw [hr] at h; cases h)
  have hmeth' : T.vm.method? m = some meth := X.method'
  refine ⟨T.setFrames fs, ?_, .returned (some (.int 1)), hrun, hended, rfl, ⟨_, rfl⟩, hW, hframe⟩
  jvm_step X.here [X.here.top, hx, hb, hdg, hmeth', hr, ret, narrow_b1]
  (try refine ⟨rfl, ?_⟩); (try refine ⟨rfl, ?_⟩)
  first | (intro acts; rw [hret _ acts rfl rfl rfl]) | rw [hret _ _ rfl rfl rfl]
  exact Steps.refl _
/-- what holds at the law's entry: the machine, the code, the tables' words (any of lw_tbl by 'hts w (by decide +kernel)'), the script of L ints xs at the cell b, what the Statement gives of the start (any of its parts by flat_of_before) -/
def lw_At (p : Program) (s : State) (m : MethodId) (meth : Method) (c : Code) (b L : Nat) (xs : Nat → Int32) : Prop :=
  p.tables.exec = Jvm.exec ∧ c.code = code ∧ meth.sig.returnType = ret ∧ c.maxLocals = 4 ∧ s.vm.findClass R_law = some m.cls ∧ (∀ w ∈ lw_tbl, w.before #[Value.ref b] s = true) ∧ va_X b L xs s s.heap ∧ b < s.heap.size ∧ meth.locks = false ∧ (Jvm.Cond.and given_1 narrow_1).before #[Value.ref b] s = true
theorem xqmn {own mn' : String} {pc len op A : Nat} {B : Int} {nx r1 r2 r3 : Nat} {ws : List Nat} {ins : Instr} (h : xqokI own "law" pc len op A B nx r1 r2 r3 ws ins = true) : xqokI own mn' pc len op A B nx r1 r2 r3 ws ins = true := by
  cases ins with
  | putfield i =>
    obtain ⟨a1, a2, a3, a4, a5, a6, a7⟩ := of_decide_eq_true h
    refine decide_eq_true ⟨a1, a2, a3, a4, a5, a6, Or.inl ?_⟩
    rcases a7 with a7 | ⟨a7, -⟩
    · exact a7
    · exact absurd a7 (by decide)
  | _ => exact h
section XQ8
variable {p : Program} {l : Launch} {e : Env} {s : State} {m : MethodId} {below : List Frame} {meth : Method} {c : Code} {G : XG} {D : va_G} {b L : Nat} {xs : Nat → Int32}
/-- the law's steps: what the executor does, the machine does -/
theorem xlaw_step (C0 : lw_At p s m meth c b L xs) (hG : G.1 = s.heap.size) (GL : XGl G D s) {rs : List XRt} (hgood : xqgood rs = true) (x : XS) (o : XS ⊕ (List XS ⊕ XRt)) (hxo : xqstp x = some o) (hk : XOk p l e room_1 s m #[Value.ref b] below meth c (lw_Z below #[Value.ref b] s) G D 4 (fun r => r ∈ rs) o) : XWin p l e room_1 s m #[Value.ref b] below meth c (lw_Z below #[Value.ref b] s) G D 4 x := by
  obtain ⟨hx, hb, hr, hml, hown, hts0, hX, hbl, hlocks, hgv⟩ := id C0
  have hts : ∀ w ∈ xqgw, w.before #[Value.ref b] s = true := fun w hw => hts0 w (List.mem_filter.mp hw).1
  obtain ⟨pc, L', S, E', Hx', n', ce, sl⟩ := x
  unfold xqstp xstep at hxo
  dsimp only at hxo
  split at hxo
  · cases hxo
  · rename_i op A B' nx r1 r2 r3 hen
    have hp := xqtkL hen
    unfold xqokP at hp
    dsimp only at hp
    cases e1 : Nat.beq op 99
    · rw [e1, cond_false] at hp
      split at hp
      · rename_i ins len hdec
        have hown2 : s.vm.findClass "ClaySlipsLaw" = some m.cls := hown
        refine xs_disp (mn := meth.name) (d := 10) (rt := 2) (mc := 600000) (ms := 7302250) hx hb hml hown2 rfl hts GL (Nat.le_refl _) (Nat.le_refl _) (by decide) (by decide) (fun j hj => ⟨by show 10 + 1 ≤ 15; decide, ?_⟩) (xmet 10) ?_ ?_ ?_ hdec (xqmn hp) hxo hk
        · have := (xqcall_ok hj).2.2.2.2
          show 8 + (xqmll j + 11) + 36 * 10 ≤ 584
          omega
        · intro u E2 H2 n2 ce2 sl2 hrt hmem pc2 ls2 iv H locs hd1 h1 h2 hi2 hz hE2 hW2 hl2 hf2
          have hu := List.all_eq_true.mp hgood _ hmem
          have hone : iv = 1 := by
            obtain ⟨a1, b1, s1, o1⟩ := u
            have hu : (xeq a1 1 && xeq b1 1) = true := hu
            rw [Bool.and_eq_true, xeq_iff, xeq_iff] at hu
            obtain ⟨q1, q2, -⟩ := hi2
            dsimp only at q1 q2
            have e9 : (1 : Int32).toInt = 1 := rfl
            exact Int32.toInt_inj.mp (by omega)
          subst hone
          refine va_forget (fun q hq => by rw [← hG]; exact hl2 q hq) ?_
          refine W.widen h1 h2 ?_
          exact lw_ret hx hb hr hlocks hd1
        · intro u E2 H2 n2 ce2 sl2 hrt
          exact absurd hrt (by decide)
        · intro E2 H2 n2 ce2 sl2 hrt
          exact absurd hrt (by decide)
      · cases hp
    · have e1 := Nat.eq_of_beq_eq_true e1
      subst e1
      rw [xdisp99] at hxo
      cases hxo
theorem xlaw_run (C0 : lw_At p s m meth c b L xs) (hG : G.1 = s.heap.size) (GL : XGl G D s) {x : XS} {f : Nat} {rs : List XRt} (h : xloop xqstp f [x] [] = some rs) (hgood : xqgood rs = true) : XWin p l e room_1 s m #[Value.ref b] below meth c (lw_Z below #[Value.ref b] s) G D 4 x :=
  (xloop_ok (fun x o hxo hk => xlaw_step C0 hG GL hgood x o hxo hk) f [x] [] h).2 x List.mem_cons_self
theorem xreach_ok (C0 : lw_At p s m meth c b L xs) (hG : G.1 = s.heap.size) (GL : XGl G D s) {pc0 : Nat} : ∀ (f : Nat) (x y : XS), xreach pc0 f x = some y → XWin p l e room_1 s m #[Value.ref b] below meth c (lw_Z below #[Value.ref b] s) G D 4 y → XWin p l e room_1 s m #[Value.ref b] below meth c (lw_Z below #[Value.ref b] s) G D 4 x := by
  intro f
  induction f with
  | zero => intro x y h; cases h
  | succ f ih =>
    intro x y h hw
    rw [xreach_succ] at h
    cases e0 : Nat.beq x.1 pc0
    · rw [e0, cond_false] at h
      split at h
      · rename_i z hz
        exact xlaw_step (rs := []) C0 hG GL rfl x _ hz (ih z y h hw)
      · rename_i z hz
        refine xlaw_step (rs := []) C0 hG GL rfl x _ hz ?_
        intro z' hz'
        rw [List.mem_singleton.mp hz']
        exact ih z y h hw
      · cases h
    · rw [e0] at h
      cases h
      exact hw
end XQ8
/-- the switch, for one kind of call and a stretch of the first and the third argument -/
theorem xpin_win {p : Program} {l : Launch} {e : Env} {s : State} {m : MethodId} {below : List Frame} {meth : Method} {c : Code} {G : XG} {D : va_G} {b L : Nat} {xs : Nat → Int32} (C0 : lw_At p s m meth c b L xs) (hG : G.1 = s.heap.size) (GL : XGl G D s) {y : XS} (hy : xqy = some y) {k lo hi lo3 hi3 : Int} (hgo : xqgo k lo hi lo3 hi3 = true) (h1 : lo ≤ G.2.2 1) (h2 : G.2.2 1 ≤ hi) (h3 : lo3 ≤ G.2.2 3) (h4 : G.2.2 3 ≤ hi3) {i : Int32} (hik : i.toInt = k) {ls : Array Slot} {st : List Value} {H : Heap} {locs : List Loc} (hL : XLok G y.2.1 ls 4) (hS : XSok G y.2.2.1 (.int i :: st)) (hE : XEok G.2.2 y.2.2.2.1) (hW : XWok G D s y.2.2.2.2.1 y.2.2.2.2.2.1 H) (hl : ∀ q ∈ locs, G.1 ≤ q.base) (hf : ∀ q : Nat, q < G.1 → H[q]? = s.heap[q]?) : W p l e room_1 s m #[Value.ref b] below meth c H locs y.2.2.2.2.2.2.1 y.2.2.2.2.2.2.2 (lw_Z below #[Value.ref b] s) (F0 m y.1 ls (.int i :: st)) := by
  unfold xqgo at hgo
  rw [hy] at hgo
  dsimp only at hgo
  split at hgo
  · cases hgo
  rename_i rs hrs
  have hw := xlaw_run (l := l) (e := e) (below := below) C0 hG GL hrs hgo
  obtain ⟨pc, L', S, E, Hx, n, ce, sl⟩ := y
  unfold xqpin at hw
  split at hw
  · rename_i pc' L'' v S' a0 a1 a2 a3 E' H' n' ce' sl' heq
    cases heq
    refine hw ls (.int i :: st) H locs hL ⟨⟨i, rfl, by show k ≤ _; omega, by show _ ≤ k; omega, fun t ht => by cases ht⟩, hS.2⟩ ?_ hW hl hf
    intro t q hq
    match t, hq with
    | 0, hq => exact hE 0 q hq
    | 1, hq => cases hq; exact ⟨h1, h2⟩
    | 2, hq => exact hE 2 q hq
    | 3, hq => cases hq; exact ⟨h3, h4⟩
    | t + 4, hq => exact hE (t + 4) q hq
  · exact hw ls (.int i :: st) H locs hL hS hE hW hl hf
section XQ8R
variable {p : Program} {l : Launch} {e : Env} {s : State} {m : MethodId} {below : List Frame} {meth : Method} {c : Code} {G : XG} {D : va_G} {b L : Nat} {xs : Nat → Int32}
/-- the law's steps: what the executor does, the machine does -/
theorem xlaw_stepR (C0 : lw_At p s m meth c b L xs) (hG : G.1 = s.heap.size) (GL : XGl G D s) {rs : List XRt} (hgood : xqgood rs = true) (x : XS) (o : XS ⊕ (List XS ⊕ XRt)) (hxo : xqstpR x = some o) (hk : XOk p l e room_1 s m #[Value.ref b] below meth c (lw_Z below #[Value.ref b] s) G D 4 (fun r => r ∈ rs) o) : XWin p l e room_1 s m #[Value.ref b] below meth c (lw_Z below #[Value.ref b] s) G D 4 x := by
  obtain ⟨hx, hb, hr, hml, hown, hts0, hX, hbl, hlocks, hgv⟩ := id C0
  have hts : ∀ w ∈ xqgw, w.before #[Value.ref b] s = true := fun w hw => hts0 w (List.mem_filter.mp hw).1
  obtain ⟨pc, L', S, E', Hx', n', ce, sl⟩ := x
  unfold xqstpR xstep at hxo
  dsimp only at hxo
  split at hxo
  · cases hxo
  · rename_i op A B' nx r1 r2 r3 hen
    have hp := xqtkL hen
    unfold xqokP at hp
    dsimp only at hp
    cases e1 : Nat.beq op 99
    · rw [e1, cond_false] at hp
      split at hp
      · rename_i ins len hdec
        have hown2 : s.vm.findClass "ClaySlipsLaw" = some m.cls := hown
        refine xs_disp (mn := meth.name) (d := 10) (rt := 2) (mc := 600000) (ms := 7302250) hx hb hml hown2 rfl hts GL (Nat.le_refl _) (Nat.le_refl _) (by decide) (by decide) (fun j hj => ⟨by show 10 + 1 ≤ 15; decide, ?_⟩) (xmetR 10) ?_ ?_ ?_ hdec (xqmn hp) hxo hk
        · have := (xqcall_ok hj).2.2.2.2
          show 8 + (xqmll j + 11) + 36 * 10 ≤ 584
          omega
        · intro u E2 H2 n2 ce2 sl2 hrt hmem pc2 ls2 iv H locs hd1 h1 h2 hi2 hz hE2 hW2 hl2 hf2
          have hu := List.all_eq_true.mp hgood _ hmem
          have hone : iv = 1 := by
            obtain ⟨a1, b1, s1, o1⟩ := u
            have hu : (xeq a1 1 && xeq b1 1) = true := hu
            rw [Bool.and_eq_true, xeq_iff, xeq_iff] at hu
            obtain ⟨q1, q2, -⟩ := hi2
            dsimp only at q1 q2
            have e9 : (1 : Int32).toInt = 1 := rfl
            exact Int32.toInt_inj.mp (by omega)
          subst hone
          refine va_forget (fun q hq => by rw [← hG]; exact hl2 q hq) ?_
          refine W.widen h1 h2 ?_
          exact lw_ret hx hb hr hlocks hd1
        · intro u E2 H2 n2 ce2 sl2 hrt
          exact absurd hrt (by decide)
        · intro E2 H2 n2 ce2 sl2 hrt
          exact absurd hrt (by decide)
      · cases hp
    · have e1 := Nat.eq_of_beq_eq_true e1
      subst e1
      rw [xdisp99] at hxo
      cases hxo
theorem xlaw_runR (C0 : lw_At p s m meth c b L xs) (hG : G.1 = s.heap.size) (GL : XGl G D s) {x : XS} {f : Nat} {rs : List XRt} (h : xloop xqstpR f [x] [] = some rs) (hgood : xqgood rs = true) : XWin p l e room_1 s m #[Value.ref b] below meth c (lw_Z below #[Value.ref b] s) G D 4 x :=
  (xloop_ok (fun x o hxo hk => xlaw_stepR C0 hG GL hgood x o hxo hk) f [x] [] h).2 x List.mem_cons_self
end XQ8R
/-- the switch, for one kind of call and a stretch of the first and the third argument -/
theorem xpin_winR {p : Program} {l : Launch} {e : Env} {s : State} {m : MethodId} {below : List Frame} {meth : Method} {c : Code} {G : XG} {D : va_G} {b L : Nat} {xs : Nat → Int32} (C0 : lw_At p s m meth c b L xs) (hG : G.1 = s.heap.size) (GL : XGl G D s) {y : XS} (hy : xqy = some y) {k lo hi lo3 hi3 : Int} (hgo : xqgoR k lo hi lo3 hi3 = true) (h1 : lo ≤ G.2.2 1) (h2 : G.2.2 1 ≤ hi) (h3 : lo3 ≤ G.2.2 3) (h4 : G.2.2 3 ≤ hi3) {i : Int32} (hik : i.toInt = k) {ls : Array Slot} {st : List Value} {H : Heap} {locs : List Loc} (hL : XLok G y.2.1 ls 4) (hS : XSok G y.2.2.1 (.int i :: st)) (hE : XEok G.2.2 y.2.2.2.1) (hW : XWok G D s y.2.2.2.2.1 y.2.2.2.2.2.1 H) (hl : ∀ q ∈ locs, G.1 ≤ q.base) (hf : ∀ q : Nat, q < G.1 → H[q]? = s.heap[q]?) : W p l e room_1 s m #[Value.ref b] below meth c H locs y.2.2.2.2.2.2.1 y.2.2.2.2.2.2.2 (lw_Z below #[Value.ref b] s) (F0 m y.1 ls (.int i :: st)) := by
  unfold xqgoR at hgo
  rw [hy] at hgo
  dsimp only at hgo
  split at hgo
  · cases hgo
  rename_i rs hrs
  have hw := xlaw_runR (l := l) (e := e) (below := below) C0 hG GL hrs hgo
  obtain ⟨pc, L', S, E, Hx, n, ce, sl⟩ := y
  unfold xqpin at hw
  split at hw
  · rename_i pc' L'' v S' a0 a1 a2 a3 E' H' n' ce' sl' heq
    cases heq
    refine hw ls (.int i :: st) H locs hL ⟨⟨i, rfl, by show k ≤ _; omega, by show _ ≤ k; omega, fun t ht => by cases ht⟩, hS.2⟩ ?_ hW hl hf
    intro t q hq
    match t, hq with
    | 0, hq => exact hE 0 q hq
    | 1, hq => cases hq; exact ⟨h1, h2⟩
    | 2, hq => exact hE 2 q hq
    | 3, hq => cases hq; exact ⟨h3, h4⟩
    | t + 4, hq => exact hE (t + 4) q hq
  · exact hw ls (.int i :: st) H locs hL hS hE hW hl hf
theorem xrun13 {p : Program} {l : Launch} {e : Env} {s : State} {m : MethodId} {below : List Frame} {meth : Method} {c : Code} {G : XG} {D : va_G} {b L : Nat} {xs : Nat → Int32} (C0 : lw_At p s m meth c b L xs) (hG : G.1 = s.heap.size) (GL : XGl G D s) {y : XS} (hy : xqy = some y) (h1 : 0 ≤ G.2.2 1) (h2 : G.2.2 1 ≤ 400) (h3 : 0 ≤ G.2.2 3) (h4 : G.2.2 3 ≤ 1) {i : Int32} (hik : i.toInt = 13) {ls : Array Slot} {st : List Value} {H : Heap} {locs : List Loc} (hL : XLok G y.2.1 ls 4) (hS : XSok G y.2.2.1 (.int i :: st)) (hE : XEok G.2.2 y.2.2.2.1) (hW : XWok G D s y.2.2.2.2.1 y.2.2.2.2.2.1 H) (hl : ∀ q ∈ locs, G.1 ≤ q.base) (hf : ∀ q : Nat, q < G.1 → H[q]? = s.heap[q]?) : W p l e room_1 s m #[Value.ref b] below meth c H locs y.2.2.2.2.2.2.1 y.2.2.2.2.2.2.2 (lw_Z below #[Value.ref b] s) (F0 m y.1 ls (.int i :: st)) := by
  by_cases q : G.2.2 3 = 0
  · exact xpin_winR C0 hG GL hy xqr_13_4 h1 h2 (by omega) (by omega) hik hL hS hE hW hl hf
  · exact xpin_winR C0 hG GL hy xqr_13_5 h1 h2 (by omega) (by omega) hik hL hS hE hW hl hf
theorem xq_order {s : State} {b : Nat} (hts : ∀ w ∈ lw_tbl, w.before #[Value.ref b] s = true) (hgv : (Jvm.Cond.and given_1 narrow_1).before #[Value.ref b] s = true) : ∃ t : Nat, va_Z "ClaySlips" "ORDER" "[I" (.ref t) (fun q => s.heap.size ≤ q) s s.heap ∧ va_T .int t 18 xqorder (fun q => s.heap.size ≤ q) s s.heap := by
  have hs := flat_of_before _ hgv
  have hA : ∀ a : Nat, a < s.heap.size → ¬ s.heap.size ≤ a := fun a h => Nat.not_le.mpr h
  obtain ⟨t, h1, h2⟩ := va_Tof (tm := .static "ClaySlips" "ORDER" "[I") (ty := .int) (N := 18) (f := xqorder) (A := fun q => s.heap.size ≤ q) (by decide) (hs _ (by decide +kernel)) (va_eqt (z := 18) (hs _ (by decide +kernel))) (fun j hj => by
    match j, hj with
    | 0, _ => exact va_eqt (t := .elem (.static "ClaySlips" "ORDER" "[I") (.int 0)) (hs _ (by decide +kernel))
    | 1, _ => exact va_eqt (t := .elem (.static "ClaySlips" "ORDER" "[I") (.int 1)) (hs _ (by decide +kernel))
    | 2, _ => exact va_eqt (t := .elem (.static "ClaySlips" "ORDER" "[I") (.int 2)) (hs _ (by decide +kernel))
    | 3, _ => exact va_eqt (t := .elem (.static "ClaySlips" "ORDER" "[I") (.int 3)) (hs _ (by decide +kernel))
    | 4, _ => exact va_eqt (t := .elem (.static "ClaySlips" "ORDER" "[I") (.int 4)) (hs _ (by decide +kernel))
    | 5, _ => exact va_eqt (t := .elem (.static "ClaySlips" "ORDER" "[I") (.int 5)) (hs _ (by decide +kernel))
    | 6, _ => exact va_eqt (t := .elem (.static "ClaySlips" "ORDER" "[I") (.int 6)) (hs _ (by decide +kernel))
    | 7, _ => exact va_eqt (t := .elem (.static "ClaySlips" "ORDER" "[I") (.int 7)) (hs _ (by decide +kernel))
    | 8, _ => exact va_eqt (t := .elem (.static "ClaySlips" "ORDER" "[I") (.int 8)) (hs _ (by decide +kernel))
    | 9, _ => exact va_eqt (t := .elem (.static "ClaySlips" "ORDER" "[I") (.int 9)) (hs _ (by decide +kernel))
    | 10, _ => exact va_eqt (t := .elem (.static "ClaySlips" "ORDER" "[I") (.int 10)) (hs _ (by decide +kernel))
    | 11, _ => exact va_eqt (t := .elem (.static "ClaySlips" "ORDER" "[I") (.int 11)) (hs _ (by decide +kernel))
    | 12, _ => exact va_eqt (t := .elem (.static "ClaySlips" "ORDER" "[I") (.int 12)) (hs _ (by decide +kernel))
    | 13, _ => exact va_eqt (t := .elem (.static "ClaySlips" "ORDER" "[I") (.int 13)) (hs _ (by decide +kernel))
    | 14, _ => exact va_eqt (t := .elem (.static "ClaySlips" "ORDER" "[I") (.int 14)) (hs _ (by decide +kernel))
    | 15, _ => exact va_eqt (t := .elem (.static "ClaySlips" "ORDER" "[I") (.int 15)) (hs _ (by decide +kernel))
    | 16, _ => exact va_eqt (t := .elem (.static "ClaySlips" "ORDER" "[I") (.int 16)) (hs _ (by decide +kernel))
    | 17, _ => exact va_eqt (t := .elem (.static "ClaySlips" "ORDER" "[I") (.int 17)) (hs _ (by decide +kernel))
    | n + 18, hj => omega) hA
  exact ⟨t, va_Zref (hts (.laysStatic "ClaySlips" "ORDER" "[I") (by decide +kernel)) (hts (.initialized "ClaySlips") (by decide +kernel)) h1 hA, h2⟩
set_option maxHeartbeats 4000000 in
/-- YOUR PART: from the entry, for every script of at most 5 ints, the law comes to its end with true -/
theorem whole_start {p : Program} {e : Env} {s : State} {m : MethodId} {below : List Frame} {meth : Method} {c : Code} (l : Launch) (hflags : l.flags = flags0) {b L : Nat} {xs : Nat → Int32} (hL : L ≤ 5) (C0 : lw_At p s m meth c b L xs) : W p l e room_1 s m #[Value.ref b] below meth c s.heap [] 0 0 (lw_Z below #[Value.ref b] s) (entryFrame m ([Value.ref b] : List Value).toArray 4) := by
  obtain ⟨hx, hb, hr, hml, hown, hts0, hX, hbl, hlocks, hgv⟩ := id C0
  have hts : ∀ w ∈ xqgw, w.before #[Value.ref b] s = true := fun w hw => hts0 w (List.mem_filter.mp hw).1
  obtain ⟨c0, i0, k0⟩ := u_known (C := RX0) (T := TX0) (N := 9) (n := 9) hts xqin0 (hts0 (.instantiable RX0 9) (by decide +kernel))
  obtain ⟨c1, i1, k1⟩ := u_known (C := RX1) (T := TX1) (N := 2) (n := 2) hts xqin1 (hts0 (.instantiable RX1 2) (by decide +kernel))
  obtain ⟨c2, i2, k2⟩ := u_known (C := RX2) (T := TX2) (N := 8) (n := 8) hts xqin2 (hts0 (.instantiable RX2 8) (by decide +kernel))
  obtain ⟨c3, i3, k3⟩ := u_known (C := RX3) (T := TX3) (N := 10) (n := 10) hts xqin3 (hts0 (.instantiable RX3 10) (by decide +kernel))
  obtain ⟨c4, i4, k4⟩ := u_known (C := RX4) (T := TX4) (N := 14) (n := 14) hts xqin4 (hts0 (.instantiable RX4 14) (by decide +kernel))
  obtain ⟨c5, i5, k5⟩ := u_known (C := RX5) (T := TX5) (N := 25) (n := 25) hts xqin5 (hts0 (.instantiable RX5 25) (by decide +kernel))
  obtain ⟨dC, dI, hKc⟩ : ∃ (dC : Nat → ClassId) (dI : Nat → Nat → Nat), ∀ (k : Nat) (q : vw_C), xqcls[k]? = some q → u_Kn s q.1 q.2.1 q.2.2 (dC k) (dI k) := by
    refine ⟨fun k => match k with
      | 0 => c0
      | 1 => c1
      | 2 => c2
      | 3 => c3
      | 4 => c4
      | _ => c5, fun k => match k with
      | 0 => i0
      | 1 => i1
      | 2 => i2
      | 3 => i3
      | 4 => i4
      | _ => i5, ?_⟩
    intro k q hq
    match k, hq with
    | 0, hq => cases hq; exact k0
    | 1, hq => cases hq; exact k1
    | 2, hq => cases hq; exact k2
    | 3, hq => cases hq; exact k3
    | 4, hq => cases hq; exact k4
    | 5, hq => cases hq; exact k5
    | n + 6, hq => simp [xqcls] at hq
  obtain ⟨t, hZ, hT⟩ := xq_order hts0 hgv
  generalize hGd : ((s.heap.size, fun k => if k = 0 then b else t, fun j => if j < 5 then (xs j).toInt else (L : Int)) : XG) = G
  have hG : G.1 = s.heap.size := by rw [← hGd]
  have hsp0 : G.2.1 0 = b := by rw [← hGd]; rfl
  have hsp1 : G.2.1 1 = t := by rw [← hGd]; rfl
  have hro : ∀ j, j < 5 → G.2.2 j = (xs j).toInt := fun j hj => by rw [← hGd]; show (if j < 5 then _ else _) = _; rw [if_pos hj]
  have hro5 : G.2.2 5 = (L : Int) := by rw [← hGd]; rfl
  have GL : XGl G (dC, dI) s := by
    refine ⟨hKc, fun w hw => ?_, ⟨va_AO.of (hts0 (.arrayOver (.object RX0)) (by decide +kernel)), va_AO.of (hts0 (.arrayOver (.object RX1)) (by decide +kernel)), va_AO.of (hts0 (.arrayOver (.object RX2)) (by decide +kernel)), hts0 (.arrayOver (.array .int)) (by decide +kernel)⟩, by rw [hG]; exact Nat.le_refl _, ?_, ?_⟩
    · have hwt : w ∈ lw_tbl := by
        have key : ∀ w ∈ xqnest, w ∈ lw_tbl := by decide +kernel
        exact key w hw
      have hon : w.onTables = true := by
        have key : ∀ w ∈ xqnest, w.onTables = true := by decide +kernel
        exact key w hw
      exact va_Nw.of hon (hts0 w hwt)
    · rw [hsp1, hG]
      exact ⟨hZ, hT⟩
    · rw [hsp0]
      exact ⟨L, xs, hX, by rw [hG]; exact hbl, fun j hj => (hro j hj).symm, hro5, hL⟩
  rw [lg_entry_eq]
  have hl := lv_entry ([.ref b]) (n := 4) (Nat.le_of_ble_eq_true rfl)
  generalize (lg_sl ([.ref b]) ++ List.replicate (4 - (lg_sl ([.ref b])).length) Slot.unset).toArray = ls at hl ⊢
  have hLk : XLok G (xqx0 (xqE 0 4)).2.1 ls 4 := by
    refine ⟨hl.1, by decide, hl.2.1, fun i x hx => ?_⟩
    match i, hx with
    | 0, hx => cases hx; exact ⟨.ref b, hl.2.2 (0, .ref b) List.mem_cons_self, by show Value.ref b = .ref (G.2.1 0); rw [hsp0]⟩
    | 1, hx => cases hx
    | 2, hx => cases hx
    | 3, hx => cases hx
    | n + 4, hx => simp [xqx0] at hx
  have hEk : ∀ x y : Int, x ≤ (L : Int) → (L : Int) ≤ y → XEok G.2.2 (xqE x y) := by
    intro x y h1 h2 j q hq
    have h5 : ∀ j, j < 5 → xqMIN ≤ G.2.2 j ∧ G.2.2 j ≤ xqMAX := fun j hj => by rw [hro j hj]; exact xi32 _
    match j, hq with
    | 0, hq => cases hq; exact h5 0 (by decide)
    | 1, hq => cases hq; exact h5 1 (by decide)
    | 2, hq => cases hq; exact h5 2 (by decide)
    | 3, hq => cases hq; exact h5 3 (by decide)
    | 4, hq => cases hq; exact h5 4 (by decide)
    | 5, hq => cases hq; rw [hro5]; exact ⟨h1, h2⟩
    | n + 6, hq => simp [xqE] at hq
  have hWk : XWok G (dC, dI) s [] 0 s.heap := ⟨by rw [hG]; rfl, fun k c hk => by simp [hget, xnth] at hk⟩
  by_cases h4 : L ≤ 4
  · have hrun := xqr_small
    unfold xqrun at hrun
    split at hrun
    · cases hrun
    · rename_i rs hrs
      have hrs : xloop xqstp 1000000 [xqx0 (xqE 0 4)] [] = some rs := hrs
      exact xlaw_run C0 hG GL hrs hrun ls [] s.heap [] hLk trivial (hEk 0 4 (by omega) (by omega)) hWk (fun q hq => by cases hq) (fun q hq => rfl)
  · have hL5 : L = 5 := by omega
    have hsh := xqr_shape
    unfold xqshape at hsh
    split at hsh
    rotate_left
    · cases hsh
    rename_i pc' L' S' a0 xa xb a2 xc xd E' tl hy
    obtain ⟨H', n', ce', sl'⟩ := tl
    refine xreach_ok C0 hG GL 1000000 (xqx0 (xqE 5 5)) _ hy ?_ ls [] s.heap [] hLk trivial (hEk 5 5 (by omega) (by omega)) hWk (fun q hq => by cases hq) (fun q hq => rfl)
    clear hLk hWk hl ls
    intro ls st H locs hLk hSk hE2 hW2 hl2 hf2
    obtain ⟨w1, st1, rfl, ⟨i, rfl, hi0, hi1, -⟩, hSk2⟩ := XSok_cons hSk
    dsimp only at hi0 hi1
    have hSk : XSok G (.inl (0, 31, 0, 0) :: S') (.int i :: st1) := ⟨⟨i, rfl, hi0, hi1, fun t ht => by cases ht⟩, hSk2⟩
    have f1 : xqMIN ≤ G.2.2 1 ∧ G.2.2 1 ≤ xqMAX := by rw [hro 1 (by decide)]; exact xi32 _
    have f3 : xqMIN ≤ G.2.2 3 ∧ G.2.2 3 ≤ xqMAX := by rw [hro 3 (by decide)]; exact xi32 _
    have go : ∀ {k lo hi : Int}, xqgo k lo hi xqMIN xqMAX = true → i.toInt = k → lo ≤ G.2.2 1 → G.2.2 1 ≤ hi → W p l e room_1 s m #[Value.ref b] below meth c H locs ce' sl' (lw_Z below #[Value.ref b] s) (F0 m pc' ls (.int i :: st1)) := fun hgo hik h1 h2 => xpin_win C0 hG GL hy hgo h1 h2 f3.1 f3.2 hik hLk hSk hE2 hW2 hl2 hf2
    have hk : i.toInt = 0 ∨ i.toInt = 1 ∨ i.toInt = 2 ∨ i.toInt = 3 ∨ i.toInt = 4 ∨ i.toInt = 5 ∨ i.toInt = 6 ∨ i.toInt = 7 ∨ i.toInt = 8 ∨ i.toInt = 9 ∨ i.toInt = 10 ∨ i.toInt = 11 ∨ i.toInt = 12 ∨ i.toInt = 13 ∨ i.toInt = 14 ∨ i.toInt = 15 ∨ i.toInt = 16 ∨ i.toInt = 17 ∨ i.toInt = 18 ∨ i.toInt = 19 ∨ i.toInt = 20 ∨ i.toInt = 21 ∨ i.toInt = 22 ∨ i.toInt = 23 ∨ i.toInt = 24 ∨ i.toInt = 25 ∨ i.toInt = 26 ∨ i.toInt = 27 ∨ i.toInt = 28 ∨ i.toInt = 29 ∨ i.toInt = 30 ∨ i.toInt = 31 := by omega
    rcases hk with hk | hk | hk | hk | hk | hk | hk | hk | hk | hk | hk | hk | hk | hk | hk | hk | hk | hk | hk | hk | hk | hk | hk | hk | hk | hk | hk | hk | hk | hk | hk | hk
    · exact go xqr_0 hk f1.1 f1.2
    · exact go xqr_1 hk f1.1 f1.2
    · exact go xqr_2 hk f1.1 f1.2
    · exact go xqr_3 hk f1.1 f1.2
    · exact go xqr_4 hk f1.1 f1.2
    · exact go xqr_5 hk f1.1 f1.2
    · exact go xqr_6 hk f1.1 f1.2
    · exact go xqr_7 hk f1.1 f1.2
    · exact go xqr_8 hk f1.1 f1.2
    · exact go xqr_9 hk f1.1 f1.2
    · exact go xqr_10 hk f1.1 f1.2
    · exact go xqr_11 hk f1.1 f1.2
    · exact go xqr_12 hk f1.1 f1.2
    · by_cases q1 : G.2.2 1 < 0
      · exact go xqr_13_0 hk f1.1 (by omega)
      by_cases q2 : 400 < G.2.2 1
      · exact go xqr_13_1 hk (by omega) f1.2
      by_cases q3 : G.2.2 3 < 0
      · exact xpin_win C0 hG GL hy xqr_13_2 f1.1 f1.2 f3.1 (by omega) hk hLk hSk hE2 hW2 hl2 hf2
      by_cases q4 : 1 < G.2.2 3
      · exact xpin_win C0 hG GL hy xqr_13_3 f1.1 f1.2 (by omega) f3.2 hk hLk hSk hE2 hW2 hl2 hf2
      exact xrun13 C0 hG GL hy (by omega) (by omega) (by omega) (by omega) hk hLk hSk hE2 hW2 hl2 hf2
    · exact go xqr_14 hk f1.1 f1.2
    · by_cases q0 : G.2.2 1 ≤ -1
      · exact go xqr_15_0 hk f1.1 (by omega)
      by_cases q1 : G.2.2 1 ≤ 0
      · exact go xqr_15_1 hk (by omega) (by omega)
      by_cases q2 : G.2.2 1 ≤ 1
      · exact go xqr_15_2 hk (by omega) (by omega)
      by_cases q3 : G.2.2 1 ≤ 2
      · exact go xqr_15_3 hk (by omega) (by omega)
      exact go xqr_15_4 hk (by omega) f1.2
    · exact go xqr_16 hk f1.1 f1.2
    · exact go xqr_17 hk f1.1 f1.2
    · exact go xqr_18 hk f1.1 f1.2
    · exact go xqr_19 hk f1.1 f1.2
    · exact go xqr_20 hk f1.1 f1.2
    · exact go xqr_21 hk f1.1 f1.2
    · exact go xqr_22 hk f1.1 f1.2
    · by_cases q0 : G.2.2 1 ≤ -1
      · exact go xqr_23_0 hk f1.1 (by omega)
      by_cases q1 : G.2.2 1 ≤ 0
      · exact go xqr_23_1 hk (by omega) (by omega)
      by_cases q2 : G.2.2 1 ≤ 1
      · exact go xqr_23_2 hk (by omega) (by omega)
      exact go xqr_23_3 hk (by omega) f1.2
    · exact go xqr_24 hk f1.1 f1.2
    · exact go xqr_25 hk f1.1 f1.2
    · exact go xqr_26 hk f1.1 f1.2
    · exact go xqr_27 hk f1.1 f1.2
    · exact go xqr_28 hk f1.1 f1.2
    · exact go xqr_29 hk f1.1 f1.2
    · exact go xqr_30 hk f1.1 f1.2
    · exact go xqr_31 hk f1.1 f1.2
