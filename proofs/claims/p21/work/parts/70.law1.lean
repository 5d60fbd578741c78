/-- a stretch of a method's table -/
noncomputable def xqokR (own mn : String) (cc : ByteArray) (T : List (List XI)) (ws : List (List Nat)) (a k : Nat) : Bool := (List.range k).all fun j => match xtab T (a + j) with
  | none => true
  | some en => xqokP own mn cc ws (a + j) en
theorem xqokR_ok {own mn : String} {cc : ByteArray} {T : List (List XI)} {ws : List (List Nat)} {a k : Nat} (h : xqokR own mn cc T ws a k = true) {pc : Nat} (h1 : a ≤ pc) (h2 : pc < a + k) {en : XI} (ht : xtab T pc = some en) : xqokP own mn cc ws pc en = true := by
  have h3 := List.all_eq_true.mp h (pc - a) (List.mem_range.mpr (by omega))
  rw [show a + (pc - a) = pc by omega, ht] at h3
  exact h3
set_option maxRecDepth 100000 in
theorem xqtkL0 : xqokR "ClaySlipsLaw" "law" code xqTL xqTL_w 0 40 = true := by decide +kernel
set_option maxRecDepth 100000 in
theorem xqtkL1 : xqokR "ClaySlipsLaw" "law" code xqTL xqTL_w 40 40 = true := by decide +kernel
set_option maxRecDepth 100000 in
theorem xqtkL2 : xqokR "ClaySlipsLaw" "law" code xqTL xqTL_w 80 40 = true := by decide +kernel
set_option maxRecDepth 100000 in
theorem xqtkL3 : xqokR "ClaySlipsLaw" "law" code xqTL xqTL_w 120 40 = true := by decide +kernel
set_option maxRecDepth 100000 in
theorem xqtkL4 : xqokR "ClaySlipsLaw" "law" code xqTL xqTL_w 160 40 = true := by decide +kernel
set_option maxRecDepth 100000 in
theorem xqtkL5 : xqokR "ClaySlipsLaw" "law" code xqTL xqTL_w 200 40 = true := by decide +kernel
set_option maxRecDepth 100000 in
theorem xqtkL6 : xqokR "ClaySlipsLaw" "law" code xqTL xqTL_w 240 40 = true := by decide +kernel
set_option maxRecDepth 100000 in
theorem xqtkL7 : xqokR "ClaySlipsLaw" "law" code xqTL xqTL_w 280 40 = true := by decide +kernel
set_option maxRecDepth 100000 in
theorem xqtkL8 : xqokR "ClaySlipsLaw" "law" code xqTL xqTL_w 320 40 = true := by decide +kernel
set_option maxRecDepth 100000 in
theorem xqtkL9 : xqokR "ClaySlipsLaw" "law" code xqTL xqTL_w 360 40 = true := by decide +kernel
set_option maxRecDepth 100000 in
theorem xqtkL10 : xqokR "ClaySlipsLaw" "law" code xqTL xqTL_w 400 40 = true := by decide +kernel
set_option maxRecDepth 100000 in
theorem xqtkL11 : xqokR "ClaySlipsLaw" "law" code xqTL xqTL_w 440 40 = true := by decide +kernel
set_option maxRecDepth 100000 in
theorem xqtkL12 : xqokR "ClaySlipsLaw" "law" code xqTL xqTL_w 480 40 = true := by decide +kernel
set_option maxRecDepth 100000 in
theorem xqtkL13 : xqokR "ClaySlipsLaw" "law" code xqTL xqTL_w 520 40 = true := by decide +kernel
set_option maxRecDepth 100000 in
theorem xqtkL14 : xqokR "ClaySlipsLaw" "law" code xqTL xqTL_w 560 40 = true := by decide +kernel
set_option maxRecDepth 100000 in
theorem xqtkL15 : xqokR "ClaySlipsLaw" "law" code xqTL xqTL_w 600 40 = true := by decide +kernel
set_option maxRecDepth 100000 in
theorem xqtkL16 : xqokR "ClaySlipsLaw" "law" code xqTL xqTL_w 640 40 = true := by decide +kernel
set_option maxRecDepth 100000 in
theorem xqtkL17 : xqokR "ClaySlipsLaw" "law" code xqTL xqTL_w 680 40 = true := by decide +kernel
set_option maxRecDepth 100000 in
theorem xqtkL18 : xqokR "ClaySlipsLaw" "law" code xqTL xqTL_w 720 40 = true := by decide +kernel
set_option maxRecDepth 100000 in
theorem xqtkL19 : xqokR "ClaySlipsLaw" "law" code xqTL xqTL_w 760 40 = true := by decide +kernel
set_option maxRecDepth 100000 in
theorem xqtkL20 : xqokR "ClaySlipsLaw" "law" code xqTL xqTL_w 800 40 = true := by decide +kernel
set_option maxRecDepth 100000 in
theorem xqtkL21 : xqokR "ClaySlipsLaw" "law" code xqTL xqTL_w 840 40 = true := by decide +kernel
set_option maxRecDepth 100000 in
theorem xqtkL22 : xqokR "ClaySlipsLaw" "law" code xqTL xqTL_w 880 40 = true := by decide +kernel
set_option maxRecDepth 100000 in
theorem xqtkL23 : xqokR "ClaySlipsLaw" "law" code xqTL xqTL_w 920 40 = true := by decide +kernel
theorem xqtkL_len : xqTL.length = 59 := rfl
theorem xqtkL {pc : Nat} {en : XI} (ht : xtab xqTL pc = some en) : xqokP "ClaySlipsLaw" "law" code xqTL_w pc en = true := by
  have hlt : pc < 16 * 59 := by
    unfold xtab at ht
    split at ht
    · cases ht
    · rename_i l hl
      rw [xnth_eq] at hl
      have := (List.getElem?_eq_some_iff.mp hl).1
      rw [xqtkL_len] at this
      omega
  by_cases h0 : pc < 40
  · exact xqokR_ok xqtkL0 (by omega) (by omega) ht
  by_cases h1 : pc < 80
  · exact xqokR_ok xqtkL1 (by omega) (by omega) ht
  by_cases h2 : pc < 120
  · exact xqokR_ok xqtkL2 (by omega) (by omega) ht
  by_cases h3 : pc < 160
  · exact xqokR_ok xqtkL3 (by omega) (by omega) ht
  by_cases h4 : pc < 200
  · exact xqokR_ok xqtkL4 (by omega) (by omega) ht
  by_cases h5 : pc < 240
  · exact xqokR_ok xqtkL5 (by omega) (by omega) ht
  by_cases h6 : pc < 280
  · exact xqokR_ok xqtkL6 (by omega) (by omega) ht
  by_cases h7 : pc < 320
  · exact xqokR_ok xqtkL7 (by omega) (by omega) ht
  by_cases h8 : pc < 360
  · exact xqokR_ok xqtkL8 (by omega) (by omega) ht
  by_cases h9 : pc < 400
  · exact xqokR_ok xqtkL9 (by omega) (by omega) ht
  by_cases h10 : pc < 440
  · exact xqokR_ok xqtkL10 (by omega) (by omega) ht
  by_cases h11 : pc < 480
  · exact xqokR_ok xqtkL11 (by omega) (by omega) ht
  by_cases h12 : pc < 520
  · exact xqokR_ok xqtkL12 (by omega) (by omega) ht
  by_cases h13 : pc < 560
  · exact xqokR_ok xqtkL13 (by omega) (by omega) ht
  by_cases h14 : pc < 600
  · exact xqokR_ok xqtkL14 (by omega) (by omega) ht
  by_cases h15 : pc < 640
  · exact xqokR_ok xqtkL15 (by omega) (by omega) ht
  by_cases h16 : pc < 680
  · exact xqokR_ok xqtkL16 (by omega) (by omega) ht
  by_cases h17 : pc < 720
  · exact xqokR_ok xqtkL17 (by omega) (by omega) ht
  by_cases h18 : pc < 760
  · exact xqokR_ok xqtkL18 (by omega) (by omega) ht
  by_cases h19 : pc < 800
  · exact xqokR_ok xqtkL19 (by omega) (by omega) ht
  by_cases h20 : pc < 840
  · exact xqokR_ok xqtkL20 (by omega) (by omega) ht
  by_cases h21 : pc < 880
  · exact xqokR_ok xqtkL21 (by omega) (by omega) ht
  by_cases h22 : pc < 920
  · exact xqokR_ok xqtkL22 (by omega) (by omega) ht
  by_cases h23 : pc < 960
  · exact xqokR_ok xqtkL23 (by omega) (by omega) ht
  omega
noncomputable def xqstp : XS → XO := xstep (xmeth 10) xqcst xqTL 2 600000 7302250
noncomputable def xreach (pc0 : Nat) (f : Nat) : XS → Option XS := Nat.rec (fun _ => none) (fun _ ih x => bif Nat.beq x.1 pc0 then some x else (match xqstp x with
  | some (.inl y) => ih y
  | some (.inr (.inl [y])) => ih y
  | _ => none)) f
theorem xreach_succ (pc0 f : Nat) (x : XS) : xreach pc0 (f + 1) x = bif Nat.beq x.1 pc0 then some x else (match xqstp x with
  | some (.inl y) => xreach pc0 f y
  | some (.inr (.inl [y])) => xreach pc0 f y
  | _ => none) := rfl
def R_law : String := "ClaySlipsLaw"
def lw_P (b : Addr) (xs : List Int32) (args : Array Value) (s : State) : Prop := args = #[.ref b] ∧ s.IntsAt b xs ∧ xs.length ≤ 320 ∧ (Jvm.Cond.and given_1 narrow_1).before args s = true
def lw_Q (_ : Array Value) (s : State) (o : Outcome) (t : State) : Prop := o = .returned (some (.int 1)) ∧ Framed s o t [] 600000 7302250
def lw_Z (below : List Frame) (a : Array Value) (s : State) : State → Prop := fun t => ∃ o, t.status = .running ∧ Ended t below o ∧ lw_Q a s o t
/-- the law's own end, with 1 on the stack, nothing written that was there before, its room as the claim has it -/
theorem lw_ret {p : Program} {l : Launch} {e : Env} {s : State} {m : MethodId} {below : List Frame} {meth : Method} {c : Code} {b : Nat} (hx : p.tables.exec = Jvm.exec) (hb : c.code = code) (hr : meth.sig.returnType = ret) (hlocks : meth.locks = false) {pc : Nat} {H : Heap} {ls : Array Slot} (hdg : decode code pc = .ok (.ireturn, 1)) : W p l e room_1 s m #[Value.ref b] below meth c H [] 600000 7302250 (lw_Z below #[Value.ref b] s) (F0 m pc ls [.int 1]) := by
  intro T hT X
  obtain ⟨fs, hret, hrun, hended, hW, hframe⟩ := X.leave (v := some (.int 1)) (hlocks := hlocks) (fun h => by rw [hr] at h; cases h)
  have hmeth' : T.vm.method? m = some meth := X.method'
  refine ⟨T.setFrames fs, ?_, .returned (some (.int 1)), hrun, hended, rfl, ⟨_, rfl⟩, hW, hframe⟩
  jvm_step X.here [X.here.top, hx, hb, hdg, hmeth', hr, ret, narrow_b1]
  (try refine ⟨rfl, ?_⟩); (try refine ⟨rfl, ?_⟩)
  first | (intro acts; rw [hret _ acts rfl rfl rfl]) | rw [hret _ _ rfl rfl rfl]
  exact Steps.refl _
/-- what holds at the law's entry: the machine, the code, the tables' words (any of lw_tbl by 'hts w (by decide +kernel)'), the script of L ints xs at the cell b, what the Statement gives of the start (any of its parts by flat_of_before) -/
def lw_At (p : Program) (s : State) (m : MethodId) (meth : Method) (c : Code) (b L : Nat) (xs : Nat → Int32) : Prop :=
  p.tables.exec = Jvm.exec ∧ c.code = code ∧ meth.sig.returnType = ret ∧ c.maxLocals = 4 ∧ s.vm.findClass R_law = some m.cls ∧ (∀ w ∈ lw_tbl, w.before #[Value.ref b] s = true) ∧ va_X b L xs s s.heap ∧ b < s.heap.size ∧ meth.locks = false ∧ (Jvm.Cond.and given_1 narrow_1).before #[Value.ref b] s = true
theorem xqmn {own mn' : String} {pc len op A : Nat} {B : Int} {nx r1 r2 r3 : Nat} {ws : List Nat} {ins : Instr} (h : xqokI own "law" pc len op A B nx r1 r2 r3 ws ins = true) : xqokI own mn' pc len op A B nx r1 r2 r3 ws ins = true := by
  cases ins with
  | putfield i =>
    obtain ⟨a1, a2, a3, a4, a5, a6, a7⟩ := of_decide_eq_true h
    refine decide_eq_true ⟨a1, a2, a3, a4, a5, a6, Or.inl ?_⟩
    rcases a7 with a7 | ⟨a7, -⟩
    · exact a7
    · exact absurd a7 (by decide)
  | _ => exact h
section XQ8
variable {p : Program} {l : Launch} {e : Env} {s : State} {m : MethodId} {below : List Frame} {meth : Method} {c : Code} {G : XG} {D : va_G} {b L : Nat} {xs : Nat → Int32}
/-- the law's steps: what the executor does, the machine does -/
theorem xlaw_step (C0 : lw_At p s m meth c b L xs) (hG : G.1 = s.heap.size) (GL : XGl G D s) {rs : List XRt} (hgood : xqgood rs = true) (x : XS) (o : XS ⊕ (List XS ⊕ XRt)) (hxo : xqstp x = some o) (hk : XOk p l e room_1 s m #[Value.ref b] below meth c (lw_Z below #[Value.ref b] s) G D 4 (fun r => r ∈ rs) o) : XWin p l e room_1 s m #[Value.ref b] below meth c (lw_Z below #[Value.ref b] s) G D 4 x := by
  obtain ⟨hx, hb, hr, hml, hown, hts0, hX, hbl, hlocks, hgv⟩ := id C0
  have hts : ∀ w ∈ xqgw, w.before #[Value.ref b] s = true := fun w hw => hts0 w (List.mem_filter.mp hw).1
  obtain ⟨pc, L', S, E', Hx', n', ce, sl⟩ := x
  unfold xqstp xstep at hxo
  dsimp only at hxo
  split at hxo
  · cases hxo
  · rename_i op A B' nx r1 r2 r3 hen
    have hp := xqtkL hen
    unfold xqokP at hp
    dsimp only at hp
    cases e1 : Nat.beq op 99
    · rw [e1, cond_false] at hp
      split at hp
      · rename_i ins len hdec
        have hown2 : s.vm.findClass "ClaySlipsLaw" = some m.cls := hown
        refine xs_disp (mn := meth.name) (d := 10) (rt := 2) (mc := 600000) (ms := 7302250) hx hb hml hown2 rfl hts GL (Nat.le_refl _) (Nat.le_refl _) (by decide) (by decide) (fun j hj => ⟨by show 10 + 1 ≤ 15; decide, ?_⟩) (xmet 10) ?_ ?_ ?_ hdec (xqmn hp) hxo hk
        · have := (xqcall_ok hj).2.2.2.2
          show 8 + (xqmll j + 11) + 36 * 10 ≤ 584
          omega
        · intro u E2 H2 n2 ce2 sl2 hrt hmem pc2 ls2 iv H locs hd1 h1 h2 hi2 hz hE2 hW2 hl2 hf2
          have hu := List.all_eq_true.mp hgood _ hmem
          have hone : iv = 1 := by
            obtain ⟨a1, b1, s1, o1⟩ := u
            have hu : (xeq a1 1 && xeq b1 1) = true := hu
            rw [Bool.and_eq_true, xeq_iff, xeq_iff] at hu
            obtain ⟨q1, q2, -⟩ := hi2
            dsimp only at q1 q2
            have e9 : (1 : Int32).toInt = 1 := rfl
            exact Int32.toInt_inj.mp (by omega)
          subst hone
          refine va_forget (fun q hq => by rw [← hG]; exact hl2 q hq) ?_
          refine W.widen h1 h2 ?_
          exact lw_ret hx hb hr hlocks hd1
        · intro u E2 H2 n2 ce2 sl2 hrt
          exact absurd hrt (by decide)
        · intro E2 H2 n2 ce2 sl2 hrt
          exact absurd hrt (by decide)
      · cases hp
    · have e1 := Nat.eq_of_beq_eq_true e1
      subst e1
      rw [xdisp99] at hxo
      cases hxo
theorem xreach_ok (C0 : lw_At p s m meth c b L xs) (hG : G.1 = s.heap.size) (GL : XGl G D s) {pc0 : Nat} : ∀ (f : Nat) (x y : XS), xreach pc0 f x = some y → XWin p l e room_1 s m #[Value.ref b] below meth c (lw_Z below #[Value.ref b] s) G D 4 y → XWin p l e room_1 s m #[Value.ref b] below meth c (lw_Z below #[Value.ref b] s) G D 4 x := by
  intro f
  induction f with
  | zero => intro x y h; cases h
  | succ f ih =>
    intro x y h hw
    rw [xreach_succ] at h
    cases e0 : Nat.beq x.1 pc0
    · rw [e0, cond_false] at h
      split at h
      · rename_i z hz
        exact xlaw_step (rs := []) C0 hG GL rfl x _ hz (ih z y h hw)
      · rename_i z hz
        refine xlaw_step (rs := []) C0 hG GL rfl x _ hz ?_
        intro z' hz'
        rw [List.mem_singleton.mp hz']
        exact ih z y h hw
      · cases h
    · rw [e0] at h
      cases h
      exact hw
end XQ8
