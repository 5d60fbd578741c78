def ydepl : List Nat := [6, 5, 4, 4, 4, 4, 5, 4, 4, 6, 5, 4, 4, 6, 5, 4, 5, 7, 6, 5, 6, 5, 7, 6, 6, 5, 4, 7, 6, 5, 6, 5, 6, 5, 5, 4, 6, 4, 5, 6, 4, 4, 10, 9, 6, 7, 8, 4, 8, 5, 4, 7, 5, 8, 4, 6, 5, 4, 7, 5, 6, 5, 5, 6, 5, 6, 9, 5, 8, 9, 8, 8, 5, 4, 4, 8, 4, 4, 10, 10, 6, 10, 10, 9, 9, 9, 9, 5, 6, 6, 8, 10, 9, 8, 6, 4, 6, 4, 6, 6, 5, 5, 5, 4, 6, 4, 6, 6, 4, 9, 8, 8, 9, 9, 5, 4, 5, 4, 4, 4, 4, 4, 4, 5, 5, 6, 7, 4, 5, 5, 5, 6, 4, 4, 9, 4, 4, 4, 4, 5, 5, 5, 5, 5, 4, 4, 4, 6, 4, 4, 5, 4, 4, 8, 7, 6, 4, 4, 4, 5, 4, 5, 4]
/-! the JDK's own members over the five literals -/
def jlen : List Nat := [14, 6, 5, 3, 4]
def jbyt : List (List Int32) := [[60, 62, 43, 45, 46, 33, 63, 40, 41, 119, 110, 108, 101, 97], [115, 116, 114, 101, 101, 116], [119, 97, 116, 101, 114], [109, 97, 110], [115, 108, 105, 112]]
def JGl (G : XG) (s : State) : Prop := G.1 ≤ s.heap.size ∧ vk_S 5 jlen jbyt (fun i => G.2.1 (10 + i)) (fun i => G.2.1 (20 + i)) (fun q => G.1 ≤ q) s s.heap ∧
  va_Z "java/lang/String" "COMPACT_STRINGS" "Z" (.int 1) (fun q => G.1 ≤ q) s s.heap ∧
  ∃ w : Value, (w = .null ∨ ∃ a, w = .ref a) ∧ va_Z "jdk/internal/util/Preconditions" "SIOOBE_FORMATTER" "Ljava/util/function/BiFunction;" w (fun q => G.1 ≤ q) s s.heap
theorem JGl.moved {G : XG} {u U : State} (h : JGl G u) (hW : u.WarmedH U.vm) (hsz : G.1 ≤ U.heap.size) (hh : ∀ q : Nat, q < G.1 → U.heap[q]? = u.heap[q]?) : JGl G U := by
  obtain ⟨h0, h1, h2, w, hw, h3⟩ := h
  have hvm := hW.alike
  have hh2 : ∀ a : Nat, a < u.heap.size → ¬ G.1 ≤ a → U.heap[a]? = u.heap[a]? := fun a _ h => hh a (Nat.not_le.mp h)
  exact ⟨hsz, (h1.moved hvm).kept hh2, (h2.moved hvm).kept hh2, w, hw, (h3.moved hvm).kept hh2⟩
/-- a member of the JDK called with these values hands this back and leaves the heap -/
def JM (l : Launch) (G : XG) (y : MethodName) (cc : ByteArray) (mL : Nat) (ret : Option FieldType) (d : Nat) (vs : List Value) (v : Option Value) : Prop :=
  Met l y (Cond.code y cc mL ret :: xqgw) { frames := d, cells := 0, slots := 0, locals := 36 * d } (fun a U => a = vs.toArray ∧ JGl G U) (fun _ st oc t => t.heap = st.heap ∧ oc = .returned v) 0 0 (fun q => G.1 ≤ q)
theorem JP_blind {G : XG} {vs : List Value} : FrameBlind (fun (a : Array Value) U => a = vs.toArray ∧ JGl G U) := by
  rintro a U g mk ⟨h1, h2⟩
  exact ⟨h1, h2.moved (U := U.calling g mk a) (State.WarmedH.refl U) h2.1 (fun q _ => rfl)⟩
section JQ
variable {p : Program} {l : Launch} {e : Env} {R : Room} {s : State} {m : MethodId} {args : Array Value} {below : List Frame} {meth : Method} {c : Code} {Q : State → Prop} {G : XG}
variable {cc : ByteArray} {pc : Nat} {ls : Array Slot} {rest : List Value} {locs : List Loc} {own : String} {nL : Nat}
theorem j_start {y : MethodName} {mL d : Nat} {ret : Option FieldType} {vs : List Value} {v : Option Value} (hp : plainName y.cls = true) (hle : (lg_sl vs).length ≤ mL)
    (h : ∀ (p : Program) (e : Env) (s : State) (m : MethodId) (args : Array Value) (below : List Frame) (meth : Method) (c : Code) (ls : Array Slot), p.tables.exec = Jvm.exec → c.code = cc → c.maxLocals = mL → s.vm.findClass y.cls = some m.cls → (∀ w ∈ xqgw, w.before args s = true) → JGl G s → meth.sig.returnType = ret → meth.locks = false → lv_has ls mL (lv_args 0 vs) →
      W p l e { frames := d, cells := 0, slots := 0, locals := 36 * d } s m args below meth c s.heap [] 0 0 (MQ below (fun _ st oc t => t.heap = st.heap ∧ oc = .returned v) args s 0 0 (fun q => G.1 ≤ q)) (F0 m 0 ls [])) : JM l G y cc mL ret d vs v := by
  refine Met.ofW (cc := cc) (maxL := mL) (ret := ret) hp rfl ?_
  intro p e s m args below meth c s₁ B hml hv
  obtain ⟨rfl, GL⟩ := hv
  have hts : ∀ w ∈ xqgw, w.before vs.toArray s = true := fun w hw => atoms_spec (ws := Cond.code y cc mL ret :: xqgw) B.pre w (List.mem_cons_of_mem _ hw)
  rw [lg_entry_eq]
  exact h p e s m vs.toArray below meth c _ B.exec B.bytes hml (findClass_of_methodNamed B.named) hts GL B.returns B.notSynchronized (lv_entry vs hle)
theorem j_after {v : Option Value} {st0 : List Value} {H : Heap} (hr : va_Run p l e R s m args below meth c H locs 0 0 0 0 (F0 m pc ls st0) rest (fun st oc t => t.heap = st.heap ∧ oc = .returned v) (fun q => G.1 ≤ q)) (hl : ∀ q ∈ locs, G.1 ≤ q.base)
    (k : ∀ locs', (∀ q ∈ locs', G.1 ≤ q.base) → W p l e R s m args below meth c H locs' 0 0 Q (F0 m (pc + 3) ls (v.toList ++ rest))) : W p l e R s m args below meth c H locs 0 0 Q (F0 m pc ls st0) := by
  intro T hT X
  obtain ⟨v', st₀, t, T', Lq, h0, X', hLq, e1, e2, ⟨q1, q2⟩, st⟩ := hr T hT X
  cases q2
  have hl' : ∀ q ∈ locs ++ Lq, G.1 ≤ q.base := fun q hq => (List.mem_append.mp hq).elim (hl q) (hLq q)
  obtain ⟨t2, b1, b2⟩ := k (locs ++ Lq) hl' T' (by rw [e1, q1, h0]) X'
  exact ⟨t2, st t2 b1, b2⟩
theorem j_callS {y : MethodName} {cy : ByteArray} {mL d n index : Nat} {ret : Option FieldType} {vs : List Value} {v : Option Value} (hM : JM l G y cy mL ret d vs v) (hx : p.tables.exec = Jvm.exec) (hb : c.code = cc) (hml : c.maxLocals = nL) (hown : s.vm.findClass own = some m.cls) (hts : ∀ w ∈ xqgw, w.before args s = true) (hJ : JGl G s)
    (h1 : Cond.methodLink own index y ∈ xqgw) (h2 : Cond.static y ∈ xqgw) (h3 : Cond.initialized y.cls ∈ xqgw) (h4 : Cond.code y cy mL ret ∈ xqgw) (hn : y.cls ≠ "java/lang/invoke/MethodHandle" ∧ y.cls ≠ "java/lang/invoke/VarHandle" ∧ (parseMethodDescriptor y.desc).map (fun d => d.parameters.length) = some n) (hvn : vs.length = n)
    (hR : d + 1 ≤ R.frames ∧ 8 + (mL + 11) + 36 * d ≤ R.locals) (hls : ls.size = nL) (hcat : (rest.map fun v => v.category).sum ≤ 8) (hd : decode cc pc = .ok (.invokestatic index, 3)) (hl : ∀ q ∈ locs, G.1 ≤ q.base)
    (k : ∀ locs', (∀ q ∈ locs', G.1 ≤ q.base) → W p l e R s m args below meth c s.heap locs' 0 0 Q (F0 m (pc + 3) ls (v.toList ++ rest))) {st0 : List Value} (hst : st0 = vs.reverse ++ rest) : W p l e R s m args below meth c s.heap locs 0 0 Q (F0 m pc ls st0) := by
  refine j_after (va_runS (As := vs) (rest := rest) ⟨hx, hb, hml, hown, hts⟩ hM (va_cwS n hts ?_ rfl rfl rfl hn hR) ⟨JP_blind, fun U hU hW => ⟨rfl, hJ.moved hW (by rw [hU]; exact hJ.1) (fun q _ => by rw [hU])⟩⟩ rfl hvn hls hst (by show 2 * 0 + _ ≤ 8; omega) hd ⟨Nat.zero_le _, Nat.zero_le _⟩) hl k
  intro w hw
  rcases List.mem_append.mp hw with hw | hw
  · simp only [List.mem_cons, List.not_mem_nil, or_false] at hw
    rcases hw with rfl | rfl | rfl
    · exact xqgood1 h1
    · exact xqgood1 h2
    · exact xqgood1 h3
  · rcases List.mem_cons.mp hw with rfl | hw
    · exact xqgood1 h4
    · exact xqgood1 hw
theorem j_callV {y : MethodName} {cy : ByteArray} {mL d n index i : Nat} {ret : Option FieldType} {vs : List Value} {v : Option Value} (hi : i < 5) (hM : JM l G y cy mL ret d (.ref (G.2.1 (10 + i)) :: vs) v) (hx : p.tables.exec = Jvm.exec) (hb : c.code = cc) (hml : c.maxLocals = nL) (hown : s.vm.findClass own = some m.cls) (hts : ∀ w ∈ xqgw, w.before args s = true) (hJ : JGl G s)
    (h1 : Cond.methodLink own index y ∈ xqgw) (h2 : Cond.instanceMethod y ∈ xqgw) (h3 : Cond.selects "java/lang/String" y y ∈ xqgw) (h3' : Cond.initialized "java/lang/String" ∈ xqgw) (h4 : Cond.code y cy mL ret ∈ xqgw) (hn : y.cls = "java/lang/String" ∧ y.cls ≠ "java/lang/invoke/MethodHandle" ∧ y.cls ≠ "java/lang/invoke/VarHandle" ∧ (parseMethodDescriptor y.desc).map (fun d => d.parameters.length) = some n) (hvn : vs.length = n)
    (hR : d + 1 ≤ R.frames ∧ 8 + (mL + 11) + 36 * d ≤ R.locals) (hls : ls.size = nL) (hcat : (rest.map fun v => v.category).sum ≤ 8) (hd : decode cc pc = .ok (.invokevirtual index, 3)) (hl : ∀ q ∈ locs, G.1 ≤ q.base)
    (k : ∀ locs', (∀ q ∈ locs', G.1 ≤ q.base) → W p l e R s m args below meth c s.heap locs' 0 0 Q (F0 m (pc + 3) ls (v.toList ++ rest))) {st0 : List Value} (hst : st0 = vs.reverse ++ .ref (G.2.1 (10 + i)) :: rest) : W p l e R s m args below meth c s.heap locs 0 0 Q (F0 m pc ls st0) := by
  refine j_after (va_runV (C := "java/lang/String") (As := vs) (rest := rest) ⟨hx, hb, hml, hown, hts⟩ hM (cwV n hts ?_ rfl rfl rfl hn hR) ⟨JP_blind, vk_recv hJ.2.1 hi (locs := []) ⟨Nat.le_refl _, fun _ _ _ => rfl, fun q hq => by cases hq⟩, fun U hU hW => ⟨rfl, hJ.moved hW (by rw [hU]; exact hJ.1) (fun q _ => by rw [hU])⟩⟩ rfl hvn hls hst (by show 2 * 0 + _ ≤ 8; omega) hd ⟨Nat.zero_le _, Nat.zero_le _⟩) hl k
  intro w hw
  rcases List.mem_append.mp hw with hw | hw
  · simp only [List.mem_cons, List.not_mem_nil, or_false] at hw
    rcases hw with rfl | rfl | rfl | rfl
    · exact xqgood1 h1
    · exact xqgood1 h2
    · exact xqgood1 h3
    · exact xqgood1 h3'
  · rcases List.mem_cons.mp hw with rfl | hw
    · exact xqgood1 h4
    · exact xqgood1 hw
theorem j_callVH {ce sl : Nat} {H : Heap} {y : MethodName} {cy : ByteArray} {mL d n index i : Nat} {ret : Option FieldType} {vs : List Value} {v : Value} (hi : i < 5) (hM : JM l G y cy mL ret d (.ref (G.2.1 (10 + i)) :: vs) (some v)) (hx : p.tables.exec = Jvm.exec) (hb : c.code = cc) (hml : c.maxLocals = nL) (hown : s.vm.findClass own = some m.cls) (hts : ∀ w ∈ xqgw, w.before args s = true) (hJ : JGl G s)
    (h1 : Cond.methodLink own index y ∈ xqgw) (h2 : Cond.instanceMethod y ∈ xqgw) (h3 : Cond.selects "java/lang/String" y y ∈ xqgw) (h3' : Cond.initialized "java/lang/String" ∈ xqgw) (h4 : Cond.code y cy mL ret ∈ xqgw) (hn : y.cls = "java/lang/String" ∧ y.cls ≠ "java/lang/invoke/MethodHandle" ∧ y.cls ≠ "java/lang/invoke/VarHandle" ∧ (parseMethodDescriptor y.desc).map (fun d => d.parameters.length) = some n) (hvn : vs.length = n)
    (hR : d + 1 ≤ R.frames ∧ 8 + (mL + 11) + 36 * d ≤ R.locals) (hls : ls.size = nL) (hcat : (rest.map fun v => v.category).sum ≤ 8) (hd : decode cc pc = .ok (.invokevirtual index, 3)) (hce : ce ≤ R.cells) (hsl : sl ≤ R.slots) (hl : ∀ q ∈ locs, G.1 ≤ q.base) (hsz : G.1 ≤ H.size) (hf : ∀ q : Nat, q < G.1 → H[q]? = s.heap[q]?)
    (k : ∀ locs', (∀ q ∈ locs', G.1 ≤ q.base) → W p l e R s m args below meth c H locs' ce sl Q (F0 m (pc + 3) ls (v :: rest))) {st0 : List Value} (hst : st0 = vs.reverse ++ .ref (G.2.1 (10 + i)) :: rest) : W p l e R s m args below meth c H locs ce sl Q (F0 m pc ls st0) := by
  have hO := (hJ.2.1.1 i hi).1.kept (H1 := H) (fun a _ ha => hf a (Nat.not_le.mp ha))
  obtain ⟨cell, o1, o2, o3, -⟩ := hO
  have hr := va_runV (g := F0 m pc ls st0) (e := e) (meth := meth) (below := below) (C := "java/lang/String") (cells := ce) (slots := sl) (locs := locs) (As := vs) (rest := rest) ⟨hx, hb, hml, hown, hts⟩ hM (cwV n hts (by
    intro w hw
    rcases List.mem_append.mp hw with hw | hw
    · simp only [List.mem_cons, List.not_mem_nil, or_false] at hw
      rcases hw with rfl | rfl | rfl | rfl
      · exact xqgood1 h1
      · exact xqgood1 h2
      · exact xqgood1 h3
      · exact xqgood1 h3'
    · rcases List.mem_cons.mp hw with rfl | hw
      · exact xqgood1 h4
      · exact xqgood1 hw) rfl rfl rfl hn hR) ⟨JP_blind, ⟨cell, o1, o2, o3⟩, fun U hU hW => ⟨rfl, hJ.moved hW (by rw [hU]; exact hsz) (fun q hq => by rw [hU]; exact hf q hq)⟩⟩ rfl hvn hls hst (by show 2 * 0 + _ ≤ 8; omega) hd ⟨hce, hsl⟩
  intro T hT X
  obtain ⟨v', st₀, t, T', Lq, h0, X', hLq, e1, e2, ⟨q1, q2⟩, st⟩ := hr T hT X
  cases q2
  have hl' : ∀ q ∈ locs ++ Lq, G.1 ≤ q.base := fun q hq => (List.mem_append.mp hq).elim (hl q) (hLq q)
  obtain ⟨t2, b1, b2⟩ := k (locs ++ Lq) hl' T' (by rw [e1, q1, h0]) X'
  exact ⟨t2, st t2 b1, b2⟩
theorem j_alen {H : Heap} {ce sl : Nat} {n : Int32} {a : Addr} {cell : Cell} {ty : FieldType} (hx : p.tables.exec = Jvm.exec) (hb : c.code = cc) (hcell : H[a]? = some cell) (harr : s.isArrayOf cell ty) (hn : cell.slots.size.toInt32 = n) (hd : decode cc pc = .ok (.arraylength, 1))
    (k : W p l e R s m args below meth c H locs ce sl Q (F0 m (pc + 1) ls (.int n :: rest))) : W p l e R s m args below meth c H locs ce sl Q (F0 m pc ls (.ref a :: rest)) := W.alen hx hb hcell harr hn rfl rfl hd k
theorem j_bald {H : Heap} {ce sl : Nat} {a : Addr} {cell : Cell} {j : Int32} {v : Value} (hx : p.tables.exec = Jvm.exec) (hb : c.code = cc) (hcell : H[a]? = some cell) (harr : s.isArrayOf cell .byte) (hk : cell.vm ≠ .unknown) (hin : ¬ (j < 0 ∨ cell.slots.size ≤ j.toNatClampNeg)) (hv : cell.slots[j.toNatClampNeg]? = some v) (hd : decode cc pc = .ok (.baload, 1))
    (k : W p l e R s m args below meth c H locs ce sl Q (F0 m (pc + 1) ls (v :: rest))) : W p l e R s m args below meth c H locs ce sl Q (F0 m pc ls (.int j :: .ref a :: rest)) := W.bald hx hb hcell harr hk hin hv rfl rfl hd k
end JQ
def jy_coder : MethodName := ⟨"java/lang/String", "coder", "()B"⟩
abbrev jc_coder : ByteArray := prog_10_method_152_code
def jy_isLatin1 : MethodName := ⟨"java/lang/String", "isLatin1", "()Z"⟩
abbrev jc_isLatin1 : ByteArray := prog_10_method_154_code
def jy_length : MethodName := ⟨"java/lang/String", "length", "()I"⟩
abbrev jc_length : ByteArray := prog_10_method_54_code
def jy_pcheck : MethodName := ⟨"jdk/internal/util/Preconditions", "checkIndex", "(IILjava/util/function/BiFunction;)I"⟩
abbrev jc_pcheck : ByteArray := prog_14_method_11_code
def jy_scheck : MethodName := ⟨"java/lang/String", "checkIndex", "(II)V"⟩
abbrev jc_scheck : ByteArray := prog_10_method_155_code
def jy_lcharAt : MethodName := ⟨"java/lang/StringLatin1", "charAt", "([BI)C"⟩
abbrev jc_lcharAt : ByteArray := prog_11_method_2_code
def jy_charAt : MethodName := ⟨"java/lang/String", "charAt", "(I)C"⟩
abbrev jc_charAt : ByteArray := prog_10_method_56_code
def jy_canEncode : MethodName := ⟨"java/lang/StringLatin1", "canEncode", "(I)Z"⟩
abbrev jc_canEncode : ByteArray := prog_11_method_4_code
def jy_lindexOf : MethodName := ⟨"java/lang/StringLatin1", "indexOf", "([BIII)I"⟩
abbrev jc_lindexOf : ByteArray := prog_11_method_22_code
def jy_indexOfChar : MethodName := ⟨"java/lang/StringLatin1", "indexOfChar", "([BIII)I"⟩
abbrev jc_indexOfChar : ByteArray := prog_11_method_23_code
def jy_indexOf2 : MethodName := ⟨"java/lang/String", "indexOf", "(II)I"⟩
abbrev jc_indexOf2 : ByteArray := prog_10_method_80_code
def jy_indexOf : MethodName := ⟨"java/lang/String", "indexOf", "(I)I"⟩
abbrev jc_indexOf : ByteArray := prog_10_method_79_code
theorem j_coder {l : Launch} {G : XG} {i : Nat} (hi : i < 5) : JM l G jy_coder jc_coder 1 (some .byte) 0 [.ref (G.2.1 (10 + i))] (some (.int 0)) := by
  refine j_start rfl (Nat.le_of_ble_eq_true rfl) ?_
  intro p e s m args below meth cd ls hx hb hml hown hts hJ hr hlk hv
  have hl : ∀ q ∈ ([] : List Loc), G.1 ≤ q.base := fun q hq => by cases hq
  have hls : ls.size = 1 := hv.1
  refine va_gets hx hb hJ.2.2.1 ⟨Nat.le_refl _, fun _ _ _ => rfl, hl⟩ hown (hts (.fieldLink "java/lang/String" 38 "java/lang/String" "COMPACT_STRINGS" "Z") (xqof (by decide +kernel))) (fun x h => h) (by decide +kernel) ?_
  refine lv_if_eq hx hb (off := 10) (tgt := 13) (by decide +kernel) rfl (fun z => absurd z (by decide)) (fun z => ?_)
  refine lv_aload_n hx hb (k := 0) (i := 0) (x := (G.2.1 (10 + i))) (by decide +kernel) rfl (lv_at hv 0 rfl) ?_
  refine vk_getf hx hb (hJ.2.1.1 i hi).2.1 ⟨Nat.le_refl _, fun _ _ _ => rfl, hl⟩ hown (hts (.fieldLink "java/lang/String" 15 "java/lang/String" "coder" "B") (xqof (by decide +kernel))) (fun x h => h) (by decide +kernel) ?_
  refine lv_goto hx hb (off := 4) (tgt := 14) (by decide +kernel) rfl ?_
  exact W.zret hx hb (ty := .byte) hr rfl (fun t ht hw => ⟨ht, rfl⟩) hl (by decide +kernel)
theorem j_isLatin1 {l : Launch} {G : XG} {i : Nat} (hi : i < 5) : JM l G jy_isLatin1 jc_isLatin1 1 (some .boolean) 0 [.ref (G.2.1 (10 + i))] (some (.int 1)) := by
  refine j_start rfl (Nat.le_of_ble_eq_true rfl) ?_
  intro p e s m args below meth cd ls hx hb hml hown hts hJ hr hlk hv
  have hl : ∀ q ∈ ([] : List Loc), G.1 ≤ q.base := fun q hq => by cases hq
  have hls : ls.size = 1 := hv.1
  refine va_gets hx hb hJ.2.2.1 ⟨Nat.le_refl _, fun _ _ _ => rfl, hl⟩ hown (hts (.fieldLink "java/lang/String" 38 "java/lang/String" "COMPACT_STRINGS" "Z") (xqof (by decide +kernel))) (fun x h => h) (by decide +kernel) ?_
  refine lv_if_eq hx hb (off := 14) (tgt := 17) (by decide +kernel) rfl (fun z => absurd z (by decide)) (fun z => ?_)
  refine lv_aload_n hx hb (k := 0) (i := 0) (x := (G.2.1 (10 + i))) (by decide +kernel) rfl (lv_at hv 0 rfl) ?_
  refine vk_getf hx hb (hJ.2.1.1 i hi).2.1 ⟨Nat.le_refl _, fun _ _ _ => rfl, hl⟩ hown (hts (.fieldLink "java/lang/String" 15 "java/lang/String" "coder" "B") (xqof (by decide +kernel))) (fun x h => h) (by decide +kernel) ?_
  refine lv_if_ne hx hb (off := 7) (tgt := 17) (by decide +kernel) rfl (fun z => absurd z (by decide)) (fun z => ?_)
  refine lv_iconst hx hb (n := 1) (v := 1) (by decide +kernel) rfl ?_
  refine lv_goto hx hb (off := 4) (tgt := 18) (by decide +kernel) rfl ?_
  exact W.zret hx hb (ty := .boolean) hr rfl (fun t ht hw => ⟨ht, rfl⟩) hl (by decide +kernel)
theorem jsh : ∀ i, i < 5 → Int32.ofNat (jlen.getD i 0) >>> ((0 : Int32) &&& 31) = Int32.ofNat (jlen.getD i 0) := by decide
theorem j_length {l : Launch} {G : XG} {i : Nat} (hi : i < 5) : JM l G jy_length jc_length 1 (some .int) 1 [.ref (G.2.1 (10 + i))] (some (.int (Int32.ofNat (jlen.getD i 0)))) := by
  refine j_start rfl (Nat.le_of_ble_eq_true rfl) ?_
  intro p e s m args below meth cd ls hx hb hml hown hts hJ hr hlk hv
  have hl : ∀ q ∈ ([] : List Loc), G.1 ≤ q.base := fun q hq => by cases hq
  have hls : ls.size = 1 := hv.1
  refine lv_aload_n hx hb (k := 0) (i := 0) (x := (G.2.1 (10 + i))) (by decide +kernel) rfl (lv_at hv 0 rfl) ?_
  refine vk_getf hx hb (hJ.2.1.1 i hi).2.2.1 ⟨Nat.le_refl _, fun _ _ _ => rfl, hl⟩ hown (hts (.fieldLink "java/lang/String" 9 "java/lang/String" "value" "[B") (xqof (by decide +kernel))) (fun x h => h) (by decide +kernel) ?_
  obtain ⟨cell, k1, k2, k3, k4, k5, k6, k7⟩ := (hJ.2.1.1 i hi).2.2.2
  refine j_alen hx hb k1 k2 k5 (by decide +kernel) ?_
  refine lv_aload_n hx hb (k := 0) (i := 0) (x := (G.2.1 (10 + i))) (by decide +kernel) rfl (lv_at hv 0 rfl) ?_
  refine j_callV (n := 0) (index := 335) (own := "java/lang/String") (vs := []) (rest := [.int (Int32.ofNat (jlen.getD i 0))]) hi (j_coder hi) hx hb hml hown hts hJ (xqof (by decide +kernel)) (xqof (by decide +kernel)) (xqof (by decide +kernel)) (xqof (by decide +kernel)) (xqof (by decide +kernel)) ⟨by decide, by decide, by decide, by decide +kernel⟩ rfl ⟨by decide, by decide⟩ hls (Nat.le_of_ble_eq_true rfl) (by decide +kernel) hl ?_ rfl
  intro locs hl
  refine lv_ishr hx hb (by decide +kernel) ?_
  rw [jsh i hi]
  exact W.iret hx hb hr (fun t ht hw => ⟨ht, rfl⟩) hl (by decide +kernel)
theorem j_pcheck {l : Launch} {G : XG} {x n : Int32} {f : Nat} (h0 : ¬ x < 0) (h1 : x < n) : JM l G jy_pcheck jc_pcheck 3 (some .int) 0 [.int x, .int n, .ref f] (some (.int x)) := by
  refine j_start rfl (Nat.le_of_ble_eq_true rfl) ?_
  intro p e s m args below meth cd ls hx hb hml hown hts hJ hr hlk hv
  have hl : ∀ q ∈ ([] : List Loc), G.1 ≤ q.base := fun q hq => by cases hq
  have hls : ls.size = 3 := hv.1
  refine lv_iload_n hx hb (k := 0) (i := 0) (x := x) (by decide +kernel) rfl (lv_at hv 0 rfl) ?_
  refine lv_if_lt hx hb (off := 8) (tgt := 9) (by decide +kernel) rfl (fun z => absurd z h0) (fun z => ?_)
  refine lv_iload_n hx hb (k := 0) (i := 0) (x := x) (by decide +kernel) rfl (lv_at hv 0 rfl) ?_
  refine lv_iload_n hx hb (k := 1) (i := 1) (x := n) (by decide +kernel) rfl (lv_at hv 1 rfl) ?_
  refine lv_icmp_lt hx hb (off := 10) (tgt := 16) (by decide +kernel) rfl (fun z => ?_) (fun z => absurd h1 z)
  refine lv_iload_n hx hb (k := 0) (i := 0) (x := x) (by decide +kernel) rfl (lv_at hv 0 rfl) ?_
  exact W.iret hx hb hr (fun t ht hw => ⟨ht, rfl⟩) hl (by decide +kernel)
theorem j_pcheck0 {l : Launch} {G : XG} {x n : Int32} (h0 : ¬ x < 0) (h1 : x < n) : JM l G jy_pcheck jc_pcheck 3 (some .int) 0 [.int x, .int n, .null] (some (.int x)) := by
  refine j_start rfl (Nat.le_of_ble_eq_true rfl) ?_
  intro p e s m args below meth cd ls hx hb hml hown hts hJ hr hlk hv
  have hl : ∀ q ∈ ([] : List Loc), G.1 ≤ q.base := fun q hq => by cases hq
  have hls : ls.size = 3 := hv.1
  refine lv_iload_n hx hb (k := 0) (i := 0) (x := x) (by decide +kernel) rfl (lv_at hv 0 rfl) ?_
  refine lv_if_lt hx hb (off := 8) (tgt := 9) (by decide +kernel) rfl (fun z => absurd z h0) (fun z => ?_)
  refine lv_iload_n hx hb (k := 0) (i := 0) (x := x) (by decide +kernel) rfl (lv_at hv 0 rfl) ?_
  refine lv_iload_n hx hb (k := 1) (i := 1) (x := n) (by decide +kernel) rfl (lv_at hv 1 rfl) ?_
  refine lv_icmp_lt hx hb (off := 10) (tgt := 16) (by decide +kernel) rfl (fun z => ?_) (fun z => absurd h1 z)
  refine lv_iload_n hx hb (k := 0) (i := 0) (x := x) (by decide +kernel) rfl (lv_at hv 0 rfl) ?_
  exact W.iret hx hb hr (fun t ht hw => ⟨ht, rfl⟩) hl (by decide +kernel)
theorem j_scheck {l : Launch} {G : XG} {x n : Int32} (h0 : ¬ x < 0) (h1 : x < n) : JM l G jy_scheck jc_scheck 2 none 1 [.int x, .int n] (none) := by
  refine j_start rfl (Nat.le_of_ble_eq_true rfl) ?_
  intro p e s m args below meth cd ls hx hb hml hown hts hJ hr hlk hv
  have hl : ∀ q ∈ ([] : List Loc), G.1 ≤ q.base := fun q hq => by cases hq
  have hls : ls.size = 2 := hv.1
  obtain ⟨wf, hwf, hz⟩ := hJ.2.2.2
  refine lv_iload_n hx hb (k := 0) (i := 0) (x := x) (by decide +kernel) rfl (lv_at hv 0 rfl) ?_
  refine lv_iload_n hx hb (k := 1) (i := 1) (x := n) (by decide +kernel) rfl (lv_at hv 1 rfl) ?_
  refine va_gets hx hb hz ⟨Nat.le_refl _, fun _ _ _ => rfl, hl⟩ hown (hts (.fieldLink "java/lang/String" 1053 "jdk/internal/util/Preconditions" "SIOOBE_FORMATTER" "Ljava/util/function/BiFunction;") (xqof (by decide +kernel))) (fun x h => h) (by decide +kernel) ?_
  rcases hwf with rfl | ⟨f, rfl⟩
  · refine j_callS (n := 3) (index := 1059) (own := "java/lang/String") (vs := [.int x, .int n, .null]) (rest := []) (j_pcheck0 h0 h1) hx hb hml hown hts hJ (xqof (by decide +kernel)) (xqof (by decide +kernel)) (xqof (by decide +kernel)) (xqof (by decide +kernel)) ⟨by decide, by decide, by decide +kernel⟩ rfl ⟨by decide, by decide⟩ hls (Nat.le_of_ble_eq_true rfl) (by decide +kernel) hl ?_ rfl
    intro locs hl
    refine lv_pop hx hb (by decide +kernel) rfl ?_
    exact W.vret hx hb hr (fun t ht hw => ⟨ht, rfl⟩) hl (by decide +kernel)
  · refine j_callS (n := 3) (index := 1059) (own := "java/lang/String") (vs := [.int x, .int n, .ref f]) (rest := []) (j_pcheck (f := f) h0 h1) hx hb hml hown hts hJ (xqof (by decide +kernel)) (xqof (by decide +kernel)) (xqof (by decide +kernel)) (xqof (by decide +kernel)) ⟨by decide, by decide, by decide +kernel⟩ rfl ⟨by decide, by decide⟩ hls (Nat.le_of_ble_eq_true rfl) (by decide +kernel) hl ?_ rfl
    intro locs hl
    refine lv_pop hx hb (by decide +kernel) rfl ?_
    exact W.vret hx hb hr (fun t ht hw => ⟨ht, rfl⟩) hl (by decide +kernel)
theorem jch_ok : ∀ i, i < 5 → ∀ k, k < jlen.getD i 0 → ((((jbyt.getD i []).getD k 0) &&& 255).toUInt32 % 65536).toInt32 = (jbyt.getD i []).getD k 0 ∧ narrow .char (.int ((jbyt.getD i []).getD k 0)) = .int ((jbyt.getD i []).getD k 0) ∧ ¬ Int32.ofNat k < 0 ∧ Int32.ofNat k < Int32.ofNat (jlen.getD i 0) ∧ (Int32.ofNat k).toNatClampNeg = k := by decide
theorem jlen_b : ∀ i, i < 5 → jlen.getD i 0 ≤ 14 := by decide
theorem j_lcharAt {l : Launch} {G : XG} {i k : Nat} (hi : i < 5) (hk : k < jlen.getD i 0) : JM l G jy_lcharAt jc_lcharAt 2 (some .char) 2 [.ref (G.2.1 (20 + i)), .int (Int32.ofNat k)] (some (.int ((jbyt.getD i []).getD k 0))) := by
  refine j_start rfl (Nat.le_of_ble_eq_true rfl) ?_
  intro p e s m args below meth cd ls hx hb hml hown hts hJ hr hlk hv
  have hl : ∀ q ∈ ([] : List Loc), G.1 ≤ q.base := fun q hq => by cases hq
  have hls : ls.size = 2 := hv.1
  obtain ⟨w1, w2, w3, w4, w5⟩ := jch_ok i hi k hk
  have w6 := jlen_b i hi
  refine lv_iload_n hx hb (k := 1) (i := 1) (x := (Int32.ofNat k)) (by decide +kernel) rfl (lv_at hv 1 rfl) ?_
  refine lv_aload_n hx hb (k := 0) (i := 0) (x := (G.2.1 (20 + i))) (by decide +kernel) rfl (lv_at hv 0 rfl) ?_
  obtain ⟨cell, k1, k2, k3, k4, k5, k6, k7⟩ := (hJ.2.1.1 i hi).2.2.2
  refine j_alen hx hb k1 k2 k5 (by decide +kernel) ?_
  refine j_callS (n := 2) (index := 9) (own := "java/lang/StringLatin1") (vs := [.int (Int32.ofNat k), .int (Int32.ofNat (jlen.getD i 0))]) (rest := []) (j_scheck w3 w4) hx hb hml hown hts hJ (xqof (by decide +kernel)) (xqof (by decide +kernel)) (xqof (by decide +kernel)) (xqof (by decide +kernel)) ⟨by decide, by decide, by decide +kernel⟩ rfl ⟨by decide, by decide⟩ hls (Nat.le_of_ble_eq_true rfl) (by decide +kernel) hl ?_ rfl
  intro locs hl
  refine lv_aload_n hx hb (k := 0) (i := 0) (x := (G.2.1 (20 + i))) (by decide +kernel) rfl (lv_at hv 0 rfl) ?_
  refine lv_iload_n hx hb (k := 1) (i := 1) (x := (Int32.ofNat k)) (by decide +kernel) rfl (lv_at hv 1 rfl) ?_
  refine j_bald hx hb k1 k2 k3 (by rw [w5]; intro z; rcases z with z | z; exact w3 z; omega) (by rw [w5]; exact k6 k hk) (by decide +kernel) ?_
  refine lv_sipush hx hb (n := 255) (v := 255) (by decide +kernel) rfl ?_
  refine lv_iand hx hb (by decide +kernel) ?_
  refine lv_i2c hx hb (by decide +kernel) w1 ?_
  exact W.zret hx hb (ty := .char) hr w2 (fun t ht hw => ⟨ht, rfl⟩) hl (by decide +kernel)
theorem j_charAt {l : Launch} {G : XG} {i k : Nat} (hi : i < 5) (hk : k < jlen.getD i 0) : JM l G jy_charAt jc_charAt 2 (some .char) 3 [.ref (G.2.1 (10 + i)), .int (Int32.ofNat k)] (some (.int ((jbyt.getD i []).getD k 0))) := by
  refine j_start rfl (Nat.le_of_ble_eq_true rfl) ?_
  intro p e s m args below meth cd ls hx hb hml hown hts hJ hr hlk hv
  have hl : ∀ q ∈ ([] : List Loc), G.1 ≤ q.base := fun q hq => by cases hq
  have hls : ls.size = 2 := hv.1
  obtain ⟨w1, w2, w3, w4, w5⟩ := jch_ok i hi k hk
  have w6 := jlen_b i hi
  refine lv_aload_n hx hb (k := 0) (i := 0) (x := (G.2.1 (10 + i))) (by decide +kernel) rfl (lv_at hv 0 rfl) ?_
  refine j_callV (n := 0) (index := 492) (own := "java/lang/String") (vs := []) (rest := []) hi (j_isLatin1 hi) hx hb hml hown hts hJ (xqof (by decide +kernel)) (xqof (by decide +kernel)) (xqof (by decide +kernel)) (xqof (by decide +kernel)) (xqof (by decide +kernel)) ⟨by decide, by decide, by decide, by decide +kernel⟩ rfl ⟨by decide, by decide⟩ hls (Nat.le_of_ble_eq_true rfl) (by decide +kernel) hl ?_ rfl
  intro locs hl
  refine lv_if_eq hx hb (off := 12) (tgt := 16) (by decide +kernel) rfl (fun z => absurd z (by decide)) (fun z => ?_)
  refine lv_aload_n hx hb (k := 0) (i := 0) (x := (G.2.1 (10 + i))) (by decide +kernel) rfl (lv_at hv 0 rfl) ?_
  refine vk_getf hx hb (hJ.2.1.1 i hi).2.2.1 ⟨Nat.le_refl _, fun _ _ _ => rfl, hl⟩ hown (hts (.fieldLink "java/lang/String" 9 "java/lang/String" "value" "[B") (xqof (by decide +kernel))) (fun x h => h) (by decide +kernel) ?_
  refine lv_iload_n hx hb (k := 1) (i := 1) (x := (Int32.ofNat k)) (by decide +kernel) rfl (lv_at hv 1 rfl) ?_
  refine j_callS (n := 2) (index := 495) (own := "java/lang/String") (vs := [.ref (G.2.1 (20 + i)), .int (Int32.ofNat k)]) (rest := []) (j_lcharAt hi hk) hx hb hml hown hts hJ (xqof (by decide +kernel)) (xqof (by decide +kernel)) (xqof (by decide +kernel)) (xqof (by decide +kernel)) ⟨by decide, by decide, by decide +kernel⟩ rfl ⟨by decide, by decide⟩ hls (Nat.le_of_ble_eq_true rfl) (by decide +kernel) hl ?_ rfl
  intro locs hl
  exact W.zret hx hb (ty := .char) hr w2 (fun t ht hw => ⟨ht, rfl⟩) hl (by decide +kernel)
/-- where a code first stands among bytes, from place k on -/
def jixF (c : Int32) : List Int32 → Nat → Int32
  | [], _ => -1
  | b :: l, k => if b = c then Int32.ofNat k else jixF c l (k + 1)
def jix (i : Nat) (c : Int32) : Int32 := jixF c (jbyt.getD i []) 0
theorem jby_ok : ∀ i, i < 5 → (jbyt.getD i []).length = jlen.getD i 0 ∧ ∀ k, k < jlen.getD i 0 → ¬ Int32.ofNat (jlen.getD i 0) ≤ Int32.ofNat k ∧ (jbyt.getD i []).drop k = (jbyt.getD i []).getD k 0 :: (jbyt.getD i []).drop (k + 1) ∧ Int32.ofNat k + 1 = Int32.ofNat (k + 1) := by decide
theorem jlen_ok : ∀ i, i < 5 → (0 : Int32) < Int32.ofNat (jlen.getD i 0) ∧ Int32.ofNat (jlen.getD i 0) ≤ Int32.ofNat (jlen.getD i 0) ∧ (jbyt.getD i []).drop (jlen.getD i 0) = [] ∧ (if (Int32.ofNat (jlen.getD i 0)) < (Int32.ofNat (jlen.getD i 0)) then (Int32.ofNat (jlen.getD i 0)) else (Int32.ofNat (jlen.getD i 0))) = Int32.ofNat (jlen.getD i 0) := by decide
theorem j_ixc {l : Launch} {G : XG} {i : Nat} {c : Int32} (hi : i < 5) : JM l G jy_indexOfChar jc_indexOfChar 6 (some .int) 0 [.ref (G.2.1 (20 + i)), .int c, .int 0, .int (Int32.ofNat (jlen.getD i 0))] (some (.int (jix i c.toInt8.toInt32))) := by
  refine j_start rfl (Nat.le_of_ble_eq_true rfl) ?_
  intro p e s m args below meth cd ls hx hb hml hown hts hJ hr hlk hv
  have hl : ∀ q ∈ ([] : List Loc), G.1 ≤ q.base := fun q hq => by cases hq
  obtain ⟨cell, k1, k2, k3, k4, k5, k6, k7⟩ := (hJ.2.1.1 i hi).2.2.2
  obtain ⟨b1, b2⟩ := jby_ok i hi
  obtain ⟨l1, l2, l3, l4⟩ := jlen_ok i hi
  generalize hce : c.toInt8.toInt32 = c'
  have loop : ∀ (n k : Nat) (ls : Array Slot), k + n = jlen.getD i 0 → jixF c' ((jbyt.getD i []).drop k) k = jix i c' → lv_has ls 6 [(0, .ref (G.2.1 (20 + i))), (3, .int (Int32.ofNat (jlen.getD i 0))), (4, .int c'), (5, .int (Int32.ofNat k))] →
      W p l e { frames := 0, cells := 0, slots := 0, locals := 36 * 0 } s m args below meth cd s.heap [] 0 0 (MQ below (fun _ st oc t => t.heap = st.heap ∧ oc = .returned (some (.int (jix i c')))) args s 0 0 (fun q => G.1 ≤ q)) (F0 m 7 ls []) := by
    intro n
    induction n with
    | zero =>
      intro k ls hk hj hv
      have : k = jlen.getD i 0 := by omega
      subst this
      rw [l3] at hj
      refine lv_iload hx hb (i := 5) (x := Int32.ofNat (jlen.getD i 0)) (by decide +kernel) (lv_at hv 3 rfl) ?_
      refine lv_iload_n hx hb (k := 3) (i := 3) (x := Int32.ofNat (jlen.getD i 0)) (by decide +kernel) rfl (lv_at hv 1 rfl) ?_
      refine lv_icmp_ge hx hb (off := 21) (tgt := 31) (by decide +kernel) rfl (fun z => ?_) (fun z => absurd l2 z)
      refine lv_iconst hx hb (n := -1) (v := -1) (by decide +kernel) rfl ?_
      rw [show (-1 : Int32) = jix i c' from hj]
      exact W.iret hx hb hr (fun t ht hw => ⟨ht, rfl⟩) hl (by decide +kernel)
    | succ n ih =>
      intro k ls hk hj hv
      obtain ⟨c1, c2, c3⟩ := b2 k (by omega)
      obtain ⟨w1, w2, w3, w4, w5⟩ := jch_ok i hi k (by omega)
      rw [c2] at hj
      refine lv_iload hx hb (i := 5) (x := Int32.ofNat k) (by decide +kernel) (lv_at hv 3 rfl) ?_
      refine lv_iload_n hx hb (k := 3) (i := 3) (x := Int32.ofNat (jlen.getD i 0)) (by decide +kernel) rfl (lv_at hv 1 rfl) ?_
      refine lv_icmp_ge hx hb (off := 21) (tgt := 31) (by decide +kernel) rfl (fun z => absurd z c1) (fun z => ?_)
      refine lv_aload_n hx hb (k := 0) (i := 0) (x := G.2.1 (20 + i)) (by decide +kernel) rfl (lv_at hv 0 rfl) ?_
      refine lv_iload hx hb (i := 5) (x := Int32.ofNat k) (by decide +kernel) (lv_at hv 3 rfl) ?_
      refine j_bald hx hb k1 k2 k3 (by rw [w5]; intro z; rcases z with z | z; exact w3 z; omega) (by rw [w5]; exact k6 k (by omega)) (by decide +kernel) ?_
      refine lv_iload hx hb (i := 4) (x := c') (by decide +kernel) (lv_at hv 2 rfl) ?_
      refine lv_icmp_ne hx hb (off := 6) (tgt := 25) (by decide +kernel) rfl (fun z => ?_) (fun z => ?_)
      · have hj2 : jixF c' ((jbyt.getD i []).drop (k + 1)) (k + 1) = jix i c' := by rw [← hj]; exact (if_neg z).symm
        refine lv_iinc hx hb (i := 5) (n := 1) (x := Int32.ofNat k) (v := Int32.ofNat (k + 1)) (by decide +kernel) hv (k := 3) rfl c3 (by decide) rfl fun ls' h' => ?_
        refine lv_goto hx hb (off := -21) (tgt := 7) (by decide +kernel) rfl ?_
        exact ih (k + 1) ls' (by omega) hj2 (lv_sub h' [1, 2, 3, 0] rfl)
      · have hj2 : Int32.ofNat k = jix i c' := by rw [← hj]; exact (if_pos z).symm
        refine lv_iload hx hb (i := 5) (x := Int32.ofNat k) (by decide +kernel) (lv_at hv 3 rfl) ?_
        rw [hj2]
        exact W.iret hx hb hr (fun t ht hw => ⟨ht, rfl⟩) hl (by decide +kernel)
  refine lv_iload_n hx hb (k := 1) (i := 1) (x := c) (by decide +kernel) rfl (lv_at hv 1 rfl) ?_
  refine lv_i2b hx hb (by decide +kernel) hce ?_
  refine lv_istore hx hb (i := 4) (by decide +kernel) hv (by decide) rfl fun ls1 h1 => ?_
  refine lv_iload_n hx hb (k := 2) (i := 2) (x := 0) (by decide +kernel) rfl (lv_at h1 3 rfl) ?_
  refine lv_istore hx hb (i := 5) (by decide +kernel) h1 (by decide) rfl fun ls2 h2 => ?_
  exact loop (jlen.getD i 0) 0 ls2 (by omega) rfl (lv_sub h2 [2, 5, 1, 0] rfl)
theorem j_canEncode {l : Launch} {G : XG} {c : Int32} (h0 : ¬ c < 0) (h1 : ¬ 255 < c) : JM l G jy_canEncode jc_canEncode 1 (some .boolean) 0 [.int c] (some (.int 1)) := by
  refine j_start rfl (Nat.le_of_ble_eq_true rfl) ?_
  intro p e s m args below meth cd ls hx hb hml hown hts hJ hr hlk hv
  have hl : ∀ q ∈ ([] : List Loc), G.1 ≤ q.base := fun q hq => by cases hq
  have hls : ls.size = 1 := hv.1
  refine lv_iload_n hx hb (k := 0) (i := 0) (x := c) (by decide +kernel) rfl (lv_at hv 0 rfl) ?_
  refine lv_if_lt hx hb (off := 14) (tgt := 15) (by decide +kernel) rfl (fun z => absurd z h0) (fun z => ?_)
  refine lv_iload_n hx hb (k := 0) (i := 0) (x := c) (by decide +kernel) rfl (lv_at hv 0 rfl) ?_
  refine lv_sipush hx hb (n := 255) (v := 255) (by decide +kernel) rfl ?_
  refine lv_icmp_gt hx hb (off := 7) (tgt := 15) (by decide +kernel) rfl (fun z => absurd z h1) (fun z => ?_)
  refine lv_iconst hx hb (n := 1) (v := 1) (by decide +kernel) rfl ?_
  refine lv_goto hx hb (off := 4) (tgt := 16) (by decide +kernel) rfl ?_
  exact W.zret hx hb (ty := .boolean) hr rfl (fun t ht hw => ⟨ht, rfl⟩) hl (by decide +kernel)
theorem j_lindexOf {l : Launch} {G : XG} {i : Nat} {ch : Int32} (hi : i < 5) (h0 : ¬ ch < 0) (h1 : ¬ 255 < ch) : JM l G jy_lindexOf jc_lindexOf 4 (some .int) 1 [.ref (G.2.1 (20 + i)), .int ch, .int 0, .int (Int32.ofNat (jlen.getD i 0))] (some (.int (jix i ch.toInt8.toInt32))) := by
  refine j_start rfl (Nat.le_of_ble_eq_true rfl) ?_
  intro p e s m args below meth cd ls hx hb hml hown hts hJ hr hlk hv
  have hl : ∀ q ∈ ([] : List Loc), G.1 ≤ q.base := fun q hq => by cases hq
  have hls : ls.size = 4 := hv.1
  obtain ⟨l1, l2, l3, l4⟩ := jlen_ok i hi
  obtain ⟨cell, k1, k2, k3, k4, k5, k6, k7⟩ := (hJ.2.1.1 i hi).2.2.2
  refine lv_iload_n hx hb (k := 1) (i := 1) (x := ch) (by decide +kernel) rfl (lv_at hv 1 rfl) ?_
  refine j_callS (n := 1) (index := 88) (own := "java/lang/StringLatin1") (vs := [.int ch]) (rest := []) (j_canEncode h0 h1) hx hb hml hown hts hJ (xqof (by decide +kernel)) (xqof (by decide +kernel)) (xqof (by decide +kernel)) (xqof (by decide +kernel)) ⟨by decide, by decide, by decide +kernel⟩ rfl ⟨by decide, by decide⟩ hls (Nat.le_of_ble_eq_true rfl) (by decide +kernel) hl ?_ rfl
  intro locs hl
  refine lv_if_ne hx hb (off := 5) (tgt := 9) (by decide +kernel) rfl (fun z => ?_) (fun z => absurd z (by decide))
  refine lv_iload_n hx hb (k := 2) (i := 2) (x := 0) (by decide +kernel) rfl (lv_at hv 2 rfl) ?_
  refine lv_iconst hx hb (n := 0) (v := 0) (by decide +kernel) rfl ?_
  refine va_mmax hx hb (hml.trans hv.1.symm) (own := "java/lang/StringLatin1") (index := 92) hown (hts _ (xqof (by decide +kernel))) (hts _ (xqof (by decide +kernel))) (hts _ (xqof (by decide +kernel))) (hts _ (xqof (by decide +kernel))) (by decide) (Nat.le_of_ble_eq_true rfl) (Nat.zero_le _) (Nat.zero_le _) (by decide +kernel) ?_
  refine lv_istore_n hx hb (k := 2) (i := 2) (x := 0) (by decide +kernel) rfl hv (by decide) rfl fun ls1 h1v => ?_
  refine lv_iload_n hx hb (k := 3) (i := 3) (x := Int32.ofNat (jlen.getD i 0)) (by decide +kernel) rfl (lv_at h1v 3 rfl) ?_
  refine lv_aload_n hx hb (k := 0) (i := 0) (x := G.2.1 (20 + i)) (by decide +kernel) rfl (lv_at h1v 1 rfl) ?_
  refine j_alen hx hb k1 k2 k5 (by decide +kernel) ?_
  refine va_mmin hx hb (hml.trans h1v.1.symm) (own := "java/lang/StringLatin1") (index := 38) hown (hts _ (xqof (by decide +kernel))) (hts _ (xqof (by decide +kernel))) (hts _ (xqof (by decide +kernel))) (hts _ (xqof (by decide +kernel))) (by decide) (Nat.le_of_ble_eq_true rfl) (Nat.zero_le _) (Nat.zero_le _) (by decide +kernel) ?_
  rw [l4]
  refine lv_istore_n hx hb (k := 3) (i := 3) (x := Int32.ofNat (jlen.getD i 0)) (by decide +kernel) rfl h1v (by decide) rfl fun ls2 h2v => ?_
  have hls : ls2.size = 4 := h2v.1
  refine lv_iload_n hx hb (k := 2) (i := 2) (x := 0) (by decide +kernel) rfl (lv_at h2v 1 rfl) ?_
  refine lv_iload_n hx hb (k := 3) (i := 3) (x := Int32.ofNat (jlen.getD i 0)) (by decide +kernel) rfl (lv_at h2v 0 rfl) ?_
  refine lv_icmp_lt hx hb (off := 5) (tgt := 29) (by decide +kernel) rfl (fun z => ?_) (fun z => absurd l1 z)
  refine lv_aload_n hx hb (k := 0) (i := 0) (x := G.2.1 (20 + i)) (by decide +kernel) rfl (lv_at h2v 2 rfl) ?_
  refine lv_iload_n hx hb (k := 1) (i := 1) (x := ch) (by decide +kernel) rfl (lv_at h2v 3 rfl) ?_
  refine lv_iload_n hx hb (k := 2) (i := 2) (x := 0) (by decide +kernel) rfl (lv_at h2v 1 rfl) ?_
  refine lv_iload_n hx hb (k := 3) (i := 3) (x := Int32.ofNat (jlen.getD i 0)) (by decide +kernel) rfl (lv_at h2v 0 rfl) ?_
  refine j_callS (n := 4) (index := 95) (own := "java/lang/StringLatin1") (vs := [.ref (G.2.1 (20 + i)), .int ch, .int 0, .int (Int32.ofNat (jlen.getD i 0))]) (rest := []) (j_ixc hi) hx hb hml hown hts hJ (xqof (by decide +kernel)) (xqof (by decide +kernel)) (xqof (by decide +kernel)) (xqof (by decide +kernel)) ⟨by decide, by decide, by decide +kernel⟩ rfl ⟨by decide, by decide⟩ hls (Nat.le_of_ble_eq_true rfl) (by decide +kernel) hl ?_ rfl
  intro locs hl
  exact W.iret hx hb hr (fun t ht hw => ⟨ht, rfl⟩) hl (by decide +kernel)
theorem j_indexOf2 {l : Launch} {G : XG} {i : Nat} {ch : Int32} (hi : i < 5) (h0 : ¬ ch < 0) (h1 : ¬ 255 < ch) : JM l G jy_indexOf2 jc_indexOf2 3 (some .int) 2 [.ref (G.2.1 (10 + i)), .int ch, .int 0] (some (.int (jix i ch.toInt8.toInt32))) := by
  refine j_start rfl (Nat.le_of_ble_eq_true rfl) ?_
  intro p e s m args below meth cd ls hx hb hml hown hts hJ hr hlk hv
  have hl : ∀ q ∈ ([] : List Loc), G.1 ≤ q.base := fun q hq => by cases hq
  have hls : ls.size = 3 := hv.1
  refine lv_aload_n hx hb (k := 0) (i := 0) (x := G.2.1 (10 + i)) (by decide +kernel) rfl (lv_at hv 0 rfl) ?_
  refine j_callV (n := 0) (index := 492) (own := "java/lang/String") (vs := []) (rest := []) hi (j_isLatin1 hi) hx hb hml hown hts hJ (xqof (by decide +kernel)) (xqof (by decide +kernel)) (xqof (by decide +kernel)) (xqof (by decide +kernel)) (xqof (by decide +kernel)) ⟨by decide, by decide, by decide, by decide +kernel⟩ rfl ⟨by decide, by decide⟩ hls (Nat.le_of_ble_eq_true rfl) (by decide +kernel) hl ?_ rfl
  intro locs hl
  refine lv_if_eq hx hb (off := 19) (tgt := 23) (by decide +kernel) rfl (fun z => absurd z (by decide)) (fun z => ?_)
  refine lv_aload_n hx hb (k := 0) (i := 0) (x := G.2.1 (10 + i)) (by decide +kernel) rfl (lv_at hv 0 rfl) ?_
  refine vk_getf hx hb (hJ.2.1.1 i hi).2.2.1 ⟨Nat.le_refl _, fun _ _ _ => rfl, hl⟩ hown (hts (.fieldLink "java/lang/String" 9 "java/lang/String" "value" "[B") (xqof (by decide +kernel))) (fun x h => h) (by decide +kernel) ?_
  refine lv_iload_n hx hb (k := 1) (i := 1) (x := ch) (by decide +kernel) rfl (lv_at hv 1 rfl) ?_
  refine lv_iload_n hx hb (k := 2) (i := 2) (x := 0) (by decide +kernel) rfl (lv_at hv 2 rfl) ?_
  refine lv_aload_n hx hb (k := 0) (i := 0) (x := G.2.1 (10 + i)) (by decide +kernel) rfl (lv_at hv 0 rfl) ?_
  refine j_callV (n := 0) (index := 505) (own := "java/lang/String") (vs := []) (rest := [.int 0, .int ch, .ref (G.2.1 (20 + i))]) hi (j_length hi) hx hb hml hown hts hJ (xqof (by decide +kernel)) (xqof (by decide +kernel)) (xqof (by decide +kernel)) (xqof (by decide +kernel)) (xqof (by decide +kernel)) ⟨by decide, by decide, by decide, by decide +kernel⟩ rfl ⟨by decide, by decide⟩ hls (Nat.le_of_ble_eq_true rfl) (by decide +kernel) hl ?_ rfl
  intro locs hl
  refine j_callS (n := 4) (index := 637) (own := "java/lang/String") (vs := [.ref (G.2.1 (20 + i)), .int ch, .int 0, .int (Int32.ofNat (jlen.getD i 0))]) (rest := []) (j_lindexOf hi h0 h1) hx hb hml hown hts hJ (xqof (by decide +kernel)) (xqof (by decide +kernel)) (xqof (by decide +kernel)) (xqof (by decide +kernel)) ⟨by decide, by decide, by decide +kernel⟩ rfl ⟨by decide, by decide⟩ hls (Nat.le_of_ble_eq_true rfl) (by decide +kernel) hl ?_ rfl
  intro locs hl
  refine lv_goto hx hb (off := 16) (tgt := 36) (by decide +kernel) rfl ?_
  exact W.iret hx hb hr (fun t ht hw => ⟨ht, rfl⟩) hl (by decide +kernel)
theorem j_indexOf {l : Launch} {G : XG} {i : Nat} {ch : Int32} (hi : i < 5) (h0 : ¬ ch < 0) (h1 : ¬ 255 < ch) : JM l G jy_indexOf jc_indexOf 2 (some .int) 3 [.ref (G.2.1 (10 + i)), .int ch] (some (.int (jix i ch.toInt8.toInt32))) := by
  refine j_start rfl (Nat.le_of_ble_eq_true rfl) ?_
  intro p e s m args below meth cd ls hx hb hml hown hts hJ hr hlk hv
  have hl : ∀ q ∈ ([] : List Loc), G.1 ≤ q.base := fun q hq => by cases hq
  have hls : ls.size = 2 := hv.1
  refine lv_aload_n hx hb (k := 0) (i := 0) (x := G.2.1 (10 + i)) (by decide +kernel) rfl (lv_at hv 0 rfl) ?_
  refine lv_iload_n hx hb (k := 1) (i := 1) (x := ch) (by decide +kernel) rfl (lv_at hv 1 rfl) ?_
  refine lv_iconst hx hb (n := 0) (v := 0) (by decide +kernel) rfl ?_
  refine j_callV (n := 2) (index := 633) (own := "java/lang/String") (vs := [.int ch, .int 0]) (rest := []) hi (j_indexOf2 hi h0 h1) hx hb hml hown hts hJ (xqof (by decide +kernel)) (xqof (by decide +kernel)) (xqof (by decide +kernel)) (xqof (by decide +kernel)) (xqof (by decide +kernel)) ⟨by decide, by decide, by decide, by decide +kernel⟩ rfl ⟨by decide, by decide⟩ hls (Nat.le_of_ble_eq_true rfl) (by decide +kernel) hl ?_ rfl
  intro locs hl
  exact W.iret hx hb hr (fun t ht hw => ⟨ht, rfl⟩) hl (by decide +kernel)
def ychr (i k : Nat) : Int := ((jbyt.getD i []).getD k 0).toInt
def ysix (i : Nat) (a : Int) : Int := (jix i (Int32.ofInt a).toInt8.toInt32).toInt
theorem jw_length : Cond.instanceMethod jy_length ∈ xqgw ∧ Cond.selects "java/lang/String" jy_length jy_length ∈ xqgw ∧ Cond.initialized "java/lang/String" ∈ xqgw ∧ Cond.code jy_length jc_length 1 (some .int) ∈ xqgw := ⟨xqof (by decide +kernel), xqof (by decide +kernel), xqof (by decide +kernel), xqof (by decide +kernel)⟩
theorem jn_length : jy_length.cls = "java/lang/String" ∧ jy_length.cls ≠ "java/lang/invoke/MethodHandle" ∧ jy_length.cls ≠ "java/lang/invoke/VarHandle" ∧ (parseMethodDescriptor jy_length.desc).map (fun d => d.parameters.length) = some 0 := ⟨by decide, by decide, by decide, by decide +kernel⟩
theorem jw_charAt : Cond.instanceMethod jy_charAt ∈ xqgw ∧ Cond.selects "java/lang/String" jy_charAt jy_charAt ∈ xqgw ∧ Cond.initialized "java/lang/String" ∈ xqgw ∧ Cond.code jy_charAt jc_charAt 2 (some .char) ∈ xqgw := ⟨xqof (by decide +kernel), xqof (by decide +kernel), xqof (by decide +kernel), xqof (by decide +kernel)⟩
theorem jn_charAt : jy_charAt.cls = "java/lang/String" ∧ jy_charAt.cls ≠ "java/lang/invoke/MethodHandle" ∧ jy_charAt.cls ≠ "java/lang/invoke/VarHandle" ∧ (parseMethodDescriptor jy_charAt.desc).map (fun d => d.parameters.length) = some 1 := ⟨by decide, by decide, by decide, by decide +kernel⟩
theorem jw_indexOf : Cond.instanceMethod jy_indexOf ∈ xqgw ∧ Cond.selects "java/lang/String" jy_indexOf jy_indexOf ∈ xqgw ∧ Cond.initialized "java/lang/String" ∈ xqgw ∧ Cond.code jy_indexOf jc_indexOf 2 (some .int) ∈ xqgw := ⟨xqof (by decide +kernel), xqof (by decide +kernel), xqof (by decide +kernel), xqof (by decide +kernel)⟩
theorem jn_indexOf : jy_indexOf.cls = "java/lang/String" ∧ jy_indexOf.cls ≠ "java/lang/invoke/MethodHandle" ∧ jy_indexOf.cls ≠ "java/lang/invoke/VarHandle" ∧ (parseMethodDescriptor jy_indexOf.desc).map (fun d => d.parameters.length) = some 1 := ⟨by decide, by decide, by decide, by decide +kernel⟩
/-! The world with its contents exactly: σ k j is what cell k holds at place j. -/
abbrev YV : Type := Nat × Int
abbrev YS : Type := Int → Int → Int
abbrev YL : Type := List (Option YV)
abbrev YC : Type := Nat × Nat × List Int
def yct : List (List YC) := [
  [(4, 0, [1, 15, 37, 51, 65, 94, 139, 140, 143, 545, 546, -1, -1, -1]), (2, 0, [2, 3, 13, 14, -1, -1, -1, -1]), (10, 9, []), (20, 3, [4, 3]), (0, 0, [5, 6, -1, -1, -1, -1, -1, -1, -2]), (10, 24, []), (10, 24, []), (0, 0, [8, 9, -1, -1, -1, -1, -1, -1, -2]), (10, 24, []), (10, 24, []), (0, 0, [11, 12, -1, -1, -1, -1, -1, -1, -2]), (10, 24, []), (10, 24, []), (10, 4, []), (10, 22, []), (1, 0, [16, -1]), (12, 20, [17, 1]), (10, 22, []), (10, 22, []), (10, 22, []), (10, 22, []), (10, 22, []), (10, 22, []), (10, 22, [])],
  [(10, 22, []), (10, 22, []), (10, 22, []), (10, 22, []), (10, 22, []), (10, 22, []), (10, 22, []), (10, 22, []), (10, 22, []), (10, 22, []), (10, 22, []), (10, 22, []), (10, 22, []), (2, 0, [38, 39, 49, 50, -1, -1, -1, -1]), (10, 9, []), (20, 3, [40, 3]), (0, 0, [41, 42, -1, -1, -1, -1, -1, -1, -2]), (10, 24, []), (10, 24, []), (0, 0, [44, 45, -1, -1, -1, -1, -1, -1, -2]), (10, 24, []), (10, 24, []), (0, 0, [47, 48, -1, -1, -1, -1, -1, -1, -2]), (10, 24, [])],
  [(10, 24, []), (10, 4, []), (10, 22, []), (2, 0, [52, 53, 63, 64, -1, -1, -1, -1]), (10, 9, []), (20, 3, [54, 3]), (0, 0, [55, 56, -1, -1, -1, -1, -1, -1, -2]), (10, 24, []), (10, 24, []), (0, 0, [58, 59, -1, -1, -1, -1, -1, -1, -2]), (10, 24, []), (10, 24, []), (0, 0, [61, 62, -1, -1, -1, -1, -1, -1, -2]), (10, 24, []), (10, 24, []), (10, 4, []), (10, 22, []), (22, 2, [66, 14]), (2, 0, [67, 68, 78, 79, -1, -1, -1, -1]), (10, 9, []), (20, 3, [69, 3]), (0, 0, [70, 71, -1, -1, -1, -1, -1, -1, -2]), (10, 24, []), (10, 24, [])],
  [(0, 0, [73, 74, -1, -1, -1, -1, -1, -1, -2]), (10, 24, []), (10, 24, []), (0, 0, [76, 77, -1, -1, -1, -1, -1, -1, -2]), (10, 24, []), (10, 24, []), (10, 4, []), (10, 22, []), (2, 0, [81, 82, 92, 93, -1, -1, -1, -1]), (10, 9, []), (20, 3, [83, 3]), (0, 0, [84, 85, -1, -1, -1, -1, -1, -1, -2]), (10, 24, []), (10, 24, []), (0, 0, [87, 88, -1, -1, -1, -1, -1, -1, -2]), (10, 24, []), (10, 24, []), (0, 0, [90, 91, -1, -1, -1, -1, -1, -1, -2]), (10, 24, []), (10, 24, []), (10, 4, []), (10, 22, []), (21, 2, [95, 22]), (1, 0, [96, -1])],
  [(12, 20, [97, 1]), (10, 22, []), (10, 22, []), (10, 22, []), (10, 22, []), (10, 22, []), (10, 22, []), (10, 22, []), (10, 22, []), (10, 22, []), (10, 22, []), (10, 22, []), (10, 22, []), (10, 22, []), (10, 22, []), (10, 22, []), (10, 22, []), (10, 22, []), (10, 22, []), (10, 22, []), (10, 22, []), (1, 0, [118, -1]), (12, 20, [119, 1]), (10, 22, [])],
  [(10, 22, []), (10, 22, []), (10, 22, []), (10, 22, []), (10, 22, []), (10, 22, []), (10, 22, []), (10, 22, []), (10, 22, []), (10, 22, []), (10, 22, []), (10, 22, []), (10, 22, []), (10, 22, []), (10, 22, []), (10, 22, []), (10, 22, []), (10, 22, []), (10, 22, []), (11, 2, []), (3, 0, [141, 142, -1, -1, -1, -1, -1, -1, -1, -1]), (10, 200, []), (10, 2, []), (12, 401, [144, 1])],
  [(10, 22, []), (10, 22, []), (10, 22, []), (10, 22, []), (10, 22, []), (10, 22, []), (10, 22, []), (10, 22, []), (10, 22, []), (10, 22, []), (10, 22, []), (10, 22, []), (10, 22, []), (10, 22, []), (10, 22, []), (10, 22, []), (10, 22, []), (10, 22, []), (10, 22, []), (10, 22, []), (10, 22, []), (10, 22, []), (10, 22, []), (10, 22, [])],
  [(10, 22, []), (10, 22, []), (10, 22, []), (10, 22, []), (10, 22, []), (10, 22, []), (10, 22, []), (10, 22, []), (10, 22, []), (10, 22, []), (10, 22, []), (10, 22, []), (10, 22, []), (10, 22, []), (10, 22, []), (10, 22, []), (10, 22, []), (10, 22, []), (10, 22, []), (10, 22, []), (10, 22, []), (10, 22, []), (10, 22, []), (10, 22, [])],
  [(10, 22, []), (10, 22, []), (10, 22, []), (10, 22, []), (10, 22, []), (10, 22, []), (10, 22, []), (10, 22, []), (10, 22, []), (10, 22, []), (10, 22, []), (10, 22, []), (10, 22, []), (10, 22, []), (10, 22, []), (10, 22, []), (10, 22, []), (10, 22, []), (10, 22, []), (10, 22, []), (10, 22, []), (10, 22, []), (10, 22, []), (10, 22, [])],
  [(10, 22, []), (10, 22, []), (10, 22, []), (10, 22, []), (10, 22, []), (10, 22, []), (10, 22, []), (10, 22, []), (10, 22, []), (10, 22, []), (10, 22, []), (10, 22, []), (10, 22, []), (10, 22, []), (10, 22, []), (10, 22, []), (10, 22, []), (10, 22, []), (10, 22, []), (10, 22, []), (10, 22, []), (10, 22, []), (10, 22, []), (10, 22, [])],
  [(10, 22, []), (10, 22, []), (10, 22, []), (10, 22, []), (10, 22, []), (10, 22, []), (10, 22, []), (10, 22, []), (10, 22, []), (10, 22, []), (10, 22, []), (10, 22, []), (10, 22, []), (10, 22, []), (10, 22, []), (10, 22, []), (10, 22, []), (10, 22, []), (10, 22, []), (10, 22, []), (10, 22, []), (10, 22, []), (10, 22, []), (10, 22, [])],
  [(10, 22, []), (10, 22, []), (10, 22, []), (10, 22, []), (10, 22, []), (10, 22, []), (10, 22, []), (10, 22, []), (10, 22, []), (10, 22, []), (10, 22, []), (10, 22, []), (10, 22, []), (10, 22, []), (10, 22, []), (10, 22, []), (10, 22, []), (10, 22, []), (10, 22, []), (10, 22, []), (10, 22, []), (10, 22, []), (10, 22, []), (10, 22, [])],
  [(10, 22, []), (10, 22, []), (10, 22, []), (10, 22, []), (10, 22, []), (10, 22, []), (10, 22, []), (10, 22, []), (10, 22, []), (10, 22, []), (10, 22, []), (10, 22, []), (10, 22, []), (10, 22, []), (10, 22, []), (10, 22, []), (10, 22, []), (10, 22, []), (10, 22, []), (10, 22, []), (10, 22, []), (10, 22, []), (10, 22, []), (10, 22, [])],
  [(10, 22, []), (10, 22, []), (10, 22, []), (10, 22, []), (10, 22, []), (10, 22, []), (10, 22, []), (10, 22, []), (10, 22, []), (10, 22, []), (10, 22, []), (10, 22, []), (10, 22, []), (10, 22, []), (10, 22, []), (10, 22, []), (10, 22, []), (10, 22, []), (10, 22, []), (10, 22, []), (10, 22, []), (10, 22, []), (10, 22, []), (10, 22, [])],
  [(10, 22, []), (10, 22, []), (10, 22, []), (10, 22, []), (10, 22, []), (10, 22, []), (10, 22, []), (10, 22, []), (10, 22, []), (10, 22, []), (10, 22, []), (10, 22, []), (10, 22, []), (10, 22, []), (10, 22, []), (10, 22, []), (10, 22, []), (10, 22, []), (10, 22, []), (10, 22, []), (10, 22, []), (10, 22, []), (10, 22, []), (10, 22, [])],
  [(10, 22, []), (10, 22, []), (10, 22, []), (10, 22, []), (10, 22, []), (10, 22, []), (10, 22, []), (10, 22, []), (10, 22, []), (10, 22, []), (10, 22, []), (10, 22, []), (10, 22, []), (10, 22, []), (10, 22, []), (10, 22, []), (10, 22, []), (10, 22, []), (10, 22, []), (10, 22, []), (10, 22, []), (10, 22, []), (10, 22, []), (10, 22, [])],
  [(10, 22, []), (10, 22, []), (10, 22, []), (10, 22, []), (10, 22, []), (10, 22, []), (10, 22, []), (10, 22, []), (10, 22, []), (10, 22, []), (10, 22, []), (10, 22, []), (10, 22, []), (10, 22, []), (10, 22, []), (10, 22, []), (10, 22, []), (10, 22, []), (10, 22, []), (10, 22, []), (10, 22, []), (10, 22, []), (10, 22, []), (10, 22, [])],
  [(10, 22, []), (10, 22, []), (10, 22, []), (10, 22, []), (10, 22, []), (10, 22, []), (10, 22, []), (10, 22, []), (10, 22, []), (10, 22, []), (10, 22, []), (10, 22, []), (10, 22, []), (10, 22, []), (10, 22, []), (10, 22, []), (10, 22, []), (10, 22, []), (10, 22, []), (10, 22, []), (10, 22, []), (10, 22, []), (10, 22, []), (10, 22, [])],
  [(10, 22, []), (10, 22, []), (10, 22, []), (10, 22, []), (10, 22, []), (10, 22, []), (10, 22, []), (10, 22, []), (10, 22, []), (10, 22, []), (10, 22, []), (10, 22, []), (10, 22, []), (10, 22, []), (10, 22, []), (10, 22, []), (10, 22, []), (10, 22, []), (10, 22, []), (10, 22, []), (10, 22, []), (10, 22, []), (10, 22, []), (10, 22, [])],
  [(10, 22, []), (10, 22, []), (10, 22, []), (10, 22, []), (10, 22, []), (10, 22, []), (10, 22, []), (10, 22, []), (10, 22, []), (10, 22, []), (10, 22, []), (10, 22, []), (10, 22, []), (10, 22, []), (10, 22, []), (10, 22, []), (10, 22, []), (10, 22, []), (10, 22, []), (10, 22, []), (10, 22, []), (10, 22, []), (10, 22, []), (10, 22, [])],
  [(10, 22, []), (10, 22, []), (10, 22, []), (10, 22, []), (10, 22, []), (10, 22, []), (10, 22, []), (10, 22, []), (10, 22, []), (10, 22, []), (10, 22, []), (10, 22, []), (10, 22, []), (10, 22, []), (10, 22, []), (10, 22, []), (10, 22, []), (10, 22, []), (10, 22, []), (10, 22, []), (10, 22, []), (10, 22, []), (10, 22, []), (10, 22, [])],
  [(10, 22, []), (10, 22, []), (10, 22, []), (10, 22, []), (10, 22, []), (10, 22, []), (10, 22, []), (10, 22, []), (10, 22, []), (10, 22, []), (10, 22, []), (10, 22, []), (10, 22, []), (10, 22, []), (10, 22, []), (10, 22, []), (10, 22, []), (10, 22, []), (10, 22, []), (10, 22, []), (10, 22, []), (10, 22, []), (10, 22, []), (10, 22, [])],
  [(10, 22, []), (10, 22, []), (10, 22, []), (10, 22, []), (10, 22, []), (10, 22, []), (10, 22, []), (10, 22, []), (10, 22, []), (10, 22, []), (10, 22, []), (10, 22, []), (10, 22, []), (10, 22, []), (10, 22, []), (10, 22, []), (10, 22, []), (10, 400, []), (10, 22, []), (5, 0, [548, 549, 550, -1, 551, 552, 553, -1, -1, -1, 554, 555, 556, 557, 558, 559, 560, 561, -1, -1, 562, 563, 564, 565, -3]), (10, 2108, []), (11, 2, []), (10, 200, []), (10, 3, [])],
  [(10, 40, []), (10, 120, []), (10, 9, []), (10, 3, []), (10, 3, []), (10, 3, []), (10, 3, []), (10, 3, []), (10, 75, []), (10, 75, []), (10, 25, []), (10, 8421, []), (10, 401, []), (10, 15, [])]]
def ycell (a : Nat) : Option YC := (yct[a / 24]?).bind (fun c => c[a % 24]?)
def y2x (v : YV) : XV := match v with
  | (0, n) => .inl (n, n, 0, 0)
  | (1, n) => .inr (.inl (n, n))
  | (2, a) => .inr (.inr (.inl (some a.toNat)))
  | (_, a) => .inr (.inr (.inr a.toNat))
def yxl (L : YL) : XLc := L.map (Option.map y2x)
def yxs (S : List YV) : List XV := S.map y2x
def yset (σ : YS) (k j v : Int) : YS := fun a b => if a = k ∧ b = j then v else σ a b
def ycopy (σ : YS) (a sp b dp n : Int) : YS := fun k j => if k = b ∧ dp ≤ j ∧ j < dp + n then σ a (j - dp + sp) else σ k j
def YFok (G : XG) (t n : Int) (w : Value) : Prop := if t = -3 then (∃ i : Int64, w = .long i ∧ i.toInt = n) else if t < 0 then (∃ i : Int32, w = .int i ∧ i.toInt = n) else w = .ref (G.1 + t.toNat)
def YEok (G : XG) (q : List Int) (j : Nat) (n : Int) (w : Value) : Prop := match q with
  | [a, d] => w = .ref (G.1 + (a + d * j).toNat)
  | _ => ∃ i : Int32, w = .int i ∧ i.toInt = n
def YCok (G : XG) (D : va_G) (U : State) (σ : YS) (a : Nat) (c : YC) (H : Heap) : Prop :=
  (c.1 < 10 → ∃ vs : List Value, vs.length = c.2.2.length ∧ (∀ (j : Nat) (t : Int), c.2.2[j]? = some t → ∃ w, vs[j]? = some w ∧ YFok G t (σ a j) w) ∧ va_at D xqcls (G.1 + a, .inr (c.1, vs)) H) ∧
  (10 ≤ c.1 → ∃ (cA : ClassId) (f : Nat → Value), H[G.1 + a]? = some (arrV cA c.2.1 f) ∧ ArrOfT U cA (xqty (c.1 - 10)) ∧ va_RA U cA (xqty (c.1 - 10)) ∧ ∀ j : Nat, j < c.2.1 → YEok G c.2.2 j (σ a j) (f j))
def YWok (G : XG) (D : va_G) (U : State) (σ : YS) (H : Heap) : Prop := H.size = G.1 + 566 ∧ ∀ (a : Nat) (c : YC), ycell a = some c → YCok G D U σ a c H
theorem YCok.kept {G : XG} {D : va_G} {U : State} {σ σ' : YS} {a : Nat} {c : YC} {H H1 : Heap} (h : YCok G D U σ a c H) (hq : H1[G.1 + a]? = H[G.1 + a]?) (hs : ∀ j : Nat, σ' a j = σ a j) : YCok G D U σ' a c H1 := by
  refine ⟨fun h1 => ?_, fun h1 => ?_⟩
  · obtain ⟨vs, e1, e2, e3⟩ := h.1 h1
    exact ⟨vs, e1, fun j t ht => by rw [hs]; exact e2 j t ht, e3.kept hq⟩
  · obtain ⟨cA, f, e1, e2, e3, e4⟩ := h.2 h1
    exact ⟨cA, f, by rw [hq]; exact e1, e2, e3, fun j hj => by rw [hs]; exact e4 j hj⟩
theorem YCok.moved {G : XG} {D : va_G} {u U : State} {σ : YS} {a : Nat} {c : YC} {H : Heap} (hvm : u.vm.Alike U.vm) (h : YCok G D u σ a c H) : YCok G D U σ a c H := by
  refine ⟨h.1, fun h1 => ?_⟩
  obtain ⟨cA, f, e1, e2, e3, e4⟩ := h.2 h1
  exact ⟨cA, f, e1, arrOfT_moved hvm e2, e3.moved hvm, e4⟩
theorem YWok.moved {G : XG} {D : va_G} {u U : State} {σ : YS} {H : Heap} (hvm : u.vm.Alike U.vm) (h : YWok G D u σ H) : YWok G D U σ H := ⟨h.1, fun a c hk => (h.2 a c hk).moved hvm⟩
theorem YWok.put {G : XG} {D : va_G} {U : State} {σ σ' : YS} {a : Nat} {H H1 : Heap} (h : YWok G D U σ H) (hz : H1.size = H.size) (ho : ∀ q : Nat, q ≠ G.1 + a → H1[q]? = H[q]?) (hs : ∀ b j : Int, b ≠ a → σ' b j = σ b j) (hc : ∀ c, ycell a = some c → YCok G D U σ' a c H1) : YWok G D U σ' H1 := by
  refine ⟨hz.trans h.1, fun b c hk => ?_⟩
  by_cases e : b = a
  · subst e; exact hc c hk
  · exact (h.2 b c hk).kept (ho _ (by omega)) (fun j => hs b j (by omega))
theorem ys0 {G : XG} {n : Int} {S : List YV} {st : List Value} (h : XSok G (yxs ((0, n) :: S)) st) : ∃ (i : Int32) (st' : List Value), st = .int i :: st' ∧ i.toInt = n ∧ XSok G (yxs S) st' := by
  obtain ⟨w, st', rfl, ⟨i, rfl, h1, h2, -⟩, h3⟩ := XSok_cons h
  dsimp only at h1 h2
  exact ⟨i, st', rfl, by omega, h3⟩
theorem ys1 {G : XG} {n : Int} {S : List YV} {st : List Value} (h : XSok G (yxs ((1, n) :: S)) st) : ∃ (i : Int64) (st' : List Value), st = .long i :: st' ∧ i.toInt = n ∧ XSok G (yxs S) st' := by
  obtain ⟨w, st', rfl, ⟨i, rfl, h1, h2⟩, h3⟩ := XSok_cons h
  dsimp only at h1 h2
  exact ⟨i, st', rfl, by omega, h3⟩
theorem ys2 {G : XG} {a : Int} {S : List YV} {st : List Value} (h : XSok G (yxs ((2, a) :: S)) st) : ∃ (st' : List Value), st = .ref (G.1 + a.toNat) :: st' ∧ XSok G (yxs S) st' := by
  obtain ⟨w, st', rfl, h1, h3⟩ := XSok_cons h
  have h1 : w = .ref (G.1 + a.toNat) := h1
  subst h1
  exact ⟨st', rfl, h3⟩
theorem ys3 {G : XG} {a : Int} {S : List YV} {st : List Value} (h : XSok G (yxs ((3, a) :: S)) st) : ∃ (st' : List Value), st = .ref (G.2.1 a.toNat) :: st' ∧ XSok G (yxs S) st' := by
  obtain ⟨w, st', rfl, h1, h3⟩ := XSok_cons h
  have h1 : w = .ref (G.2.1 a.toNat) := h1
  subst h1
  exact ⟨st', rfl, h3⟩
theorem yp0 {G : XG} {n : Int} {i : Int32} (h : i.toInt = n) : XVok G (y2x (0, n)) (.int i) := ⟨i, rfl, by show n ≤ _; omega, by show _ ≤ n; omega, fun t ht => by cases ht⟩
theorem yp1 {G : XG} {n : Int} {i : Int64} (h : i.toInt = n) : XVok G (y2x (1, n)) (.long i) := ⟨i, rfl, by show n ≤ _; omega, by show _ ≤ n; omega⟩
theorem yref {G : XG} {t : Nat} {v : Int} {w : Value} (ht : 2 ≤ t) (h : XVok G (y2x (t, v)) w) : ∃ a, w = .ref a := by
  match t, ht with
  | 2, _ => exact ⟨_, h⟩
  | t + 3, _ => exact ⟨_, h⟩
theorem yv0 {G : XG} {n : Int} {w : Value} (h : XVok G (y2x (0, n)) w) : ∃ i : Int32, w = .int i ∧ i.toInt = n := by
  obtain ⟨i, rfl, h1, h2, -⟩ := h
  dsimp only at h1 h2
  exact ⟨i, rfl, by omega⟩
theorem yv1 {G : XG} {n : Int} {w : Value} (h : XVok G (y2x (1, n)) w) : ∃ i : Int64, w = .long i ∧ i.toInt = n := by
  obtain ⟨i, rfl, h1, h2⟩ := h
  dsimp only at h1 h2
  exact ⟨i, rfl, by omega⟩
theorem ycat1 {G : XG} {t : Nat} {v : Int} {w : Value} (ht : t ≠ 1) (h : XVok G (y2x (t, v)) w) : w.category = 1 := by
  rw [XVcat h]
  match t, ht with
  | 0, _ => rfl
  | 2, _ => rfl
  | t + 3, _ => rfl
theorem ylget {L : YL} {A : Nat} {v : YV} (h : L[A]? = some (some v)) : (yxl L)[A]? = some (some (y2x v)) := by
  unfold yxl
  rw [List.getElem?_map, h]
  rfl
theorem ylset (L : YL) (A : Nat) (v : YV) : yxl (L.set A (some v)) = (yxl L).set A (some (y2x v)) := by
  unfold yxl
  rw [List.map_set]
  rfl
theorem ylset0 (L : YL) (A : Nat) : yxl (L.set A none) = (yxl L).set A none := by
  unfold yxl
  rw [List.map_set]
  rfl
theorem yllen (L : YL) : (yxl L).length = L.length := List.length_map _
/-- the place ahead holds no long -/
noncomputable def yclr (L : YL) (A : Nat) : Bool := xclr (yxl L) A
abbrev yrg (x : Int) : Prop := -2147483648 ≤ x ∧ x ≤ 2147483647
def yshl (a b : Int) : Int := (Int32.ofInt a <<< (Int32.ofInt b &&& 31)).toInt
def yshr (a b : Int) : Int := (Int32.ofInt a >>> (Int32.ofInt b &&& 31)).toInt
def yand (a b : Int) : Int := (Int32.ofInt a &&& Int32.ofInt b).toInt
def yor (a b : Int) : Int := (Int32.ofInt a ||| Int32.ofInt b).toInt
def yl2i (a : Int) : Int := (Int64.ofInt a).toInt32.toInt
def yladd (a b : Int) : Int := (Int64.ofInt a + Int64.ofInt b).toInt
def ylsub (a b : Int) : Int := (Int64.ofInt a - Int64.ofInt b).toInt
def ylmul (a b : Int) : Int := (Int64.ofInt a * Int64.ofInt b).toInt
def yland (a b : Int) : Int := (Int64.ofInt a &&& Int64.ofInt b).toInt
def ylor (a b : Int) : Int := (Int64.ofInt a ||| Int64.ofInt b).toInt
def ylshl (a b : Int) : Int := (Int64.ofInt a <<< ((Int32.ofInt b).toInt64 &&& 63)).toInt
def ylshr (a b : Int) : Int := (Int64.ofInt a >>> ((Int32.ofInt b).toInt64 &&& 63)).toInt
def yord (i : Int) : Int := ([0, 1, 2, 0, 2, 1, 1, 0, 2, 1, 2, 0, 2, 0, 1, 2, 1, 0] : List Int).getD i.toNat 0
def yfet (i : Int) : Int := ([1, 2, 1, 1, 20, 1] : List Int).getD i.toNat 0
def ylam (i : Int) : Int := ([0, 0, 1, 0, 0, 1] : List Int).getD i.toNat 0
def yqfet (j : Nat) : Value := .int (Int32.ofInt (yfet j))
def yqlam (j : Nat) : Value := .int (Int32.ofInt (ylam j))
def ycmp (c : Nat) (a b : Int) : Prop := match c with
  | 0 => a = b
  | 1 => a ≠ b
  | 2 => a < b
  | 3 => b ≤ a
  | 4 => b < a
  | _ => a ≤ b
def ydep (i : Nat) : Nat := (ydepl[i]?).getD 0
def yrm (i : Nat) : Room := { frames := ydep i, cells := 0, slots := 0, locals := 36 * ydep i }
def yret (r : Option YV) (S : List YV) : List YV := match r with
  | none => S
  | some v => v :: S
def YGl (G : XG) (D : va_G) (s : State) : Prop := XGl G D s ∧
  (va_Z "ClaySlips" "FETCHES_AT_ONCE" "[I" (.ref (G.2.1 2)) (fun q => G.1 ≤ q) s s.heap ∧ va_T .int (G.2.1 2) 6 yqfet (fun q => G.1 ≤ q) s s.heap) ∧
  (va_Z "ClaySlips" "IS_LAME" "[I" (.ref (G.2.1 3)) (fun q => G.1 ≤ q) s s.heap ∧ va_T .int (G.2.1 3) 6 yqlam (fun q => G.1 ≤ q) s s.heap) ∧
  (va_Nw (.fieldLinkNest "ClaySlips$Street" 133 "ClaySlips" "FETCHES_AT_ONCE" "[I" "ClaySlips") s ∧ JGl G s ∧ ∀ (i : Nat) (o : String) (n : Nat), xqstr[i]? = some (o, n) → ∃ tx, vk_R o n tx (G.2.1 (10 + i)) s) ∧
  ∃ (L : Nat) (xs : Nat → Int32), va_X (G.2.1 0) L xs s s.heap ∧ G.2.1 0 < G.1 ∧ G.2.2 5 = (L : Int) ∧ L ≤ 320 ∧ ∀ j, (xs j).toInt = G.2.2 (6 + j)
theorem YGl.moved {G : XG} {D : va_G} {u U : State} (h : YGl G D u) (hW : u.WarmedH U.vm) (hsz : G.1 ≤ U.heap.size) (hh : ∀ q : Nat, q < G.1 → U.heap[q]? = u.heap[q]?) : YGl G D U := by
  obtain ⟨h1, ⟨h2, h3⟩, ⟨h4, h5⟩, h6, L, xs, h7, h8, h9⟩ := h
  have hvm := hW.alike
  have hh2 : ∀ a : Nat, a < u.heap.size → ¬ G.1 ≤ a → U.heap[a]? = u.heap[a]? := fun a _ h => hh a (Nat.not_le.mp h)
  exact ⟨h1.moved hW hsz hh, ⟨(h2.moved hvm).kept hh2, (h3.moved hvm).kept hh2⟩, ⟨(h4.moved hvm).kept hh2, (h5.moved hvm).kept hh2⟩, ⟨va_Nw.warmF hW h6.1, h6.2.1.moved hW hsz hh, fun i o n hi => by obtain ⟨tx, ht⟩ := h6.2.2 i o n hi; exact ⟨tx, ht.warm hW⟩⟩, L, xs, (h7.moved hvm).kept (hh _ h8), h8, h9⟩
def YPc (G : XG) (D : va_G) (as : List YV) (σ : YS) : Array Value → State → Prop := fun v U => ∃ vs : List Value, v = vs.toArray ∧ XSok G (yxs as) vs ∧ YWok G D U σ U.heap ∧ YGl G D U
def YQc (G : XG) (D : va_G) (P : Option YV → YS → Prop) : Array Value → State → Outcome → State → Prop := fun _ st oc t => (∀ q : Nat, q < G.1 → t.heap[q]? = st.heap[q]?) ∧ ∃ (r : Option YV) (σ' : YS), P r σ' ∧ YWok G D t σ' t.heap ∧ XOc G (r.map y2x) oc
/-- a method called with these arguments in this world comes back, and P speaks of what it hands back -/
def YM (g : Launch × XG × va_G) (k : Nat) (as : List YV) (σ : YS) (P : Option YV → YS → Prop) : Prop := Met g.1 (xqyn k) (xqws k) (yrm k) (YPc g.2.1 g.2.2 as σ) (YQc g.2.1 g.2.2 P) 0 0 (fun q => g.2.1.1 ≤ q)
theorem YPc_blind {G : XG} {D : va_G} {σ : YS} (as : List YV) : FrameBlind (YPc G D as σ) := by
  rintro a U g mk ⟨vs, h1, h2, h3, h4⟩
  exact ⟨vs, h1, h2, YWok.moved (u := U) (U := U.calling g mk a) (Vm.Alike.refl U.vm) h3, h4.moved (U := U.calling g mk a) (State.WarmedH.refl U) h4.1.2.2.2.1 (fun q _ => rfl)⟩
