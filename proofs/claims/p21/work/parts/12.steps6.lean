abbrev xqin (p : Nat) (w : Cond) : Prop := lw_tbl[p]? = some w ∧ goodWord w = true
theorem xqin_ok {p : Nat} {w : Cond} (h : xqin p w) : w ∈ xqgw := List.mem_filter.mpr ⟨List.mem_of_getElem? h.1, h.2⟩
def xqcc (c : Jvm.ClassFile.Cond) : Nat := match c with
  | .eq => 0
  | .ne => 1
  | .lt => 2
  | .ge => 3
  | .gt => 4
  | .le => 5
def xqw (ws : List Nat) (k : Nat) : Nat := (ws[k]?).getD 0
def xqcnt (i : Nat) : Nat := ((xqol[i]?).getD (0, 0, 0, 0)).2.2.1
/-- what the tables say of a method that is called -/
def xqcallok (i : Nat) : Bool := decide (plainName (xqyn i).cls = true ∧ (xqyn i).cls ≠ "java/lang/invoke/MethodHandle" ∧ (xqyn i).cls ≠ "java/lang/invoke/VarHandle" ∧ (parseMethodDescriptor (xqyn i).desc).map (fun d => d.parameters.length) = some (xqcnt i) ∧ xqmll i ≤ 17)
def xqokI (own mn : String) (pc len op A : Nat) (B : Int) (nx r1 r2 r3 : Nat) (ws : List Nat) (ins : Instr) : Bool := match ins with
  | .iconst v => decide (op = 0 ∧ B = v ∧ nx = pc + 1 ∧ len = 1)
  | .bipush v => decide (op = 0 ∧ B = v ∧ nx = pc + 2 ∧ len = 2 ∧ (Int8.ofInt v).toInt32 = Int32.ofInt v)
  | .sipush v => decide (op = 0 ∧ B = v ∧ nx = pc + 3 ∧ len = 3 ∧ (Int16.ofInt v).toInt32 = Int32.ofInt v)
  | .lconst v => decide (op = 1 ∧ A = v.val ∧ nx = pc + 1 ∧ len = 1)
  | .ldc2_w i => decide (op = 2 ∧ nx = pc + 3 ∧ len = 3 ∧ r1 < 2 ^ 62 ∧ xqin (xqw ws 0) (.constantLong own i (Int64.ofNat r1)))
  | .iload_n k => decide (op = 3 ∧ A = k.val ∧ nx = pc + 1 ∧ len = 1)
  | .iload k => decide (op = 3 ∧ A = k ∧ nx = pc + 2 ∧ len = 2)
  | .aload_n k => decide (op = 4 ∧ A = k.val ∧ nx = pc + 1 ∧ len = 1)
  | .lload_n k => decide (op = 5 ∧ A = k.val ∧ nx = pc + 1 ∧ len = 1)
  | .lload k => decide (op = 5 ∧ A = k ∧ nx = pc + 2 ∧ len = 2)
  | .istore_n k => decide (op = 6 ∧ A = k.val ∧ nx = pc + 1 ∧ len = 1)
  | .istore k => decide (op = 6 ∧ A = k ∧ nx = pc + 2 ∧ len = 2)
  | .astore_n k => decide (op = 7 ∧ A = k.val ∧ nx = pc + 1 ∧ len = 1)
  | .lstore_n k => decide (op = 8 ∧ A = k.val ∧ nx = pc + 1 ∧ len = 1)
  | .iinc k v => decide (op = 9 ∧ A = k ∧ B = v ∧ nx = pc + 3 ∧ len = 3)
  | .iadd => decide (op = 10 ∧ nx = pc + 1 ∧ len = 1)
  | .isub => decide (op = 11 ∧ nx = pc + 1 ∧ len = 1)
  | .imul => decide (op = 12 ∧ nx = pc + 1 ∧ len = 1)
  | .ishl => decide (op = 13 ∧ nx = pc + 1 ∧ len = 1)
  | .irem => decide (op = 14 ∧ nx = pc + 1 ∧ len = 1)
  | .iand => decide (op = 15 ∧ nx = pc + 1 ∧ len = 1)
  | .i2l => decide (op = 16 ∧ nx = pc + 1 ∧ len = 1)
  | .l2i => decide (op = 17 ∧ nx = pc + 1 ∧ len = 1)
  | .lcmp => decide (op = 24 ∧ nx = pc + 1 ∧ len = 1)
  | .dup => decide (op = 25 ∧ nx = pc + 1 ∧ len = 1)
  | .dup2 => decide (op = 26 ∧ nx = pc + 1 ∧ len = 1)
  | .pop => decide (op = 27 ∧ nx = pc + 1 ∧ len = 1)
  | .lshl => decide (op = 22 ∧ nx = pc + 1 ∧ len = 1)
  | .lshr => decide (op = 23 ∧ nx = pc + 1 ∧ len = 1)
  | .ladd => decide (op = 18 ∧ nx = pc + 1 ∧ len = 1)
  | .lmul => decide (op = 19 ∧ nx = pc + 1 ∧ len = 1)
  | .land => decide (op = 20 ∧ nx = pc + 1 ∧ len = 1)
  | .lor => decide (op = 21 ∧ nx = pc + 1 ∧ len = 1)
  | .goto off => decide (op = 28 ∧ (pc : Int) + off = (r1 : Int) ∧ len = 3)
  | .ifCond cnd off => decide (op = 29 ∧ A = xqcc cnd ∧ (pc : Int) + off = (r1 : Int) ∧ nx = pc + 3 ∧ len = 3)
  | .if_icmp cnd off => decide (op = 30 ∧ A = xqcc cnd ∧ (pc : Int) + off = (r1 : Int) ∧ nx = pc + 3 ∧ len = 3)
  | .tableswitch df lo hi offs => decide (op = 31 ∧ xqsw[r1]? = some (df, lo, hi, offs.toList))
  | .new i => decide (op = 32 ∧ nx = pc + 3 ∧ len = 3 ∧ r1 < 6 ∧ ([9, 2, 8, 10, 14, 25] : List Nat)[r1]? = some ((xqcls[r1]?).getD (RX0, TX0, 9)).2.2 ∧ xqin (xqw ws 0) (.classLink own i ((xqcls[r1]?).getD (RX0, TX0, 9)).1) ∧ xqin (xqw ws 1) (.instantiable ((xqcls[r1]?).getD (RX0, TX0, 9)).1 ((xqcls[r1]?).getD (RX0, TX0, 9)).2.2) ∧ xqin (xqw ws 2) (.initialized ((xqcls[r1]?).getD (RX0, TX0, 9)).1))
  | .newarray t => decide ((t = .int ∧ op = 33 ∨ t = .boolean ∧ op = 34) ∧ nx = pc + 2 ∧ len = 2 ∧ xqin (xqw ws 0) (.arrayClass (newarray.typeOf t)))
  | .anewarray i => decide (op = 35 ∧ nx = pc + 3 ∧ len = 3 ∧ r1 < 3 ∧ xqin (xqw ws 0) (.classLink own i (xqrn r1)))
  | .multianewarray i dm => decide (dm = 2 ∧ op = 36 ∧ nx = pc + 4 ∧ len = 4 ∧ xqin (xqw ws 0) (.classLink own i ("[" ++ (FieldType.array .int).toString)) ∧ xqin (xqw ws 1) (.arrayClass .int))
  | .getfield i => decide (op = 37 ∧ nx = pc + 3 ∧ len = 3 ∧ r1 < 6 ∧ r2 < ((xqcls[r1]?).getD (RX0, TX0, 9)).2.2 ∧ xqin (xqw ws 0) (.fieldLink own i (((xqcls[r1]?).getD (RX0, TX0, 9)).2.1 r2).1 (((xqcls[r1]?).getD (RX0, TX0, 9)).2.1 r2).2.1 (((xqcls[r1]?).getD (RX0, TX0, 9)).2.1 r2).2.2.1))
  | .putfield i => decide (op = 38 ∧ nx = pc + 3 ∧ len = 3 ∧ r1 < 6 ∧ r2 < 30 ∧ xqin (xqw ws 0) (.fieldLink own i (((xqcls[r1]?).getD (RX0, TX0, 9)).2.1 r2).1 (((xqcls[r1]?).getD (RX0, TX0, 9)).2.1 r2).2.1 (((xqcls[r1]?).getD (RX0, TX0, 9)).2.1 r2).2.2.1) ∧ ((((xqcls[r1]?).getD (RX0, TX0, 9)).2.1 r2).2.2.2 = false ∨ mn = "<init>" ∧ (((xqcls[r1]?).getD (RX0, TX0, 9)).2.1 r2).1 = own))
  | .getstatic i => decide ((op = 60 ∧ nx = pc + 3 ∧ len = 3 ∧ own = "ClaySlips$Street" ∧ i = 133) ∨ (op = 61 ∧ nx = pc + 3 ∧ len = 3 ∧ xqin (xqw ws 0) (.fieldLink own i "ClaySlips" "IS_LAME" "[I")) ∨ (op = 39 ∧ nx = pc + 3 ∧ len = 3 ∧ xqin (xqw ws 0) (.fieldLink own i "ClaySlips" "ORDER" "[I")))
  | .iaload => decide (op = 40 ∧ nx = pc + 1 ∧ len = 1)
  | .baload => decide (op = 41 ∧ nx = pc + 1 ∧ len = 1)
  | .aaload => decide (op = 42 ∧ nx = pc + 1 ∧ len = 1)
  | .iastore => decide (op = 43 ∧ nx = pc + 1 ∧ len = 1)
  | .bastore => decide (op = 44 ∧ nx = pc + 1 ∧ len = 1)
  | .aastore => decide (op = 45 ∧ nx = pc + 1 ∧ len = 1)
  | .arraylength => decide (op = 46 ∧ nx = pc + 1 ∧ len = 1)
  | .invokespecial i => decide (op = 47 ∧ nx = pc + 3 ∧ len = 3 ∧ ((r1 = 1000 ∧ xqin (xqw ws 0) (.methodLink own i Lib.objectInit)) ∨ (r1 < 163 ∧ r2 = xqcnt r1 + 1 ∧ (xqyn r1).name = "<init>" ∧ xqrt r1 = 0 ∧ (xqin (xqw ws 0) (.methodLink own i (xqyn r1)) ∨ Cond.methodLinkNest own i (xqyn r1) "ClaySlips" ∈ xqnest) ∧ xqin (xqw ws 1) (.instanceMethod (xqyn r1)) ∧ xqin (xqw ws 2) (.initialized (xqyn r1).cls) ∧ r3 = (r3 - 1) + 1)))
  | .invokevirtual i => decide ((op = 63 ∧ nx = pc + 3 ∧ len = 3 ∧ xqin (xqw ws 0) (.methodLink own i ⟨"java/lang/String", "length", "()I"⟩)) ∨ (op = 64 ∧ nx = pc + 3 ∧ len = 3 ∧ xqin (xqw ws 0) (.methodLink own i ⟨"java/lang/String", "charAt", "(I)C"⟩)) ∨ (op = 65 ∧ nx = pc + 3 ∧ len = 3 ∧ xqin (xqw ws 0) (.methodLink own i ⟨"java/lang/String", "indexOf", "(I)I"⟩)) ∨ (op = 48 ∧ nx = pc + 3 ∧ len = 3 ∧ r1 < 163 ∧ r2 = xqcnt r1 + 1 ∧ r3 = (r3 - 1) + 1 ∧ r3 < 7 ∧ ((xqcls[r3 - 1]?).getD (RX0, TX0, 9)).1 = (xqyn r1).cls ∧ xqin (xqw ws 0) (.methodLink own i (xqyn r1)) ∧ xqin (xqw ws 1) (.selects (xqyn r1).cls (xqyn r1) (xqyn r1)) ∧ xqin (xqw ws 2) (.instanceMethod (xqyn r1)) ∧ xqin (xqw ws 3) (.initialized (xqyn r1).cls)))
  | .invokestatic i => decide ((op = 66 ∧ nx = pc + 3 ∧ len = 3 ∧ r1 < 163 ∧ r2 = xqcnt r1 ∧ Cond.methodLinkNest own i (xqyn r1) "ClaySlips" ∈ xqnest ∧ xqin (xqw ws 1) (.static (xqyn r1)) ∧ xqin (xqw ws 2) (.initialized (xqyn r1).cls)) ∨ (op = 49 ∧ nx = pc + 3 ∧ len = 3 ∧ ((r1 = 1001 ∧ xqin (xqw ws 0) (.methodLink own i Lib.Math.min.name)) ∨ (r1 = 1002 ∧ xqin (xqw ws 0) (.methodLink own i arraycopyName)) ∨ (r1 < 163 ∧ r2 = xqcnt r1 ∧ xqin (xqw ws 0) (.methodLink own i (xqyn r1)) ∧ xqin (xqw ws 1) (.static (xqyn r1)) ∧ xqin (xqw ws 2) (.initialized (xqyn r1).cls)))))
  | .ireturn => decide (op = 50 ∧ len = 1)
  | .lreturn => decide (op = 51 ∧ len = 1)
  | .return_ => decide (op = 52 ∧ len = 1)
  | .ior => decide (op = 53 ∧ nx = pc + 1 ∧ len = 1)
  | .idiv => decide (op = 54 ∧ nx = pc + 1 ∧ len = 1)
  | .ishr => decide (op = 55 ∧ nx = pc + 1 ∧ len = 1)
  | .lsub => decide (op = 56 ∧ nx = pc + 1 ∧ len = 1)
  | .i2c => decide (op = 57 ∧ nx = pc + 1 ∧ len = 1)
  | .pop2 => decide (op = 58 ∧ nx = pc + 1 ∧ len = 1)
  | .lookupswitch df ps => decide (op = 59 ∧ xqlw[r1]? = some (df, ps.toList) ∧ (ps.toList.zip (ps.toList.drop 1)).all (fun (a, next) => decide (a.1 < next.1)) = true)
  | .ldc i => decide (op = 62 ∧ nx = pc + 2 ∧ len = 2 ∧ xqstr[A]? = some (own, i))
  | _ => false
set_option maxRecDepth 100000 in
theorem xqcall_all : (List.range 163).all xqcallok = true := by decide +kernel
theorem xqcall_ok {i : Nat} (h : i < 163) : xqcode i ∈ xqgw ∧ (xqyn i).cls ≠ "java/lang/invoke/MethodHandle" ∧ (xqyn i).cls ≠ "java/lang/invoke/VarHandle" ∧ (parseMethodDescriptor (xqyn i).desc).map (fun d => d.parameters.length) = some (xqcnt i) ∧ xqmll i ≤ 17 := by
  have := of_decide_eq_true (List.all_eq_true.mp xqcall_all i (List.mem_range.mpr h))
  exact ⟨List.mem_filter.mpr ⟨xqcw i h, rfl⟩, this.2⟩
theorem xqplain {i : Nat} (h : i < 163) : plainName (xqyn i).cls = true := (of_decide_eq_true (List.all_eq_true.mp xqcall_all i (List.mem_range.mpr h))).1
theorem xqgood1 {w : Cond} (h : w ∈ xqgw) : w ∈ xqgw ∧ ((w.onTables && w.keeps) = true ∨ ∃ ty, w = .arrayClass ty) := ⟨h, good_of_word (List.mem_filter.mp h).2⟩
theorem xqgoodw {i : Nat} (h : xqcode i ∈ xqgw) : GoodIn xqgw (xqws i) := by
  intro w hw
  rcases List.mem_cons.mp hw with rfl | hw
  · exact xqgood1 h
  · exact xqgood1 hw
theorem xqws_eq {i : Nat} (h : xqrty (xqrt i) = none) : xqws i = Cond.code (xqyn i) (xqcb i) (xqmll i) none :: xqgw := by
  unfold xqws xqcode
  rw [h]
abbrev xqwsof (w : Cond) : Prop := w ∈ lw_tbl ∧ goodWord w = true
theorem xqof {w : Cond} (h : xqwsof w) : w ∈ xqgw := List.mem_filter.mpr h
theorem xqobj1 : Cond.instanceMethod Lib.objectInit ∈ xqgw := xqof (by decide +kernel)
theorem xqobj2 : Cond.code Lib.objectInit ⟨#[0xb1]⟩ 1 none ∈ xqgw := xqof (by decide +kernel)
theorem xqmin1 : Cond.static Lib.Math.min.name ∈ xqgw := xqof (by decide +kernel)
theorem xqmin2 : Cond.initialized "java/lang/Math" ∈ xqgw := xqof (by decide +kernel)
theorem xqmin3 : Cond.code Lib.Math.min.name Lib.Math.min.code 2 (some .int) ∈ xqgw := xqof (by decide +kernel)
theorem xqcop1 : Cond.native arraycopyName ∈ xqgw := xqof (by decide +kernel)
theorem xqcop2 : Cond.static arraycopyName ∈ xqgw := xqof (by decide +kernel)
theorem xqcop3 : Cond.initialized "java/lang/System" ∈ xqgw := xqof (by decide +kernel)
theorem xand_le (i j : Int32) (h : 0 ≤ j.toInt) : 0 ≤ (i &&& j).toInt ∧ (i &&& j).toInt ≤ j.toInt := by
  have e : ∀ x : Int32, x.toInt = x.toBitVec.toInt := fun x => rfl
  have hn : (i &&& j).toBitVec.toNat ≤ j.toBitVec.toNat := by
    rw [Int32.toBitVec_and, BitVec.toNat_and]
    exact Nat.and_le_right
  have hj := j.toBitVec.isLt
  rw [e, BitVec.toInt_eq_toNat_cond] at h ⊢
  rw [e, BitVec.toInt_eq_toNat_cond]
  split at h
  · rw [if_pos (by omega)]
    omega
  · omega
theorem xand_le64 (i j : Int64) (h : 0 ≤ j.toInt) : 0 ≤ (i &&& j).toInt ∧ (i &&& j).toInt ≤ j.toInt := by
  have e : ∀ x : Int64, x.toInt = x.toBitVec.toInt := fun x => rfl
  have hn : (i &&& j).toBitVec.toNat ≤ j.toBitVec.toNat := by
    rw [Int64.toBitVec_and, BitVec.toNat_and]
    exact Nat.and_le_right
  have hj := j.toBitVec.isLt
  rw [e, BitVec.toInt_eq_toNat_cond] at h ⊢
  rw [e, BitVec.toInt_eq_toNat_cond]
  split at h
  · rw [if_pos (by omega)]
    omega
  · omega
theorem xiand_ok {ρ : Nat → Int} {E : XE} {x y : XVI} {i j : Int32} (hE : XEok ρ E) (hx : XIok ρ x i.toInt) (hy : XIok ρ y j.toInt) : ∃ w : XVI, XIok ρ w (i &&& j).toInt ∧ ∀ {β : Type} (k : XVI → β), xiand E x y k = k w := by
  obtain ⟨a, b, h1, h2, hab⟩ := xrng_ok hE hx
  obtain ⟨c, d, h3, h4, hcd⟩ := xrng_ok hE hy
  simp only [xiand, hab, hcd, fI_eq]
  cases e0 : (xeq a b && xeq c d)
  · cases e1 : (xeq c d && xle 0 c)
    · exact ⟨xqTop, xtop_ok _, fun k => rfl⟩
    · rw [Bool.and_eq_true, xeq_iff, xle_iff] at e1
      refine ⟨(0, c, 0, 0), xno_ok ?_ ?_, fun k => rfl⟩
      · exact (xand_le i j (by omega)).1
      · have := (xand_le i j (by omega)).2
        omega
  · rw [Bool.and_eq_true, xeq_iff, xeq_iff] at e0
    rw [xof h1 h2 e0.1, xof h3 h4 e0.2]
    exact ⟨_, xk_ok _ _, fun k => rfl⟩
theorem xland_ok {y : Int × Int} {i j : Int64} (h3 : y.1 ≤ j.toInt) (h4 : j.toInt ≤ y.2) : (xland y).1 ≤ (i &&& j).toInt ∧ (i &&& j).toInt ≤ (xland y).2 := by
  unfold xland
  cases e1 : (xeq y.1 y.2 && xle 0 y.1)
  · exact xi64 _
  · rw [Bool.and_eq_true, xeq_iff, xle_iff] at e1
    have := xand_le64 i j (by omega)
    exact ⟨this.1, by show _ ≤ y.1; omega⟩
section XQ6
variable {p : Program} {l : Launch} {e : Env} {R : Room} {s : State} {m : MethodId} {args : Array Value} {below : List Frame} {meth : Method} {c : Code} {Q : State → Prop} {G : XG} {D : va_G} {nL : Nat}
variable {Rt : XRt → Prop} {o : XS ⊕ (List XS ⊕ XRt)} {cc : ByteArray} {pc nx : Nat} {L : XLc} {S : List XV} {E : XE} {Hx : XH} {n ce sl : Nat} {own mn : String}
theorem xs_iinc (hx : p.tables.exec = Jvm.exec) (hb : c.code = cc) {k : Nat} {v : Int} {cal : Nat → List XV → XE → XH → Nat → Option (List XRt)} {rt mc ms r1 r2 r3 : Nat} (hd : decode cc pc = .ok (.iinc k v, 3)) (hn : nx = pc + 3) (h : xo_iinc cal xqcst rt mc ms k v nx r1 r2 r3 pc L S E Hx n ce sl = some o) (hk : XOk p l e R s m args below meth c Q G D nL Rt o) : XWin p l e R s m args below meth c Q G D nL (pc, L, S, E, Hx, n, ce, sl) := by
  intro ls st H locs hL hS hE hW hl hf
  unfold xo_iinc at h
  split at h
  · rename_i u hu
    rw [xnth_eq] at hu
    obtain ⟨w, g1, i, rfl, hi⟩ := hL.2.2.2 k _ hu
    cases e0 : (xle xqMIN v && xle v xqMAX)
    · rw [e0] at h; cases h
    rw [e0, cond_true] at h
    rw [Bool.and_eq_true, xle_iff, xle_iff, xqMIN_v, xqMAX_v] at e0
    have hv : XIok G.2.2 (v, v, 0, 0) (Int32.ofInt v).toInt := by
      rw [Int32.toInt_ofInt_of_le (by omega) (by omega)]
      exact xk_ok _ _
    obtain ⟨w, w1, w2⟩ := xiadd_ok (ρ := G.2.2) hE hi hv
    rw [w2] at h
    obtain ⟨lv0, t1, t2⟩ := hL.list
    obtain ⟨w', t3, t4⟩ := t2 k _ hu
    obtain ⟨kk, hkk⟩ := List.getElem?_of_mem t3
    obtain ⟨i', rfl, hi'⟩ := t4
    have hii : i' = i := by
      have := t1.2.2 _ t3
      rw [g1] at this
      cases this
      rfl
    subst hii
    subst hn
    unfold xst1 at h
    cases e5 : (xclr L k && Nat.blt k (xlen L))
    · rw [e5] at h; cases h
    rw [e5, cond_true, xset_eq] at h
    rw [Bool.and_eq_true, xlen_eq] at e5
    have e6 : k < L.length := Nat.blt_eq.mp e5.2
    have hw := xgo_win h hk
    refine lv_iinc hx hb hd t1 hkk rfl (Nat.lt_of_lt_of_le e6 hL.2.1) rfl fun ls' h' => hw ls' st H locs (hL.store1 t2 e5.1 ⟨_, rfl, w1⟩ h') hS hE hW hl hf
  · cases h
theorem xs_irem (hx : p.tables.exec = Jvm.exec) (hb : c.code = cc) {A : Nat} {B : Int} {cal : Nat → List XV → XE → XH → Nat → Option (List XRt)} {rt mc ms r1 r2 r3 : Nat} (hd : decode cc pc = .ok (.irem, 1)) (hn : nx = pc + 1) (h : xo_irem cal xqcst rt mc ms A B nx r1 r2 r3 pc L S E Hx n ce sl = some o) (hk : XOk p l e R s m args below meth c Q G D nL Rt o) : XWin p l e R s m args below meth c Q G D nL (pc, L, S, E, Hx, n, ce, sl) := by
  subst hn
  intro ls st H locs hL hS hE hW hl hf
  unfold xo_irem at h
  split at h
  · rename_i y x S'
    obtain ⟨w1, st1, rfl, ⟨j, rfl, hj⟩, h2⟩ := XSok_cons hS
    obtain ⟨w2, st2, rfl, ⟨i, rfl, hi⟩, h4⟩ := XSok_cons h2
    obtain ⟨a, b, r1', r2', r3'⟩ := xrng_ok hE hj
    rw [r3'] at h
    cases e0 : xlt 0 a
    · rw [e0] at h; cases h
    rw [e0, cond_true] at h
    rw [xlt_iff] at e0
    obtain ⟨w, w1, w2⟩ := xfold_ok (ρ := G.2.2) (fun a b => a - a / b * b) hE hi hj
    rw [w2] at h
    refine lv_irem hx hb hd (fun q => ?_) (xgo_win h hk ls _ H locs hL ⟨⟨_, rfl, w1⟩, h4⟩ hE hW hl hf)
    subst q
    have e : (0 : Int32).toInt = 0 := rfl
    omega
  · cases h
theorem xs_i2l (hx : p.tables.exec = Jvm.exec) (hb : c.code = cc) {A : Nat} {B : Int} {cal : Nat → List XV → XE → XH → Nat → Option (List XRt)} {rt mc ms r1 r2 r3 : Nat} (hd : decode cc pc = .ok (.i2l, 1)) (hn : nx = pc + 1) (h : xo_i2l cal xqcst rt mc ms A B nx r1 r2 r3 pc L S E Hx n ce sl = some o) (hk : XOk p l e R s m args below meth c Q G D nL Rt o) : XWin p l e R s m args below meth c Q G D nL (pc, L, S, E, Hx, n, ce, sl) := by
  subst hn
  intro ls st H locs hL hS hE hW hl hf
  unfold xo_i2l at h
  split at h
  · obtain ⟨w1, st1, rfl, ⟨j, rfl, hj⟩, h2⟩ := XSok_cons hS
    obtain ⟨a, b, r1', r2', r3'⟩ := xrng_ok hE hj
    rw [r3'] at h
    refine lv_i2l hx hb hd rfl (xgo_win h hk ls _ H locs hL ⟨⟨_, rfl, ?_, ?_⟩, h2⟩ hE hW hl hf)
    · rw [Int32.toInt_toInt64]; exact r1'
    · rw [Int32.toInt_toInt64]; exact r2'
  · cases h
theorem xs_l2i (hx : p.tables.exec = Jvm.exec) (hb : c.code = cc) {A : Nat} {B : Int} {cal : Nat → List XV → XE → XH → Nat → Option (List XRt)} {rt mc ms r1 r2 r3 : Nat} (hd : decode cc pc = .ok (.l2i, 1)) (hn : nx = pc + 1) (h : xo_l2i cal xqcst rt mc ms A B nx r1 r2 r3 pc L S E Hx n ce sl = some o) (hk : XOk p l e R s m args below meth c Q G D nL Rt o) : XWin p l e R s m args below meth c Q G D nL (pc, L, S, E, Hx, n, ce, sl) := by
  subst hn
  intro ls st H locs hL hS hE hW hl hf
  unfold xo_l2i at h
  split at h
  · rename_i a b S'
    obtain ⟨w1, st1, rfl, ⟨j, rfl, hj1, hj2⟩, h2⟩ := XSok_cons hS
    dsimp only at hj1 hj2
    have key : ∀ lo hi, (xl2i (a, b)).1 = lo → (xl2i (a, b)).2.1 = hi → lo ≤ j.toInt32.toInt ∧ j.toInt32.toInt ≤ hi := by
      intro lo hi e1 e2
      subst e1 e2
      unfold xl2i
      cases e0 : (xle xqMIN a && xle b xqMAX)
      · exact xi32 _
      · rw [Bool.and_eq_true, xle_iff, xle_iff, xqMIN_v, xqMAX_v] at e0
        have : j.toInt32.toInt = j.toInt := by
          rw [Int64.toInt_toInt32]
          exact Int.bmod_eq_of_le (by omega) (by omega)
        rw [this]
        exact ⟨hj1, hj2⟩
    split at h
    rename_i lo hi _ _ hq
    rw [fI_eq, fI_eq] at h
    have k2 := key lo hi (by rw [hq]) (by rw [hq])
    exact lv_l2i hx hb hd rfl (xgo_win h hk ls _ H locs hL ⟨⟨_, rfl, xno_ok k2.1 k2.2⟩, h2⟩ hE hW hl hf)
  · cases h
theorem xs_lcmp (hx : p.tables.exec = Jvm.exec) (hb : c.code = cc) {A : Nat} {B : Int} {cal : Nat → List XV → XE → XH → Nat → Option (List XRt)} {rt mc ms r1 r2 r3 : Nat} (hd : decode cc pc = .ok (.lcmp, 1)) (hn : nx = pc + 1) (h : xo_lcmp cal xqcst rt mc ms A B nx r1 r2 r3 pc L S E Hx n ce sl = some o) (hk : XOk p l e R s m args below meth c Q G D nL Rt o) : XWin p l e R s m args below meth c Q G D nL (pc, L, S, E, Hx, n, ce, sl) := by
  subst hn
  intro ls st H locs hL hS hE hW hl hf
  unfold xo_lcmp at h
  split at h
  · rename_i y x S'
    obtain ⟨w1, st1, rfl, ⟨j, rfl, hj1, hj2⟩, h2⟩ := XSok_cons hS
    obtain ⟨w2, st2, rfl, ⟨i, rfl, hi1, hi2⟩, h4⟩ := XSok_cons h2
    have key : (xlcmp x y).1 ≤ (lg_cmp i j).toInt ∧ (lg_cmp i j).toInt ≤ (xlcmp x y).2.1 := by
      have e1 : (1 : Int32).toInt = 1 := rfl
      have e2 : (0 : Int32).toInt = 0 := rfl
      have e3 : (-1 : Int32).toInt = -1 := rfl
      have e4 : Int.negSucc 0 = -1 := rfl
      have hlt : (i > j) ↔ j.toInt < i.toInt := Int64.lt_iff_toInt_lt
      have heq : i = j ↔ i.toInt = j.toInt := Int64.toInt_inj.symm
      have hc : (lg_cmp i j).toInt = if j.toInt < i.toInt then 1 else if i.toInt = j.toInt then 0 else -1 := by
        unfold lg_cmp
        by_cases q1 : i > j
        · rw [if_pos q1, if_pos (hlt.mp q1)]; rfl
        · rw [if_neg q1, if_neg (fun z => q1 (hlt.mpr z))]
          by_cases q2 : i = j
          · rw [if_pos q2, if_pos (heq.mp q2)]; rfl
          · rw [if_neg q2, if_neg (fun z => q2 (heq.mpr z))]; rfl
      rw [hc]
      unfold xlcmp
      dsimp only
      constructor
      · cases q1 : xlt y.2 x.1
        · cases q2 : xle y.2 x.1
          · rw [cond_false, cond_false, e4]; split <;> (try split) <;> omega
          · rw [xle_iff] at q2
            rw [cond_false, cond_true]; split <;> (try split) <;> omega
        · rw [xlt_iff] at q1
          rw [cond_true]; split <;> (try split) <;> omega
      · cases q1 : xlt x.2 y.1
        · cases q2 : xle x.2 y.1
          · rw [cond_false, cond_false]; split <;> (try split) <;> omega
          · rw [xle_iff] at q2
            rw [cond_false, cond_true]; split <;> (try split) <;> omega
        · rw [xlt_iff] at q1
          rw [cond_true, e4]; split <;> (try split) <;> omega
    split at h
    rename_i lo hi _ _ hq
    rw [fI_eq, fI_eq] at h
    rw [hq] at key
    exact W.lcmp hx hb hd (xgo_win h hk ls _ H locs hL ⟨⟨_, rfl, xno_ok key.1 key.2⟩, h4⟩ hE hW hl hf)
  · cases h
theorem xs_dup (hx : p.tables.exec = Jvm.exec) (hb : c.code = cc) {A : Nat} {B : Int} {cal : Nat → List XV → XE → XH → Nat → Option (List XRt)} {rt mc ms r1 r2 r3 : Nat} (hd : decode cc pc = .ok (.dup, 1)) (hn : nx = pc + 1) (h : xo_dup cal xqcst rt mc ms A B nx r1 r2 r3 pc L S E Hx n ce sl = some o) (hk : XOk p l e R s m args below meth c Q G D nL Rt o) : XWin p l e R s m args below meth c Q G D nL (pc, L, S, E, Hx, n, ce, sl) := by
  subst hn
  intro ls st H locs hL hS hE hW hl hf
  unfold xo_dup at h
  split at h
  · rename_i v S'
    obtain ⟨w1, st1, rfl, h1, h2⟩ := XSok_cons hS
    cases e0 : Nat.beq (xcatv v) 1
    · rw [e0] at h; cases h
    rw [e0, cond_true] at h
    exact lv_dup hx hb hd ((XVcat h1).trans (Nat.eq_of_beq_eq_true e0)) (xgo_win h hk ls _ H locs hL ⟨h1, h1, h2⟩ hE hW hl hf)
  · cases h
theorem xs_dup2 (hx : p.tables.exec = Jvm.exec) (hb : c.code = cc) {A : Nat} {B : Int} {cal : Nat → List XV → XE → XH → Nat → Option (List XRt)} {rt mc ms r1 r2 r3 : Nat} (hd : decode cc pc = .ok (.dup2, 1)) (hn : nx = pc + 1) (h : xo_dup2 cal xqcst rt mc ms A B nx r1 r2 r3 pc L S E Hx n ce sl = some o) (hk : XOk p l e R s m args below meth c Q G D nL Rt o) : XWin p l e R s m args below meth c Q G D nL (pc, L, S, E, Hx, n, ce, sl) := by
  subst hn
  intro ls st H locs hL hS hE hW hl hf
  unfold xo_dup2 at h
  split at h
  · rename_i v w S'
    obtain ⟨w1, st1, rfl, h1, h2⟩ := XSok_cons hS
    obtain ⟨w2, st2, rfl, h3, h4⟩ := XSok_cons h2
    cases e0 : (Nat.beq (xcatv v) 1 && Nat.beq (xcatv w) 1)
    · rw [e0] at h; cases h
    rw [e0, cond_true] at h
    rw [Bool.and_eq_true] at e0
    exact lv_dup2_11 hx hb hd ((XVcat h1).trans (Nat.eq_of_beq_eq_true e0.1)) ((XVcat h3).trans (Nat.eq_of_beq_eq_true e0.2)) (xgo_win h hk ls _ H locs hL ⟨h1, h3, h1, h3, h4⟩ hE hW hl hf)
  · cases h
theorem xs_pop (hx : p.tables.exec = Jvm.exec) (hb : c.code = cc) {A : Nat} {B : Int} {cal : Nat → List XV → XE → XH → Nat → Option (List XRt)} {rt mc ms r1 r2 r3 : Nat} (hd : decode cc pc = .ok (.pop, 1)) (hn : nx = pc + 1) (h : xo_pop cal xqcst rt mc ms A B nx r1 r2 r3 pc L S E Hx n ce sl = some o) (hk : XOk p l e R s m args below meth c Q G D nL Rt o) : XWin p l e R s m args below meth c Q G D nL (pc, L, S, E, Hx, n, ce, sl) := by
  subst hn
  intro ls st H locs hL hS hE hW hl hf
  unfold xo_pop at h
  split at h
  · rename_i v S'
    obtain ⟨w1, st1, rfl, h1, h2⟩ := XSok_cons hS
    cases e0 : Nat.beq (xcatv v) 1
    · rw [e0] at h; cases h
    rw [e0, cond_true] at h
    exact lv_pop hx hb hd ((XVcat h1).trans (Nat.eq_of_beq_eq_true e0)) (xgo_win h hk ls _ H locs hL h2 hE hW hl hf)
  · cases h
theorem xs_lshl (hx : p.tables.exec = Jvm.exec) (hb : c.code = cc) {A : Nat} {B : Int} {cal : Nat → List XV → XE → XH → Nat → Option (List XRt)} {rt mc ms r1 r2 r3 : Nat} (hd : decode cc pc = .ok (.lshl, 1)) (hn : nx = pc + 1) (h : xo_lshl cal xqcst rt mc ms A B nx r1 r2 r3 pc L S E Hx n ce sl = some o) (hk : XOk p l e R s m args below meth c Q G D nL Rt o) : XWin p l e R s m args below meth c Q G D nL (pc, L, S, E, Hx, n, ce, sl) := by
  subst hn
  intro ls st H locs hL hS hE hW hl hf
  unfold xo_lshl at h
  split at h
  · obtain ⟨w1, st1, rfl, ⟨j, rfl, hj⟩, h2⟩ := XSok_cons hS
    obtain ⟨w2, st2, rfl, ⟨i, rfl, hi⟩, h4⟩ := XSok_cons h2
    exact lv_lshl hx hb hd rfl (xgo_win h hk ls _ H locs hL ⟨⟨_, rfl, xi64 _⟩, h4⟩ hE hW hl hf)
  · cases h
theorem xs_lshr (hx : p.tables.exec = Jvm.exec) (hb : c.code = cc) {A : Nat} {B : Int} {cal : Nat → List XV → XE → XH → Nat → Option (List XRt)} {rt mc ms r1 r2 r3 : Nat} (hd : decode cc pc = .ok (.lshr, 1)) (hn : nx = pc + 1) (h : xo_lshr cal xqcst rt mc ms A B nx r1 r2 r3 pc L S E Hx n ce sl = some o) (hk : XOk p l e R s m args below meth c Q G D nL Rt o) : XWin p l e R s m args below meth c Q G D nL (pc, L, S, E, Hx, n, ce, sl) := by
  subst hn
  intro ls st H locs hL hS hE hW hl hf
  unfold xo_lshr at h
  split at h
  · obtain ⟨w1, st1, rfl, ⟨j, rfl, hj⟩, h2⟩ := XSok_cons hS
    obtain ⟨w2, st2, rfl, ⟨i, rfl, hi⟩, h4⟩ := XSok_cons h2
    exact lv_lshr hx hb hd rfl (xgo_win h hk ls _ H locs hL ⟨⟨_, rfl, xi64 _⟩, h4⟩ hE hW hl hf)
  · cases h
theorem xpr_toInt {x y : Int32} : (x = y ↔ x.toInt = y.toInt) ∧ (x < y ↔ x.toInt < y.toInt) ∧ (x ≤ y ↔ ¬ y.toInt < x.toInt) := by
  refine ⟨Int32.toInt_inj.symm, Int32.lt_iff_toInt_lt, ?_⟩
  rw [Int32.le_iff_toInt_le]
  omega
theorem xs_ifc (hx : p.tables.exec = Jvm.exec) (hb : c.code = cc) {cnd : Jvm.ClassFile.Cond} {off : Int} {tg : Nat} {B : Int} {cal : Nat → List XV → XE → XH → Nat → Option (List XRt)} {rt mc ms r2 r3 : Nat} (hd : decode cc pc = .ok (.ifCond cnd off, 3)) (hz : (pc : Int) + off = (tg : Int)) (h : xo_ifc cal xqcst rt mc ms (xqcc cnd) B (pc + 3) tg r2 r3 pc L S E Hx n ce sl = some o) (hk : XOk p l e R s m args below meth c Q G D nL Rt o) : XWin p l e R s m args below meth c Q G D nL (pc, L, S, E, Hx, n, ce, sl) := by
  intro ls st H locs hL hS hE hW hl hf
  unfold xo_ifc at h
  split at h
  · rename_i x S'
    obtain ⟨w1, st1, rfl, ⟨i, rfl, hi⟩, h2⟩ := XSok_cons hS
    have ht := xtest_ok (xqcc cnd) hE hi (xk_ok 0 0 : XIok G.2.2 xqz 0)
    have e0 : (0 : Int32).toInt = 0 := rfl
    have q1 := @xpr_toInt i 0
    have q2 := @xpr_toInt 0 i
    rw [e0] at q1 q2
    refine xs_br (g := F0 m pc ls (.int i :: st1)) h hk ht hL h2 hE hW hl hf (fun kt kf => ?_)
    cases cnd
    · exact lv_if_eq hx hb hd hz (fun z => kt (q1.1.mp z)) (fun z => kf (fun y => z (q1.1.mpr y)))
    all_goals first
      | exact lv_if_ne hx hb hd hz (fun z => kt (fun y => z (q1.1.mpr y))) (fun z => kf (fun y => y (q1.1.mp z)))
      | exact lv_if_lt hx hb hd hz (fun z => kt (q1.2.1.mp z)) (fun z => kf (fun y => z (q1.2.1.mpr y)))
      | exact lv_if_ge hx hb hd hz (fun z => kt (q2.2.2.mp z)) (fun z => kf (fun y => z (q2.2.2.mpr y)))
      | exact lv_if_gt hx hb hd hz (fun z => kt (q2.2.1.mp z)) (fun z => kf (fun y => z (q2.2.1.mpr y)))
      | exact lv_if_le hx hb hd hz (fun z => kt (q1.2.2.mp z)) (fun z => kf (fun y => z (q1.2.2.mpr y)))
  · cases h
theorem xs_ificmp (hx : p.tables.exec = Jvm.exec) (hb : c.code = cc) {cnd : Jvm.ClassFile.Cond} {off : Int} {tg : Nat} {B : Int} {cal : Nat → List XV → XE → XH → Nat → Option (List XRt)} {rt mc ms r2 r3 : Nat} (hd : decode cc pc = .ok (.if_icmp cnd off, 3)) (hz : (pc : Int) + off = (tg : Int)) (h : xo_ificmp cal xqcst rt mc ms (xqcc cnd) B (pc + 3) tg r2 r3 pc L S E Hx n ce sl = some o) (hk : XOk p l e R s m args below meth c Q G D nL Rt o) : XWin p l e R s m args below meth c Q G D nL (pc, L, S, E, Hx, n, ce, sl) := by
  intro ls st H locs hL hS hE hW hl hf
  unfold xo_ificmp at h
  split at h
  · rename_i y x S'
    obtain ⟨w1, st1, rfl, ⟨j, rfl, hj⟩, h2⟩ := XSok_cons hS
    obtain ⟨w2, st2, rfl, ⟨i, rfl, hi⟩, h4⟩ := XSok_cons h2
    have ht := xtest_ok (xqcc cnd) hE hi hj
    have q1 := @xpr_toInt i j
    have q2 := @xpr_toInt j i
    refine xs_br (g := F0 m pc ls (.int j :: .int i :: st2)) h hk ht hL h4 hE hW hl hf (fun kt kf => ?_)
    cases cnd
    · exact lv_icmp_eq hx hb hd hz (fun z => kt (q1.1.mp z)) (fun z => kf (fun y => z (q1.1.mpr y)))
    all_goals first
      | exact lv_icmp_ne hx hb hd hz (fun z => kt (fun y => z (q1.1.mpr y))) (fun z => kf (fun y => y (q1.1.mp z)))
      | exact lv_icmp_lt hx hb hd hz (fun z => kt (q1.2.1.mp z)) (fun z => kf (fun y => z (q1.2.1.mpr y)))
      | exact lv_icmp_ge hx hb hd hz (fun z => kt (q2.2.2.mp z)) (fun z => kf (fun y => z (q2.2.2.mpr y)))
      | exact lv_icmp_gt hx hb hd hz (fun z => kt (q2.2.1.mp z)) (fun z => kf (fun y => z (q2.2.1.mpr y)))
      | exact lv_icmp_le hx hb hd hz (fun z => kt (q1.2.2.mp z)) (fun z => kf (fun y => z (q1.2.2.mpr y)))
  · cases h
theorem xs_alen (hx : p.tables.exec = Jvm.exec) (hb : c.code = cc) (GL : XGl G D s) {A : Nat} {B : Int} {cal : Nat → List XV → XE → XH → Nat → Option (List XRt)} {rt mc ms r1 r2 r3 : Nat} (hd : decode cc pc = .ok (.arraylength, 1)) (hn : nx = pc + 1) (h : xo_arraylength cal xqcst rt mc ms A B nx r1 r2 r3 pc L S E Hx n ce sl = some o) (hk : XOk p l e R s m args below meth c Q G D nL Rt o) : XWin p l e R s m args below meth c Q G D nL (pc, L, S, E, Hx, n, ce, sl) := by
  subst hn
  intro ls st H locs hL hS hE hW hl hf
  unfold xo_arraylength at h
  split at h
  · obtain ⟨w1, st1, rfl, h1, h2⟩ := XSok_cons hS
    have h1 : w1 = .ref (G.2.1 0) := h1
    subst h1
    obtain ⟨-, -, -, -, -, Ln, xs, ⟨scr, k1, k2, k3, k4, k5⟩, hb0, hxs, hL5, hL6⟩ := GL
    split at h
    · rename_i a b hq
      rw [xnth_eq] at hq
      have h6 := hE 5 _ hq
      dsimp only at h6
      cases e0 : (xle 0 a && xle b 5)
      · rw [e0] at h; cases h
      rw [e0, cond_true] at h
      have e1 : (Int32.ofNat Ln).toInt = (Ln : Int) := Int32.toInt_ofNat_of_lt (by omega)
      refine W.alen (n := Int32.ofNat Ln) hx hb (by rw [hf _ hb0]; exact k1) k2 (by rw [k4] <;> rfl) rfl rfl hd (xgo_win h hk ls _ H locs hL ⟨⟨Int32.ofNat Ln, rfl, ?_, ?_, fun t ht => ?_⟩, h2⟩ hE hW hl hf)
      · show a ≤ _; omega
      · show _ ≤ b; omega
      · cases ht
        show _ = G.2.2 5 + 0
        omega
    · cases h
  · cases h
set_option maxHeartbeats 4000000 in
theorem xs_disp (hx : p.tables.exec = Jvm.exec) (hb : c.code = cc) (hml : c.maxLocals = nL) (hown : s.vm.findClass own = some m.cls) (hname : meth.name = mn) (hts : ∀ w ∈ xqgw, w.before args s = true) (GL : XGl G D s) {cal : Nat → List XV → XE → XH → Nat → Option (List XRt)} {d rt mc ms : Nat} (hmc : mc ≤ R.cells) (hms : ms ≤ R.slots) (hfr : 1 ≤ R.frames) (hlo : 36 ≤ R.locals)
    (hroomR : ∀ i, i < 163 → (xqrm d i).frames + 1 ≤ R.frames ∧ 8 + (xqmll i + 11) + (xqrm d i).locals ≤ R.locals)
    (hM : ∀ i, i < 163 → ∀ (as : List XV) (E : XE) (Hx : XH) (n : Nat) (rs : List XRt), cal i as E Hx n = some rs → XEok G.2.2 E → Met l (xqyn i) (xqws i) (xqrm d i) (XPc G D as Hx n) (XQc G D rs) (xqcst i).1 (xqcst i).2 (fun q => G.1 ≤ q))
    (hRi : ∀ (u : XVI) (E : XE) (Hx : XH) (n ce sl : Nat), (rt = 1 ∨ rt = 2) → Rt (some (.inl u), E, Hx, n, ce, sl) → ∀ (pc : Nat) (ls : Array Slot) (i : Int32) (H : Heap) (locs : List Loc), decode cc pc = .ok (.ireturn, 1) → ce ≤ mc → sl ≤ ms → XIok G.2.2 u i.toInt → (rt = 2 → 0 ≤ i.toInt ∧ i.toInt ≤ 1) → XEok G.2.2 E → XWok G D s Hx n H → (∀ q ∈ locs, G.1 ≤ q.base) → (∀ q : Nat, q < G.1 → H[q]? = s.heap[q]?) → W p l e R s m args below meth c H locs ce sl Q (F0 m pc ls [.int i]))
    (hRl : ∀ (u : Int × Int) (E : XE) (Hx : XH) (n ce sl : Nat), rt = 3 → Rt (some (.inr (.inl u)), E, Hx, n, ce, sl) → ∀ (pc : Nat) (ls : Array Slot) (w : Value) (H : Heap) (locs : List Loc), decode cc pc = .ok (.lreturn, 1) → ce ≤ mc → sl ≤ ms → XVok G (.inr (.inl u)) w → XEok G.2.2 E → XWok G D s Hx n H → (∀ q ∈ locs, G.1 ≤ q.base) → (∀ q : Nat, q < G.1 → H[q]? = s.heap[q]?) → W p l e R s m args below meth c H locs ce sl Q (F0 m pc ls [w]))
    (hRv : ∀ (E : XE) (Hx : XH) (n ce sl : Nat), rt = 0 → Rt (none, E, Hx, n, ce, sl) → ∀ (pc : Nat) (ls : Array Slot) (H : Heap) (locs : List Loc), decode cc pc = .ok (.return_, 1) → ce ≤ mc → sl ≤ ms → XEok G.2.2 E → XWok G D s Hx n H → (∀ q ∈ locs, G.1 ≤ q.base) → (∀ q : Nat, q < G.1 → H[q]? = s.heap[q]?) → W p l e R s m args below meth c H locs ce sl Q (F0 m pc ls []))
    {ins : Instr} {len op A : Nat} {B : Int} {r1 r2 r3 : Nat} {ws : List Nat} (hd : decode cc pc = .ok (ins, len)) (hok : xqokI own mn pc len op A B nx r1 r2 r3 ws ins = true) (h : xdisp op cal xqcst rt mc ms A B nx r1 r2 r3 pc L S E Hx n ce sl = some o) (hk : XOk p l e R s m args below meth c Q G D nL Rt o) : XWin p l e R s m args below meth c Q G D nL (pc, L, S, E, Hx, n, ce, sl) := by
  cases ins with
  | iconst v =>
    obtain ⟨rfl, rfl, rfl, rfl⟩ := of_decide_eq_true hok
    exact xs_push rfl h hk (fun H locs ls st k => lv_iconst hx hb hd rfl k)
  | bipush v =>
    obtain ⟨rfl, rfl, rfl, rfl, hz⟩ := of_decide_eq_true hok
    exact xs_push rfl h hk (fun H locs ls st k => lv_bipush hx hb hd hz k)
  | sipush v =>
    obtain ⟨rfl, rfl, rfl, rfl, hz⟩ := of_decide_eq_true hok
    exact xs_push rfl h hk (fun H locs ls st k => lv_sipush hx hb hd hz k)
  | lconst v =>
    obtain ⟨rfl, rfl, rfl, rfl⟩ := of_decide_eq_true hok
    exact xs_lconst (by omega) rfl h hk (fun H locs ls st k => lv_lconst hx hb hd rfl k)
  | ldc2_w i =>
    obtain ⟨rfl, rfl, rfl, hz, hw⟩ := of_decide_eq_true hok
    exact xs_lconst hz rfl h hk (fun H locs ls st k => lv_ldc2 hx hb hown (hts _ (xqin_ok hw)) hd k)
  | iload_n k =>
    obtain ⟨rfl, rfl, rfl, rfl⟩ := of_decide_eq_true hok
    exact xs_ld rfl h hk (fun _ H locs ls st x hx0 k => lv_iload_n hx hb hd rfl hx0 k) (fun h0 => absurd h0 (by decide)) (fun h0 => absurd h0 (by decide))
  | iload k =>
    obtain ⟨rfl, rfl, rfl, rfl⟩ := of_decide_eq_true hok
    exact xs_ld rfl h hk (fun _ H locs ls st x hx0 k => lv_iload hx hb hd hx0 k) (fun h0 => absurd h0 (by decide)) (fun h0 => absurd h0 (by decide))
  | aload_n k =>
    obtain ⟨rfl, rfl, rfl, rfl⟩ := of_decide_eq_true hok
    exact xs_ld rfl h hk (fun h0 => absurd h0 (by decide)) (fun h0 => absurd h0 (by decide)) (fun _ H locs ls st w hw hx0 k => by
      rcases hw with rfl | ⟨a, rfl⟩
      · exact lv_aload_nN hx hb hd rfl hx0 k
      · exact lv_aload_n hx hb hd rfl hx0 k)
  | lload_n k =>
    obtain ⟨rfl, rfl, rfl, rfl⟩ := of_decide_eq_true hok
    exact xs_ld rfl h hk (fun h0 => absurd h0 (by decide)) (fun _ H locs ls st x hx0 k => lv_lload_n hx hb hd rfl hx0 k) (fun h0 => absurd h0 (by decide))
  | lload k =>
    obtain ⟨rfl, rfl, rfl, rfl⟩ := of_decide_eq_true hok
    exact xs_ld rfl h hk (fun h0 => absurd h0 (by decide)) (fun _ H locs ls st x hx0 k => lv_lload hx hb hd hx0 k) (fun h0 => absurd h0 (by decide))
  | istore_n k =>
    obtain ⟨rfl, rfl, rfl, rfl⟩ := of_decide_eq_true hok
    exact xs_st rfl h hk (fun _ H locs ls st x lv g1 g2 kk => lv_istore_n hx hb hd rfl g1 g2 rfl kk) (fun h0 => absurd h0 (by decide)) (fun h0 => absurd h0 (by decide))
  | istore k =>
    obtain ⟨rfl, rfl, rfl, rfl⟩ := of_decide_eq_true hok
    exact xs_st rfl h hk (fun _ H locs ls st x lv g1 g2 kk => lv_istore hx hb hd g1 g2 rfl kk) (fun h0 => absurd h0 (by decide)) (fun h0 => absurd h0 (by decide))
  | astore_n k =>
    obtain ⟨rfl, rfl, rfl, rfl⟩ := of_decide_eq_true hok
    exact xs_st rfl h hk (fun h0 => absurd h0 (by decide)) (fun _ H locs ls st x lv g1 g2 kk => lv_astore_n hx hb hd rfl g1 g2 rfl kk) (fun h0 => absurd h0 (by decide))
  | lstore_n k =>
    obtain ⟨rfl, rfl, rfl, rfl⟩ := of_decide_eq_true hok
    exact xs_st rfl h hk (fun h0 => absurd h0 (by decide)) (fun h0 => absurd h0 (by decide)) (fun _ H locs ls st x lv g1 g2 kk => lv_lstore_n hx hb hd rfl g1 g2 rfl kk)
  | iinc k v =>
    obtain ⟨rfl, rfl, rfl, rfl, rfl⟩ := of_decide_eq_true hok
    replace h : xo_iinc cal xqcst rt mc ms A B (pc + 3) r1 r2 r3 pc L S E Hx n ce sl = some o := h
    exact xs_iinc hx hb hd rfl h hk
  | iadd =>
    obtain ⟨rfl, rfl, rfl⟩ := of_decide_eq_true hok
    exact xs_ii (g := fun a b => a + b) rfl h hk (fun x y i j hE hi hj => by
      obtain ⟨w, w1, w2⟩ := xiadd_ok (ρ := G.2.2) hE hi hj
      exact ⟨w, w1, fun k => w2 k⟩) (fun H locs ls st x y k => lv_iadd hx hb hd k)
  | isub =>
    obtain ⟨rfl, rfl, rfl⟩ := of_decide_eq_true hok
    exact xs_ii (g := fun a b => a - b) rfl h hk (fun x y i j hE hi hj => by
      obtain ⟨w, w1, w2⟩ := xisub_ok (ρ := G.2.2) hE hi hj
      exact ⟨w, w1, fun k => w2 k⟩) (fun H locs ls st x y k => lv_isub hx hb hd k)
  | imul =>
    obtain ⟨rfl, rfl, rfl⟩ := of_decide_eq_true hok
    exact xs_ii (g := fun a b => a * b) rfl h hk (fun x y i j hE hi hj => by
      obtain ⟨w, w1, w2⟩ := xfold_ok (ρ := G.2.2) (fun a b => a * b) hE hi hj
      exact ⟨w, w1, fun k => w2 k⟩) (fun H locs ls st x y k => lv_imul hx hb hd k)
  | ishl =>
    obtain ⟨rfl, rfl, rfl⟩ := of_decide_eq_true hok
    exact xs_ii (g := fun a b => a <<< (b &&& 31)) rfl h hk (fun x y i j hE hi hj => by
      obtain ⟨w, w1, w2⟩ := xfold_ok (ρ := G.2.2) (fun a b => a <<< (b &&& 31)) hE hi hj
      exact ⟨w, w1, fun k => w2 k⟩) (fun H locs ls st x y k => lv_ishl hx hb hd k)
  | irem =>
    obtain ⟨rfl, rfl, rfl⟩ := of_decide_eq_true hok
    replace h : xo_irem cal xqcst rt mc ms A B (pc + 1) r1 r2 r3 pc L S E Hx n ce sl = some o := h
    exact xs_irem hx hb hd rfl h hk
  | iand =>
    obtain ⟨rfl, rfl, rfl⟩ := of_decide_eq_true hok
    exact xs_ii (g := fun a b => a &&& b) rfl h hk (fun x y i j hE hi hj => by
      obtain ⟨w, w1, w2⟩ := xiand_ok (ρ := G.2.2) hE hi hj
      exact ⟨w, w1, fun k => w2 k⟩) (fun H locs ls st x y k => lv_iand hx hb hd k)
  | i2l =>
    obtain ⟨rfl, rfl, rfl⟩ := of_decide_eq_true hok
    replace h : xo_i2l cal xqcst rt mc ms A B (pc + 1) r1 r2 r3 pc L S E Hx n ce sl = some o := h
    exact xs_i2l hx hb hd rfl h hk
  | l2i =>
    obtain ⟨rfl, rfl, rfl⟩ := of_decide_eq_true hok
    replace h : xo_l2i cal xqcst rt mc ms A B (pc + 1) r1 r2 r3 pc L S E Hx n ce sl = some o := h
    exact xs_l2i hx hb hd rfl h hk
  | lcmp =>
    obtain ⟨rfl, rfl, rfl⟩ := of_decide_eq_true hok
    replace h : xo_lcmp cal xqcst rt mc ms A B (pc + 1) r1 r2 r3 pc L S E Hx n ce sl = some o := h
    exact xs_lcmp hx hb hd rfl h hk
  | dup =>
    obtain ⟨rfl, rfl, rfl⟩ := of_decide_eq_true hok
    replace h : xo_dup cal xqcst rt mc ms A B (pc + 1) r1 r2 r3 pc L S E Hx n ce sl = some o := h
    exact xs_dup hx hb hd rfl h hk
  | dup2 =>
    obtain ⟨rfl, rfl, rfl⟩ := of_decide_eq_true hok
    replace h : xo_dup2 cal xqcst rt mc ms A B (pc + 1) r1 r2 r3 pc L S E Hx n ce sl = some o := h
    exact xs_dup2 hx hb hd rfl h hk
  | pop =>
    obtain ⟨rfl, rfl, rfl⟩ := of_decide_eq_true hok
    replace h : xo_pop cal xqcst rt mc ms A B (pc + 1) r1 r2 r3 pc L S E Hx n ce sl = some o := h
    exact xs_pop hx hb hd rfl h hk
  | lshl =>
    obtain ⟨rfl, rfl, rfl⟩ := of_decide_eq_true hok
    replace h : xo_lshl cal xqcst rt mc ms A B (pc + 1) r1 r2 r3 pc L S E Hx n ce sl = some o := h
    exact xs_lshl hx hb hd rfl h hk
  | lshr =>
    obtain ⟨rfl, rfl, rfl⟩ := of_decide_eq_true hok
    replace h : xo_lshr cal xqcst rt mc ms A B (pc + 1) r1 r2 r3 pc L S E Hx n ce sl = some o := h
    exact xs_lshr hx hb hd rfl h hk
  | ladd =>
    obtain ⟨rfl, rfl, rfl⟩ := of_decide_eq_true hok
    exact xs_ll (g := fun a b => a + b) rfl h hk (fun x y i j h1 h2 h3 h4 => xlfold_ok (fun a b => a + b) h1 h2 h3 h4) (fun H locs ls st x y k => lv_ladd hx hb hd k)
  | lmul =>
    obtain ⟨rfl, rfl, rfl⟩ := of_decide_eq_true hok
    exact xs_ll (g := fun a b => a * b) rfl h hk (fun x y i j h1 h2 h3 h4 => xlfold_ok (fun a b => a * b) h1 h2 h3 h4) (fun H locs ls st x y k => lv_lmul hx hb hd k)
  | land =>
    obtain ⟨rfl, rfl, rfl⟩ := of_decide_eq_true hok
    replace h : xo_land cal xqcst rt mc ms A B (pc + 1) r1 r2 r3 pc L S E Hx n ce sl = some o := h
    unfold xo_land at h
    exact xs_ll (g := fun a b => a &&& b) rfl h hk (fun x y i j h1 h2 h3 h4 => ⟨xland y, xland_ok h3 h4, fun k => rfl⟩) (fun H locs ls st x y k => lv_land hx hb hd k)
  | lor =>
    obtain ⟨rfl, rfl, rfl⟩ := of_decide_eq_true hok
    replace h : xo_lor cal xqcst rt mc ms A B (pc + 1) r1 r2 r3 pc L S E Hx n ce sl = some o := h
    unfold xo_lor at h
    exact xs_ll (g := fun a b => a ||| b) rfl h hk (fun x y i j h1 h2 h3 h4 => ⟨(xqLMIN, xqLMAX), xi64 _, fun k => rfl⟩) (fun H locs ls st x y k => lv_lor hx hb hd k)
  | goto off =>
    obtain ⟨rfl, hz, rfl⟩ := of_decide_eq_true hok
    have hw := xgo_win h hk
    intro ls st H locs hL hS hE hW hl hf
    exact lv_goto hx hb hd hz (hw ls st H locs hL hS hE hW hl hf)
  | ifCond cnd off =>
    obtain ⟨rfl, rfl, hz, rfl, rfl⟩ := of_decide_eq_true hok
    replace h : xo_ifc cal xqcst rt mc ms (xqcc cnd) B (pc + 3) r1 r2 r3 pc L S E Hx n ce sl = some o := h
    exact xs_ifc hx hb hd hz h hk
  | if_icmp cnd off =>
    obtain ⟨rfl, rfl, hz, rfl, rfl⟩ := of_decide_eq_true hok
    replace h : xo_ificmp cal xqcst rt mc ms (xqcc cnd) B (pc + 3) r1 r2 r3 pc L S E Hx n ce sl = some o := h
    exact xs_ificmp hx hb hd hz h hk
  | tableswitch df lo hi offs =>
    obtain ⟨rfl, hz⟩ := of_decide_eq_true hok
    replace h : xo_tsw cal xqcst rt mc ms A B nx r1 r2 r3 pc L S E Hx n ce sl = some o := h
    unfold xo_tsw at h
    split at h
    · rw [xnth_eq, hz] at h
      exact xs_sw hx hb hd h hk
    · cases h
  | new i =>
    obtain ⟨rfl, rfl, rfl, hz, h1, h2, h3, h4⟩ := of_decide_eq_true hok
    have hq : xqcls[r1]? = some ((xqcls[r1]?).getD (RX0, TX0, 9)) := by
      rw [List.getElem?_eq_getElem (show r1 < xqcls.length from hz)]
      rfl
    replace h : xo_new cal xqcst rt mc ms A B (pc + 3) r1 r2 r3 pc L S E Hx n ce sl = some o := h
    unfold xo_new at h
    rw [xnth_eq, h1] at h
    exact xs_new hx hb hown hts GL hmc hms hq (xqin_ok h2) (xqin_ok h3) (xqin_ok h4) hd rfl h hk
  | newarray t =>
    obtain ⟨hz, rfl, rfl, h1⟩ := of_decide_eq_true hok
    rcases hz with ⟨rfl, rfl⟩ | ⟨rfl, rfl⟩
    · exact xs_newa (d := .inl (0, 0, 0, 0)) (wd := .int 0) (ty := 0) ⟨0, rfl, xk_ok 0 0⟩ (Or.inl rfl) h hk (fun H locs ls st i N a1 a2 a3 a4 a5 kk => va_newaK hx hb (hts _ (xqin_ok h1)) rfl hd rfl a1 a2 (by show N * 4 ≤ _; omega) (by omega) (by omega) rfl (fun H' cA b1 b2 b3 b4 b5 => kk H' cA b1 b2 b3 b4 b5))
    · exact xs_newa (d := .inl (0, 0, 0, 0)) (wd := .int 0) (ty := 1) ⟨0, rfl, xk_ok 0 0⟩ (Or.inl rfl) h hk (fun H locs ls st i N a1 a2 a3 a4 a5 kk => va_newaK hx hb (hts _ (xqin_ok h1)) rfl hd rfl a1 a2 (by show N * 1 ≤ _; omega) (by omega) (by omega) rfl (fun H' cA b1 b2 b3 b4 b5 => kk H' cA b1 b2 b3 b4 b5))
  | anewarray i =>
    obtain ⟨rfl, rfl, rfl, hz, h1⟩ := of_decide_eq_true hok
    have hao : va_AO (xqrn r1) s := by
      rcases (show r1 = 0 ∨ r1 = 1 ∨ r1 = 2 by omega) with rfl | rfl | rfl
      · exact GL.2.2.1.1
      · exact GL.2.2.1.2.1
      · exact GL.2.2.1.2.2.1
    have hty : xqty (10 + r1) = .object (xqrn r1) := by
      rcases (show r1 = 0 ∨ r1 = 1 ∨ r1 = 2 by omega) with rfl | rfl | rfl <;> rfl
    refine xs_newa (wd := .null) (ty := 10 + r1) (show XVok G (.inr (.inr (.inl none))) .null from rfl) (Or.inr rfl) h hk (fun H locs ls st i N a1 a2 a3 a4 a5 kk => ?_)
    subst a2
    refine W.anew hx hb hown (hts _ (xqin_ok h1)) (va_AO.use hao) rfl hd rfl a1 (by omega) (by omega) (by omega) fun cA kA comp f1 f2 f3 f4 => ?_
    rw [hty] at kk
    exact kk _ cA (by rw [Array.getElem?_push_size, ← arrV_new]) (Array.size_push _) (fun q hq => by rw [Array.getElem?_push, if_neg (Nat.ne_of_lt hq)]) (fun N z => ⟨(fun k h => by cases h), kA, f2, comp, f3⟩) ⟨kA, comp, f2, f3, f4, f1⟩
  | multianewarray i dm =>
    obtain ⟨rfl, rfl, rfl, rfl, h1, h2⟩ := of_decide_eq_true hok
    exact xs_multi hx hb hown hts GL hmc hms (xqin_ok h1) (xqin_ok h2) hd rfl h hk
  | getfield i =>
    obtain ⟨rfl, rfl, rfl, hz, h1, h2⟩ := of_decide_eq_true hok
    have hq : xqcls[r1]? = some ((xqcls[r1]?).getD (RX0, TX0, 9)) := by
      rw [List.getElem?_eq_getElem (show r1 < xqcls.length from hz)]
      rfl
    exact xs_gf hx hb hown hts GL hq h1 (xqin_ok h2) hd rfl h hk
  | putfield i =>
    obtain ⟨rfl, rfl, rfl, hz, h1, h2, h3⟩ := of_decide_eq_true hok
    have hq : xqcls[r1]? = some ((xqcls[r1]?).getD (RX0, TX0, 9)) := by
      rw [List.getElem?_eq_getElem (show r1 < xqcls.length from hz)]
      rfl
    exact xs_pf hx hb hown hts GL hq h1 (xqin_ok h2) (h3.imp id (fun q => ⟨hname.trans q.1, q.2⟩)) hd rfl h hk
  | getstatic i =>
    rcases of_decide_eq_true hok with ⟨rfl, -⟩ | ⟨rfl, -⟩ | ⟨rfl, rfl, rfl, h1⟩
    · cases h
    · cases h
    have hw := xgo_win h hk
    intro ls st H locs hL hS hE hW hl hf
    obtain ⟨cf, kf, fi, f, a, cell, z1, z2, z3, z4, z5, z6, z7, z8⟩ := GL.2.2.2.2.1.1
    exact W.gets hx hb hown (hts _ (xqin_ok h1)) z1 z2 z3 z4 (by rw [hf a (Nat.not_le.mp z8)]; exact z5) (fun e => by rw [e] at z6; cases z6) z7 rfl hd (hw ls _ H locs hL ⟨rfl, hS⟩ hE hW hl hf)
  | iaload =>
    obtain ⟨rfl, rfl, rfl⟩ := of_decide_eq_true hok
    exact xs_ald hx hb GL (Or.inl ⟨rfl, hd⟩) rfl h hk
  | baload =>
    obtain ⟨rfl, rfl, rfl⟩ := of_decide_eq_true hok
    exact xs_ald hx hb GL (Or.inr (Or.inl ⟨rfl, hd⟩)) rfl h hk
  | aaload =>
    obtain ⟨rfl, rfl, rfl⟩ := of_decide_eq_true hok
    exact xs_ald hx hb GL (Or.inr (Or.inr ⟨rfl, hd⟩)) rfl h hk
  | iastore =>
    obtain ⟨rfl, rfl, rfl⟩ := of_decide_eq_true hok
    exact xs_ast hx hb GL (Or.inl ⟨rfl, hd⟩) rfl h hk
  | bastore =>
    obtain ⟨rfl, rfl, rfl⟩ := of_decide_eq_true hok
    exact xs_ast hx hb GL (Or.inr (Or.inl ⟨rfl, hd⟩)) rfl h hk
  | aastore =>
    obtain ⟨rfl, rfl, rfl⟩ := of_decide_eq_true hok
    exact xs_ast hx hb GL (Or.inr (Or.inr ⟨rfl, hd⟩)) rfl h hk
  | arraylength =>
    obtain ⟨rfl, rfl, rfl⟩ := of_decide_eq_true hok
    replace h : xo_arraylength cal xqcst rt mc ms A B (pc + 1) r1 r2 r3 pc L S E Hx n ce sl = some o := h
    exact xs_alen hx hb GL hd rfl h hk
  | invokespecial i =>
    obtain ⟨rfl, rfl, rfl, hz⟩ := of_decide_eq_true hok
    replace h : xo_invokespecial cal xqcst rt mc ms A B (pc + 3) r1 r2 r3 pc L S E Hx n ce sl = some o := h
    unfold xo_invokespecial at h
    rcases hz with ⟨rfl, h1⟩ | ⟨h1, rfl, h2, h3, h4, h5, h6, h7⟩
    · rw [show Nat.beq 1000 1000 = true from rfl, cond_true] at h
      split at h
      · rename_i a S'
        cases e0 : Nat.ble (xcat S') 8
        · rw [e0] at h; cases h
        rw [e0, cond_true] at h
        have e0 := Nat.ble_eq.mp e0
        have hw := xgo_win h hk
        intro ls st H locs hL hS hE hW hl hf
        obtain ⟨w1, st1, rfl, y1, y2⟩ := XSok_cons hS
        have y1 : w1 = .ref (G.1 + a) := y1
        subst y1
        refine W.objInit hx hb hown (hts _ (xqin_ok h1)) (hts _ xqobj1) (hts _ xqobj2) rfl (hL.1.trans hml.symm) rfl hd hfr ?_ (hw ls st1 H locs hL y2 hE hW hl hf)
        have h9 := XScat y2
        show 2 * 0 + _ + 12 ≤ _
        omega
      · cases h
    · have e1 : Nat.beq r1 1000 = false := by
        cases e9 : Nat.beq r1 1000
        · rfl
        · have := Nat.eq_of_beq_eq_true e9; omega
      rw [e1, cond_false] at h
      obtain ⟨c1, c2, c3, c4, c5⟩ := xqcall_ok h1
      refine xs_call hts GL hmc hms (hM r1 h1) rfl h hk ?_
      intro Pc rs hMet H locs ls vs rest as hlen hbl hPc hcat hls hroom hW has hrv
      have hret : xqrty (xqrt r1) = none := by rw [h3]; rfl
      rw [h7] at hrv
      obtain ⟨a, as', fs, rfl, hg⟩ := xrecv_ok hrv
      obtain ⟨v0, As, rfl, y1, y2⟩ := XSok_cons has
      have y1 : v0 = .ref (G.1 + a) := y1
      subst y1
      refine ⟨(Value.ref (G.1 + a) :: As).toArray, ?_⟩
      rw [List.reverse_cons, List.append_assoc]
      rcases h4 with h4 | h4
      · exact va_runI (As := As) (rest := rest) ⟨hx, hb, hml, hown, hts⟩ hMet (cwI (xqcnt r1) hts (xqgoodw c1) (xqws_eq hret) rfl rfl (hts _ (xqin_ok h6)) (hts _ (xqin_ok h4)) (hts _ (xqin_ok h5)) h2 ⟨c2, c3, c4⟩ (hroomR r1 h1)) ⟨hbl, hPc⟩ rfl (by simpa using hlen) hls rfl (lv_room hcat) hd hroom
      · exact va_runIN (As := As) (rest := rest) ⟨hx, hb, hml, hown, hts⟩ hMet ⟨va_cnB (xqcnt r1) hts (xqgoodw c1) (xqws_eq hret) rfl rfl (GL.2.1 _ h4) (hts _ (xqin_ok h6)) ⟨c2, c3, c4⟩ (hroomR r1 h1), h2, hts _ (xqin_ok h5)⟩ ⟨hbl, hPc⟩ rfl (by simpa using hlen) hls rfl (lv_room hcat) hd hroom
  | invokevirtual i =>
    rcases of_decide_eq_true hok with ⟨rfl, -⟩ | ⟨rfl, -⟩ | ⟨rfl, -⟩ | ⟨rfl, rfl, rfl, h1, rfl, h2, h2', h3, h4, h5, h6, h7⟩
    · cases h
    · cases h
    · cases h
    replace h : xo_invokevirtual cal xqcst rt mc ms A B (pc + 3) r1 (xqcnt r1 + 1) r3 pc L S E Hx n ce sl = some o := h
    unfold xo_invokevirtual at h
    obtain ⟨c1, c2, c3, c4, c5⟩ := xqcall_ok h1
    refine xs_call hts GL hmc hms (hM r1 h1) rfl h hk ?_
    intro Pc rs hMet H locs ls vs rest as hlen hbl hPc hcat hls hroom hW has hrv
    rw [h2] at hrv
    obtain ⟨a, as', fs, rfl, hg⟩ := xrecv_ok hrv
    obtain ⟨v0, As, rfl, y1, y2⟩ := XSok_cons has
    have y1 : v0 = .ref (G.1 + a) := y1
    subst y1
    obtain ⟨vs', z1, z2, r, hr, cell, z3, z4, z5, z6⟩ := hW.2 _ _ hg
    dsimp only at hr z3 z4
    have hC : r.1 = (xqyn r1).cls := by rw [hr] at h3; exact h3
    refine ⟨(Value.ref (G.1 + a) :: As).toArray, ?_⟩
    rw [List.reverse_cons, List.append_assoc]
    refine va_runV (C := (xqyn r1).cls) (As := As) (rest := rest) ⟨hx, hb, hml, hown, hts⟩ hMet (cwV (ret := xqrty (xqrt r1)) (xqcnt r1) hts ?_ rfl rfl rfl ⟨rfl, c2, c3, c4⟩ (hroomR r1 h1)) ⟨hbl, ⟨cell, z3, by rw [z5]; rfl, by rw [z4, ← hC]; exact (GL.1 _ _ hr).2.1⟩, hPc⟩ rfl (by simpa using hlen) hls rfl (lv_room hcat) hd hroom
    intro w hw
    rcases List.mem_append.mp hw with hw | hw
    · simp only [List.mem_cons, List.not_mem_nil, or_false] at hw
      rcases hw with rfl | rfl | rfl | rfl
      · exact xqgood1 (xqin_ok h4)
      · exact xqgood1 (xqin_ok h6)
      · exact xqgood1 (xqin_ok h5)
      · exact xqgood1 (xqin_ok h7)
    · exact xqgoodw c1 w hw
  | invokestatic i =>
    rcases of_decide_eq_true hok with ⟨rfl, -⟩ | ⟨rfl, rfl, rfl, hz⟩
    · cases h
    replace h : xo_invokestatic cal xqcst rt mc ms A B (pc + 3) r1 r2 r3 pc L S E Hx n ce sl = some o := h
    unfold xo_invokestatic at h
    rcases hz with ⟨rfl, h1⟩ | ⟨rfl, h1⟩ | ⟨h1, rfl, h4, h5, h6⟩
    · exact xs_min hx hb hml hown hts (xqin_ok h1) hfr (by omega) hmc hms xqmin1 xqmin2 xqmin3 hd rfl h hk
    · exact xs_copy hx hb hml hown hts (xqin_ok h1) xqcop1 xqcop2 xqcop3 hfr hlo hd rfl h hk
    · have e1 : Nat.beq r1 1001 = false := by
        cases e9 : Nat.beq r1 1001
        · rfl
        · have := Nat.eq_of_beq_eq_true e9; omega
      have e2 : Nat.beq r1 1002 = false := by
        cases e9 : Nat.beq r1 1002
        · rfl
        · have := Nat.eq_of_beq_eq_true e9; omega
      rw [e1, e2, cond_false, cond_false] at h
      obtain ⟨c1, c2, c3, c4, c5⟩ := xqcall_ok h1
      refine xs_call hts GL hmc hms (hM r1 h1) rfl h hk ?_
      intro Pc rs hMet H locs ls vs rest as hlen hbl hPc hcat hls hroom hW has hrv
      refine ⟨_, va_runS (As := vs) (rest := rest) ⟨hx, hb, hml, hown, hts⟩ hMet (va_cwS (ret := xqrty (xqrt r1)) (xqcnt r1) hts ?_ rfl rfl rfl ⟨c2, c3, c4⟩ (hroomR r1 h1)) ⟨hbl, hPc⟩ rfl hlen hls rfl (lv_room hcat) hd hroom⟩
      intro w hw
      rcases List.mem_append.mp hw with hw | hw
      · simp only [List.mem_cons, List.not_mem_nil, or_false] at hw
        rcases hw with rfl | rfl | rfl
        · exact xqgood1 (xqin_ok h4)
        · exact xqgood1 (xqin_ok h5)
        · exact xqgood1 (xqin_ok h6)
      · exact xqgoodw c1 w hw
  | ireturn =>
    obtain ⟨rfl, rfl⟩ := of_decide_eq_true hok
    replace h : xo_ireturn cal xqcst rt mc ms A B nx r1 r2 r3 pc L S E Hx n ce sl = some o := h
    unfold xo_ireturn at h
    cases e0 : (Nat.ble ce mc && Nat.ble sl ms)
    · rw [e0] at h; cases h
    rw [e0, cond_true] at h
    rw [Bool.and_eq_true, Nat.ble_eq, Nat.ble_eq] at e0
    split at h
    · rename_i v
      intro ls st H locs hL hS hE hW hl hf
      obtain ⟨w1, st1, rfl, ⟨i, rfl, hi⟩, y2⟩ := XSok_cons hS
      have y2 := XSok_nil y2
      subst y2
      cases e1 : Nat.beq rt 1
      · rw [e1, cond_false] at h
        cases e2 : Nat.beq rt 2
        · rw [e2] at h; cases h
        rw [e2, cond_true] at h
        obtain ⟨lo, hi', t1, t2, t3⟩ := xrng_ok hE hi
        rw [t3] at h
        cases e3 : (xle 0 lo && xle hi' 1)
        · rw [e3] at h; cases h
        rw [e3, cond_true] at h
        rw [Bool.and_eq_true, xle_iff, xle_iff] at e3
        cases h
        have e2 := Nat.eq_of_beq_eq_true e2
        exact hRi v E Hx n ce sl (Or.inr e2) hk pc ls i H locs hd e0.1 e0.2 hi (fun _ => ⟨by omega, by omega⟩) hE hW hl hf
      · rw [e1, cond_true] at h
        cases h
        have e1 := Nat.eq_of_beq_eq_true e1
        exact hRi v E Hx n ce sl (Or.inl e1) hk pc ls i H locs hd e0.1 e0.2 hi (fun q => by omega) hE hW hl hf
    · cases h
  | lreturn =>
    obtain ⟨rfl, rfl⟩ := of_decide_eq_true hok
    replace h : xo_lreturn cal xqcst rt mc ms A B nx r1 r2 r3 pc L S E Hx n ce sl = some o := h
    unfold xo_lreturn at h
    cases e0 : (Nat.ble ce mc && Nat.ble sl ms)
    · rw [e0] at h; cases h
    rw [e0, cond_true] at h
    rw [Bool.and_eq_true, Nat.ble_eq, Nat.ble_eq] at e0
    split at h
    · rename_i v
      intro ls st H locs hL hS hE hW hl hf
      obtain ⟨w1, st1, rfl, y1, y2⟩ := XSok_cons hS
      have y2 := XSok_nil y2
      subst y2
      cases e1 : Nat.beq rt 3
      · rw [e1] at h; cases h
      rw [e1, cond_true] at h
      cases h
      have e1 := Nat.eq_of_beq_eq_true e1
      exact hRl v E Hx n ce sl e1 hk pc ls w1 H locs hd e0.1 e0.2 y1 hE hW hl hf
    · cases h
  | return_ =>
    obtain ⟨rfl, rfl⟩ := of_decide_eq_true hok
    replace h : xo_ret cal xqcst rt mc ms A B nx r1 r2 r3 pc L S E Hx n ce sl = some o := h
    unfold xo_ret at h
    cases e0 : (Nat.ble ce mc && Nat.ble sl ms)
    · rw [e0] at h; cases h
    rw [e0, cond_true] at h
    rw [Bool.and_eq_true, Nat.ble_eq, Nat.ble_eq] at e0
    split at h
    · intro ls st H locs hL hS hE hW hl hf
      have y2 := XSok_nil hS
      subst y2
      cases e1 : Nat.beq rt 0
      · rw [e1] at h; cases h
      rw [e1, cond_true] at h
      cases h
      have e1 := Nat.eq_of_beq_eq_true e1
      exact hRv E Hx n ce sl e1 hk pc ls H locs hd e0.1 e0.2 hE hW hl hf
    · cases h
  | ior =>
    obtain ⟨rfl, -, -⟩ := of_decide_eq_true hok
    replace h : (none : XO) = some o := h
    cases h
  | idiv =>
    obtain ⟨rfl, -, -⟩ := of_decide_eq_true hok
    replace h : (none : XO) = some o := h
    cases h
  | ishr =>
    obtain ⟨rfl, -, -⟩ := of_decide_eq_true hok
    replace h : (none : XO) = some o := h
    cases h
  | lsub =>
    obtain ⟨rfl, -, -⟩ := of_decide_eq_true hok
    replace h : (none : XO) = some o := h
    cases h
  | i2c =>
    obtain ⟨rfl, -, -⟩ := of_decide_eq_true hok
    replace h : (none : XO) = some o := h
    cases h
  | pop2 =>
    obtain ⟨rfl, -, -⟩ := of_decide_eq_true hok
    replace h : (none : XO) = some o := h
    cases h
  | lookupswitch df ps =>
    obtain ⟨rfl, -⟩ := of_decide_eq_true hok
    replace h : (none : XO) = some o := h
    cases h
  | ldc i =>
    obtain ⟨rfl, -⟩ := of_decide_eq_true hok
    replace h : (none : XO) = some o := h
    cases h
  | _ => exact absurd hok (by simp [xqokI])
end XQ6
