theorem xq_order {s : State} {b : Nat} (hts : ∀ w ∈ lw_tbl, w.before #[Value.ref b] s = true) (hgv : (Jvm.Cond.and given_1 narrow_1).before #[Value.ref b] s = true) : ∃ t : Nat, va_Z "ClaySlips" "ORDER" "[I" (.ref t) (fun q => s.heap.size ≤ q) s s.heap ∧ va_T .int t 18 xqorder (fun q => s.heap.size ≤ q) s s.heap := by
  have hs := flat_of_before _ hgv
  have hA : ∀ a : Nat, a < s.heap.size → ¬ s.heap.size ≤ a := fun a h => Nat.not_le.mpr h
  obtain ⟨t, h1, h2⟩ := va_Tof (tm := .static "ClaySlips" "ORDER" "[I") (ty := .int) (N := 18) (f := xqorder) (A := fun q => s.heap.size ≤ q) (by decide) (hs _ (by decide +kernel)) (va_eqt (z := 18) (hs _ (by decide +kernel))) (fun j hj => by
    match j, hj with
    | 0, _ => exact va_eqt (t := .elem (.static "ClaySlips" "ORDER" "[I") (.int 0)) (hs _ (by decide +kernel))
    | 1, _ => exact va_eqt (t := .elem (.static "ClaySlips" "ORDER" "[I") (.int 1)) (hs _ (by decide +kernel))
    | 2, _ => exact va_eqt (t := .elem (.static "ClaySlips" "ORDER" "[I") (.int 2)) (hs _ (by decide +kernel))
    | 3, _ => exact va_eqt (t := .elem (.static "ClaySlips" "ORDER" "[I") (.int 3)) (hs _ (by decide +kernel))
    | 4, _ => exact va_eqt (t := .elem (.static "ClaySlips" "ORDER" "[I") (.int 4)) (hs _ (by decide +kernel))
    | 5, _ => exact va_eqt (t := .elem (.static "ClaySlips" "ORDER" "[I") (.int 5)) (hs _ (by decide +kernel))
    | 6, _ => exact va_eqt (t := .elem (.static "ClaySlips" "ORDER" "[I") (.int 6)) (hs _ (by decide +kernel))
    | 7, _ => exact va_eqt (t := .elem (.static "ClaySlips" "ORDER" "[I") (.int 7)) (hs _ (by decide +kernel))
    | 8, _ => exact va_eqt (t := .elem (.static "ClaySlips" "ORDER" "[I") (.int 8)) (hs _ (by decide +kernel))
    | 9, _ => exact va_eqt (t := .elem (.static "ClaySlips" "ORDER" "[I") (.int 9)) (hs _ (by decide +kernel))
    | 10, _ => exact va_eqt (t := .elem (.static "ClaySlips" "ORDER" "[I") (.int 10)) (hs _ (by decide +kernel))
    | 11, _ => exact va_eqt (t := .elem (.static "ClaySlips" "ORDER" "[I") (.int 11)) (hs _ (by decide +kernel))
    | 12, _ => exact va_eqt (t := .elem (.static "ClaySlips" "ORDER" "[I") (.int 12)) (hs _ (by decide +kernel))
    | 13, _ => exact va_eqt (t := .elem (.static "ClaySlips" "ORDER" "[I") (.int 13)) (hs _ (by decide +kernel))
    | 14, _ => exact va_eqt (t := .elem (.static "ClaySlips" "ORDER" "[I") (.int 14)) (hs _ (by decide +kernel))
    | 15, _ => exact va_eqt (t := .elem (.static "ClaySlips" "ORDER" "[I") (.int 15)) (hs _ (by decide +kernel))
    | 16, _ => exact va_eqt (t := .elem (.static "ClaySlips" "ORDER" "[I") (.int 16)) (hs _ (by decide +kernel))
    | 17, _ => exact va_eqt (t := .elem (.static "ClaySlips" "ORDER" "[I") (.int 17)) (hs _ (by decide +kernel))
    | n + 18, hj => omega) hA
  exact ⟨t, va_Zref (hts (.laysStatic "ClaySlips" "ORDER" "[I") (by decide +kernel)) (hts (.initialized "ClaySlips") (by decide +kernel)) h1 hA, h2⟩
theorem xq_fet {s : State} {b : Nat} (hts : ∀ w ∈ lw_tbl, w.before #[Value.ref b] s = true) (hgv : (Jvm.Cond.and given_1 narrow_1).before #[Value.ref b] s = true) : ∃ t : Nat, va_Z "ClaySlips" "FETCHES_AT_ONCE" "[I" (.ref t) (fun q => s.heap.size ≤ q) s s.heap ∧ va_T .int t 6 yqfet (fun q => s.heap.size ≤ q) s s.heap := by
  have hs := flat_of_before _ hgv
  have hA : ∀ a : Nat, a < s.heap.size → ¬ s.heap.size ≤ a := fun a h => Nat.not_le.mpr h
  obtain ⟨t, h1, h2⟩ := va_Tof (tm := .static "ClaySlips" "FETCHES_AT_ONCE" "[I") (ty := .int) (N := 6) (f := yqfet) (A := fun q => s.heap.size ≤ q) (by decide) (hs _ (by decide +kernel)) (va_eqt (z := 6) (hs _ (by decide +kernel))) (fun j hj => by
    match j, hj with
    | 0, _ => exact va_eqt (t := .elem (.static "ClaySlips" "FETCHES_AT_ONCE" "[I") (.int 0)) (hs _ (by decide +kernel))
    | 1, _ => exact va_eqt (t := .elem (.static "ClaySlips" "FETCHES_AT_ONCE" "[I") (.int 1)) (hs _ (by decide +kernel))
    | 2, _ => exact va_eqt (t := .elem (.static "ClaySlips" "FETCHES_AT_ONCE" "[I") (.int 2)) (hs _ (by decide +kernel))
    | 3, _ => exact va_eqt (t := .elem (.static "ClaySlips" "FETCHES_AT_ONCE" "[I") (.int 3)) (hs _ (by decide +kernel))
    | 4, _ => exact va_eqt (t := .elem (.static "ClaySlips" "FETCHES_AT_ONCE" "[I") (.int 4)) (hs _ (by decide +kernel))
    | 5, _ => exact va_eqt (t := .elem (.static "ClaySlips" "FETCHES_AT_ONCE" "[I") (.int 5)) (hs _ (by decide +kernel))
    | n + 6, hj => omega) hA
  exact ⟨t, va_Zref (hts (.laysStatic "ClaySlips" "FETCHES_AT_ONCE" "[I") (by decide +kernel)) (hts (.initialized "ClaySlips") (by decide +kernel)) h1 hA, h2⟩
theorem xq_lam {s : State} {b : Nat} (hts : ∀ w ∈ lw_tbl, w.before #[Value.ref b] s = true) (hgv : (Jvm.Cond.and given_1 narrow_1).before #[Value.ref b] s = true) : ∃ t : Nat, va_Z "ClaySlips" "IS_LAME" "[I" (.ref t) (fun q => s.heap.size ≤ q) s s.heap ∧ va_T .int t 6 yqlam (fun q => s.heap.size ≤ q) s s.heap := by
  have hs := flat_of_before _ hgv
  have hA : ∀ a : Nat, a < s.heap.size → ¬ s.heap.size ≤ a := fun a h => Nat.not_le.mpr h
  obtain ⟨t, h1, h2⟩ := va_Tof (tm := .static "ClaySlips" "IS_LAME" "[I") (ty := .int) (N := 6) (f := yqlam) (A := fun q => s.heap.size ≤ q) (by decide) (hs _ (by decide +kernel)) (va_eqt (z := 6) (hs _ (by decide +kernel))) (fun j hj => by
    match j, hj with
    | 0, _ => exact va_eqt (t := .elem (.static "ClaySlips" "IS_LAME" "[I") (.int 0)) (hs _ (by decide +kernel))
    | 1, _ => exact va_eqt (t := .elem (.static "ClaySlips" "IS_LAME" "[I") (.int 1)) (hs _ (by decide +kernel))
    | 2, _ => exact va_eqt (t := .elem (.static "ClaySlips" "IS_LAME" "[I") (.int 2)) (hs _ (by decide +kernel))
    | 3, _ => exact va_eqt (t := .elem (.static "ClaySlips" "IS_LAME" "[I") (.int 3)) (hs _ (by decide +kernel))
    | 4, _ => exact va_eqt (t := .elem (.static "ClaySlips" "IS_LAME" "[I") (.int 4)) (hs _ (by decide +kernel))
    | 5, _ => exact va_eqt (t := .elem (.static "ClaySlips" "IS_LAME" "[I") (.int 5)) (hs _ (by decide +kernel))
    | n + 6, hj => omega) hA
  exact ⟨t, va_Zref (hts (.laysStatic "ClaySlips" "IS_LAME" "[I") (by decide +kernel)) (hts (.initialized "ClaySlips") (by decide +kernel)) h1 hA, h2⟩
def jtm (i : Nat) : Term := .string "ClaySlips$Text" ([79, 104, 110, 112, 114].getD i 0)
def jtx (i : Nat) : String := (["<>+-.!?()wnlea", "street", "water", "man", "slip"] : List String).getD i ""
theorem xq_strs {s : State} {b : Nat} (hgv : (Jvm.Cond.and given_1 narrow_1).before #[Value.ref b] s = true) : ∃ adK adV : Nat → Nat, vk_S 5 jlen jbyt adK adV (fun q => s.heap.size ≤ q) s s.heap ∧ ∀ i : Nat, i < 5 → (jtm i).eval #[Value.ref b] s none [] s = some (.ref (adK i)) := by
  have hs := flat_of_before _ hgv
  have hA : ∀ a : Nat, a < s.heap.size → ¬ s.heap.size ≤ a := fun a h => Nat.not_le.mpr h
  have k1 : ∀ i : Nat, i < 5 → Cond.exactly (jtm i) "java/lang/String" ∈ flatC (Jvm.Cond.and given_1 narrow_1) := by decide +kernel
  have k2 : ∀ i : Nat, i < 5 → Cond.eq (.field (jtm i) "java/lang/String" "coder" "B") (.int 0) ∈ flatC (Jvm.Cond.and given_1 narrow_1) := by decide +kernel
  have k3 : ∀ i : Nat, i < 5 → Cond.arrayOf (.field (jtm i) "java/lang/String" "value" "[B") .byte ∈ flatC (Jvm.Cond.and given_1 narrow_1) := by decide +kernel
  have k4 : ∀ i : Nat, i < 5 → Cond.eq (.length (.field (jtm i) "java/lang/String" "value" "[B")) (.int (Int32.ofNat (jlen.getD i 0))) ∈ flatC (Jvm.Cond.and given_1 narrow_1) := by decide +kernel
  have k5 : ∀ i : Nat, i < 5 → ∀ j : Nat, j < jlen.getD i 0 → Cond.eq (.elem (.field (jtm i) "java/lang/String" "value" "[B") (.int (Int32.ofNat j))) (.int ((jbyt.getD i []).getD j 0)) ∈ flatC (Jvm.Cond.and given_1 narrow_1) := by decide +kernel
  have k6 : ∀ i : Nat, i < 5 → ∀ j : Nat, j < 5 → i ≠ j → Cond.not (Cond.eq (jtm i) (jtm j)) ∈ flatC (Jvm.Cond.and given_1 narrow_1) ∨ Cond.not (Cond.eq (jtm j) (jtm i)) ∈ flatC (Jvm.Cond.and given_1 narrow_1) := by decide +kernel
  exact vk_Sof (tm := jtm) (by decide) (fun i hi => hs _ (k1 i hi)) (fun i hi => hs _ (k2 i hi)) (fun i hi => hs _ (k3 i hi)) (fun i hi => hs _ (k4 i hi)) (fun i hi j hj => hs _ (k5 i hi j hj)) (fun i j hi hj hij => (k6 i hi j hj hij).imp (hs _) (hs _)) hA
theorem xq_jdk {s : State} {b : Nat} (hts : ∀ w ∈ lw_tbl, w.before #[Value.ref b] s = true) (hgv : (Jvm.Cond.and given_1 narrow_1).before #[Value.ref b] s = true) : va_Z "java/lang/String" "COMPACT_STRINGS" "Z" (.int 1) (fun q => s.heap.size ≤ q) s s.heap ∧ ∃ w : Value, (w = .null ∨ ∃ a, w = .ref a) ∧ va_Z "jdk/internal/util/Preconditions" "SIOOBE_FORMATTER" "Ljava/util/function/BiFunction;" w (fun q => s.heap.size ≤ q) s s.heap := by
  have hs := flat_of_before _ hgv
  have hA : ∀ a : Nat, a < s.heap.size → ¬ s.heap.size ≤ a := fun a h => Nat.not_le.mpr h
  refine ⟨va_Zof (hts (.laysStatic "java/lang/String" "COMPACT_STRINGS" "Z") (by decide +kernel)) (hts (.initialized "java/lang/String") (by decide +kernel)) (va_eqt (z := 1) (hs _ (by decide +kernel))) hA, ?_⟩
  have h := va_Zqof (hts (.laysStatic "jdk/internal/util/Preconditions" "SIOOBE_FORMATTER" "Ljava/util/function/BiFunction;") (by decide +kernel)) (hts (.initialized "jdk/internal/util/Preconditions") (by decide +kernel)) (hs (.isRef (.static "jdk/internal/util/Preconditions" "SIOOBE_FORMATTER" "Ljava/util/function/BiFunction;")) (by decide +kernel)) hA
  rcases h with h | ⟨t, h⟩
  · exact ⟨.null, Or.inl rfl, h⟩
  · exact ⟨.ref t, Or.inr ⟨t, rfl⟩, h⟩
set_option maxHeartbeats 4000000 in
/-- YOUR PART: from the entry, for every script of at most 320 ints, the law comes to its end with true -/
theorem whole_start {p : Program} {e : Env} {s : State} {m : MethodId} {below : List Frame} {meth : Method} {c : Code} (l : Launch) (hflags : l.flags = flags0) {b L : Nat} {xs : Nat → Int32} (hL : L ≤ 320) (C0 : lw_At p s m meth c b L xs) : W p l e room_1 s m #[Value.ref b] below meth c s.heap [] 0 0 (lw_Z below #[Value.ref b] s) (entryFrame m ([Value.ref b] : List Value).toArray 4) := by
  obtain ⟨hx, hb, hr, hml, hown, hts0, hX, hbl, hlocks, hgv⟩ := id C0
  have hts : ∀ w ∈ xqgw, w.before #[Value.ref b] s = true := fun w hw => hts0 w (List.mem_filter.mp hw).1
  obtain ⟨c0, i0, k0⟩ := u_known (C := RX0) (T := TX0) (N := 9) (n := 9) hts xqin0 (hts0 (.instantiable RX0 9) (by decide +kernel))
  obtain ⟨c1, i1, k1⟩ := u_known (C := RX1) (T := TX1) (N := 2) (n := 2) hts xqin1 (hts0 (.instantiable RX1 2) (by decide +kernel))
  obtain ⟨c2, i2, k2⟩ := u_known (C := RX2) (T := TX2) (N := 8) (n := 8) hts xqin2 (hts0 (.instantiable RX2 8) (by decide +kernel))
  obtain ⟨c3, i3, k3⟩ := u_known (C := RX3) (T := TX3) (N := 10) (n := 10) hts xqin3 (hts0 (.instantiable RX3 10) (by decide +kernel))
  obtain ⟨c4, i4, k4⟩ := u_known (C := RX4) (T := TX4) (N := 14) (n := 14) hts xqin4 (hts0 (.instantiable RX4 14) (by decide +kernel))
  obtain ⟨c5, i5, k5⟩ := u_known (C := RX5) (T := TX5) (N := 25) (n := 25) hts xqin5 (hts0 (.instantiable RX5 25) (by decide +kernel))
  obtain ⟨dC, dI, hKc⟩ : ∃ (dC : Nat → ClassId) (dI : Nat → Nat → Nat), ∀ (k : Nat) (q : vw_C), xqcls[k]? = some q → u_Kn s q.1 q.2.1 q.2.2 (dC k) (dI k) := by
    refine ⟨fun k => match k with
      | 0 => c0
      | 1 => c1
      | 2 => c2
      | 3 => c3
      | 4 => c4
      | _ => c5, fun k => match k with
      | 0 => i0
      | 1 => i1
      | 2 => i2
      | 3 => i3
      | 4 => i4
      | _ => i5, ?_⟩
    intro k q hq
    match k, hq with
    | 0, hq => cases hq; exact k0
    | 1, hq => cases hq; exact k1
    | 2, hq => cases hq; exact k2
    | 3, hq => cases hq; exact k3
    | 4, hq => cases hq; exact k4
    | 5, hq => cases hq; exact k5
    | n + 6, hq => simp [xqcls] at hq
  obtain ⟨t1, hZ1, hT1⟩ := xq_order hts0 hgv
  obtain ⟨t2, hZ2, hT2⟩ := xq_fet hts0 hgv
  obtain ⟨t3, hZ3, hT3⟩ := xq_lam hts0 hgv
  obtain ⟨adK, adV, hS, hSe⟩ := xq_strs hgv
  obtain ⟨hJ1, hJ2⟩ := xq_jdk hts0 hgv
  generalize hGd : ((s.heap.size, (fun k => if k = 0 then b else if k = 1 then t1 else if k = 2 then t2 else if k = 3 then t3 else if k < 20 then adK (k - 10) else adV (k - 20)), fun j => if j < 5 then (xs j).toInt else if j = 5 then (L : Int) else (xs (j - 6)).toInt) : XG) = G
  have hG : G.1 = s.heap.size := by rw [← hGd]
  have hsp0 : G.2.1 0 = b := by rw [← hGd]; rfl
  have hsp1 : G.2.1 1 = t1 := by rw [← hGd]; rfl
  have hsp2 : G.2.1 2 = t2 := by rw [← hGd]; rfl
  have hsp3 : G.2.1 3 = t3 := by rw [← hGd]; rfl
  have hspK : ∀ i, i < 5 → G.2.1 (10 + i) = adK i := fun i hi => by
    rw [← hGd]
    show (if 10 + i = 0 then b else if 10 + i = 1 then t1 else if 10 + i = 2 then t2 else if 10 + i = 3 then t3 else if 10 + i < 20 then adK (10 + i - 10) else adV (10 + i - 20)) = adK i
    rw [if_neg (by omega), if_neg (by omega), if_neg (by omega), if_neg (by omega), if_pos (by omega), show 10 + i - 10 = i by omega]
  have hspV : ∀ i, i < 5 → G.2.1 (20 + i) = adV i := fun i hi => by
    rw [← hGd]
    show (if 20 + i = 0 then b else if 20 + i = 1 then t1 else if 20 + i = 2 then t2 else if 20 + i = 3 then t3 else if 20 + i < 20 then adK (20 + i - 10) else adV (20 + i - 20)) = adV i
    rw [if_neg (by omega), if_neg (by omega), if_neg (by omega), if_neg (by omega), if_neg (by omega), show 20 + i - 20 = i by omega]
  have hro : ∀ j, j < 5 → G.2.2 j = (xs j).toInt := fun j hj => by rw [← hGd]; show (if j < 5 then _ else _) = _; rw [if_pos hj]
  have hro5 : G.2.2 5 = (L : Int) := by rw [← hGd]; rfl
  have hro6 : ∀ j, G.2.2 (6 + j) = (xs j).toInt := fun j => by
    rw [← hGd]
    show (if 6 + j < 5 then _ else if 6 + j = 5 then _ else (xs (6 + j - 6)).toInt) = _
    rw [if_neg (by omega), if_neg (by omega), show 6 + j - 6 = j by omega]
  have GL : YGl G (dC, dI) s := by
    refine ⟨⟨hKc, fun w hw => ?_, ⟨va_AO.of (hts0 (.arrayOver (.object RX0)) (by decide +kernel)), va_AO.of (hts0 (.arrayOver (.object RX1)) (by decide +kernel)), va_AO.of (hts0 (.arrayOver (.object RX2)) (by decide +kernel)), hts0 (.arrayOver (.array .int)) (by decide +kernel)⟩, by rw [hG]; exact Nat.le_refl _, ?_, ?_⟩, ?_, ?_, ⟨?_, ⟨by rw [hG]; exact Nat.le_refl _, ?_, ?_, ?_⟩, fun i o n hi => ?_⟩, ?_⟩
    · have hwt : w ∈ lw_tbl := by
        have key : ∀ w ∈ xqnest, w ∈ lw_tbl := by decide +kernel
        exact key w hw
      have hon : w.onTables = true := by
        have key : ∀ w ∈ xqnest, w.onTables = true := by decide +kernel
        exact key w hw
      exact va_Nw.of hon (hts0 w hwt)
    · rw [hsp1, hG]
      exact ⟨hZ1, hT1⟩
    · rw [hsp0]
      exact ⟨L, xs, hX, by rw [hG]; exact hbl, fun j hj => (hro j hj).symm, hro5, hL⟩
    · rw [hsp2, hG]
      exact ⟨hZ2, hT2⟩
    · rw [hsp3, hG]
      exact ⟨hZ3, hT3⟩
    · exact va_Nw.of (by decide +kernel) (hts0 (.fieldLinkNest "ClaySlips$Street" 133 "ClaySlips" "FETCHES_AT_ONCE" "[I" "ClaySlips") (by decide +kernel))
    · rw [hG]
      refine ⟨fun i hi => ?_, fun i j hi hj e => ?_⟩
      · have := hS.1 i hi
        dsimp only
        rw [hspK i hi, hspV i hi]
        exact this
      · dsimp only at e
        rw [hspK i hi, hspK j hj] at e
        exact hS.2 i j hi hj e
    · rw [hG]; exact hJ1
    · rw [hG]; exact hJ2
    · have h5 : i < 5 := (List.getElem?_eq_some_iff.mp hi).1
      refine ⟨jtx i, ?_⟩
      have key : ∀ i : Nat, i < 5 → xqstr[i]? = some ("ClaySlips$Text", [79, 104, 110, 112, 114].getD i 0) ∧ Cond.stringRef "ClaySlips$Text" ([79, 104, 110, 112, 114].getD i 0) (jtx i) ∈ lw_tbl := by decide +kernel
      obtain ⟨e1, e2⟩ := key i h5
      rw [e1] at hi
      cases hi
      rw [hspK i h5]
      exact vk_R.of (hts0 _ e2) (hSe i h5)
    · rw [hsp0]
      exact ⟨L, xs, hX, by rw [hG]; exact hbl, hro5, hL, fun j => (hro6 j).symm⟩
  have hr5 : ∀ j, j < 5 → xqMIN ≤ G.2.2 j ∧ G.2.2 j ≤ xqMAX := fun j hj => by rw [hro j hj]; exact xi32 _
  have hEk : XEok G.2.2 xqE0 := by
    intro j q hq
    match j, hq with
    | 0, hq => cases hq; exact hr5 0 (by decide)
    | 1, hq => cases hq; exact hr5 1 (by decide)
    | 2, hq => cases hq; exact hr5 2 (by decide)
    | 3, hq => cases hq; exact hr5 3 (by decide)
    | 4, hq => cases hq; exact hr5 4 (by decide)
    | 5, hq => cases hq; rw [hro5]; exact ⟨by show (0 : Int) ≤ L; omega, by show (L : Int) ≤ 320; omega⟩
    | n + 6, hq => simp [xqE0] at hq
  have hWk : XWok G (dC, dI) s [] 0 s.heap := ⟨by rw [hG]; rfl, fun k c hk => by simp [hget, xnth] at hk⟩
  rw [lg_entry_eq]
  have hl := lv_entry ([.ref b]) (n := 4) (Nat.le_of_ble_eq_true rfl)
  generalize (lg_sl ([.ref b]) ++ List.replicate (4 - (lg_sl ([.ref b])).length) Slot.unset).toArray = ls at hl ⊢
  have hLk : XLok G (xqx0 xqE0).2.1 ls 4 := by
    refine ⟨hl.1, by decide, hl.2.1, fun i x hx => ?_⟩
    match i, hx with
    | 0, hx => cases hx; exact ⟨.ref b, hl.2.2 (0, .ref b) List.mem_cons_self, by show Value.ref b = .ref (G.2.1 0); rw [hsp0]⟩
    | 1, hx => cases hx
    | 2, hx => cases hx
    | 3, hx => cases hx
    | n + 4, hx => simp [xqx0] at hx
  have hy := xyok_t
  unfold xyok at hy
  split at hy
  rotate_left
  · cases hy
  rename_i pc Lx S Ex Hx n ce sl hreach
  rw [Bool.and_eq_true, Bool.and_eq_true, Bool.and_eq_true, Bool.and_eq_true, Bool.and_eq_true, Bool.and_eq_true] at hy
  obtain ⟨c1, c2, c3, c4, c5, c6, c7⟩ := hy
  have c1 := Nat.eq_of_beq_eq_true c1
  have c3 := Nat.eq_of_beq_eq_true c3
  have c4 := Nat.eq_of_beq_eq_true c4
  have c5 := Nat.eq_of_beq_eq_true c5
  have c6 := Nat.eq_of_beq_eq_true c6
  subst c1 c4 c5 c6
  refine xreach_ok C0 hG GL.1 1000000 (xqx0 xqE0) _ hreach ?_ ls [] s.heap [] hLk trivial hEk hWk (fun q hq => by cases hq) (fun q hq => rfl)
  clear hLk hWk hl ls
  intro ls st H locs hLk hSk hE2 hW2 hl2 hf2
  have hS0 : S = [] := List.length_eq_zero_iff.mp c3
  subst hS0
  have hst := XSok_nil hSk
  subst hst
  have key := law_loop (g := (l, G, (dC, dI))) (P := fun _ _ => True) (by show 0 ≤ G.2.2 5 ∧ G.2.2 5 ≤ 320; rw [hro5]; omega) 326 0 0 y0 Z00 I00 M00 (by decide) (by decide) (by decide) (by decide) wG00 xW00 mW00
  refine key p e s m below meth c b L xs C0 hG GL ls [] H locs ?_ trivial (xyheap_ok c7 hW2) hl2 hf2
  unfold xyloc at c2
  split at c2
  rotate_left
  · cases c2
  rename_i a1 a2 a3 lo hi q1 q2
  rw [Bool.and_eq_true, Bool.and_eq_true, Bool.and_eq_true, Bool.and_eq_true, xeq_iff, xeq_iff] at c2
  obtain ⟨b1, b2, b3, b4, b5⟩ := c2
  have b1 := Nat.eq_of_beq_eq_true b1
  have b2 := Nat.eq_of_beq_eq_true b2
  have b3 := Nat.eq_of_beq_eq_true b3
  subst b1 b2 b3 b4 b5
  refine ⟨hLk.1, by show 4 ≤ 4; decide, hLk.2.2.1, fun i x hx => ?_⟩
  match i, hx with
  | 0, hx => cases hx; exact hLk.2.2.2 0 _ rfl
  | 1, hx => cases hx; exact hLk.2.2.2 1 _ rfl
  | 2, hx => cases hx; exact hLk.2.2.2 2 _ rfl
  | 3, hx =>
    cases hx
    obtain ⟨w, w1, i, rfl, w2, w3, -⟩ := hLk.2.2.2 3 _ rfl
    dsimp only at w2 w3
    exact ⟨_, w1, yp0 (by omega)⟩
  | n + 4, hx => simp [yxl] at hx
