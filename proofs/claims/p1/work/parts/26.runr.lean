noncomputable def xcus (d i : Nat) (as : List XV) (E : XE) (H : XH) (n : Nat) : Option (List XRt) := bif Nat.beq d 8 && Nat.beq i 111 then xcus111 as E H n else bif Nat.beq d 9 && Nat.beq i 110 then xcus110 as E H n else none
noncomputable def xmethR (d : Nat) : Nat → List XV → XE → XH → Nat → Option (List XRt) := Nat.rec (fun _ _ _ _ _ => none) (fun d ih i as E H n => match xcus d i as E H n with
  | some rs => some rs
  | none => (match xnth xqTs i, xnth xqml i, xnth xqmcl i with
    | some T, some (ml, rt), some (mc, ms) => bif Nat.ble (xlen (xlocs as)) ml then xpad (xlocs as) (ml - xlen (xlocs as)) fun L => xloop (xstep ih xqcst T rt mc ms) 1000000 [(0, L, [], E, H, n, 0, 0)] [] else none
    | _, _, _ => none)) d
theorem xmethR_succ (d i : Nat) (as : List XV) (E : XE) (Hx : XH) (n : Nat) : xmethR (d + 1) i as E Hx n = (match xcus d i as E Hx n with
  | some rs => some rs
  | none => (match xnth xqTs i, xnth xqml i, xnth xqmcl i with
    | some T, some (ml, rt), some (mc, ms) => bif Nat.ble (xlen (xlocs as)) ml then xpad (xlocs as) (ml - xlen (xlocs as)) fun L => xloop (xstep (xmethR d) xqcst T rt mc ms) 1000000 [(0, L, [], E, Hx, n, 0, 0)] [] else none
    | _, _, _ => none)) := rfl
noncomputable def xqstpR : XS → XO := xstep (xmethR 10) xqcst xqTL 2 600000 7302250
noncomputable def xqgoR (k lo hi lo3 hi3 : Int) : Bool := match xqy with
  | none => false
  | some y => (match xloop xqstpR 1000000 [xqpin k lo hi lo3 hi3 y] [] with
    | none => false
    | some rs => xqgood rs)
theorem xqr_13_4 : xqgoR 13 0 400 0 0 = true := by decide +kernel
theorem xqr_13_5 : xqgoR 13 0 400 1 1 = true := by decide +kernel
