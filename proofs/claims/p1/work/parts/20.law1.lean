noncomputable def xqstp : XS → XO := xstep (xmeth 10) xqcst xqTL 2 600000 7302250
noncomputable def xreach (pc0 : Nat) (f : Nat) : XS → Option XS := Nat.rec (fun _ => none) (fun _ ih x => bif Nat.beq x.1 pc0 then some x else (match xqstp x with
  | some (.inl y) => ih y
  | some (.inr (.inl [y])) => ih y
  | _ => none)) f
theorem xreach_succ (pc0 f : Nat) (x : XS) : xreach pc0 (f + 1) x = bif Nat.beq x.1 pc0 then some x else (match xqstp x with
  | some (.inl y) => xreach pc0 f y
  | some (.inr (.inl [y])) => xreach pc0 f y
  | _ => none) := rfl
def xqE (a b : Int) : XE := [(xqMIN, xqMAX), (xqMIN, xqMAX), (xqMIN, xqMAX), (xqMIN, xqMAX), (xqMIN, xqMAX), (a, b)]
def xqx0 (E : XE) : XS := (0, [some (.inr (.inr (.inr 0))), none, none, none], [], E, [], 0, 0, 0)
noncomputable def xqy : Option XS := xreach 32 1000000 (xqx0 (xqE 5 5))
/-- at the switch: the kind of call is k; the first argument lies in [lo, hi], the third in [lo3, hi3] -/
def xqpin (k : Int) (lo hi lo3 hi3 : Int) (y : XS) : XS := match y with
  | (pc, L, .inl _ :: S, a0 :: _ :: a2 :: _ :: E, H, n, ce, sl) => (pc, L, .inl (k, k, 0, 0) :: S, a0 :: (lo, hi) :: a2 :: (lo3, hi3) :: E, H, n, ce, sl)
  | y => y
noncomputable def xqgo (k lo hi lo3 hi3 : Int) : Bool := match xqy with
  | none => false
  | some y => (match xloop xqstp 1000000 [xqpin k lo hi lo3 hi3 y] [] with
    | none => false
    | some rs => xqgood rs)
/-- what stands at the switch -/
noncomputable def xqshape : Bool := match xqy with
  | some (_, _, .inl (0, 31, 0, 0) :: _, _ :: (a, b) :: _ :: (c, d) :: _, _) => xeq a xqMIN && xeq b xqMAX && xeq c xqMIN && xeq d xqMAX
  | _ => false
theorem xqr_small : xqrun (xqE 0 4) = true := by decide +kernel
theorem xqr_shape : xqshape = true := by decide +kernel
