def xqlw : List (Int × List (Int × Int)) := [(159, [(33, 133), (40, 138), (41, 141), (43, 127), (45, 129), (46, 131), (60, 123), (62, 125), (63, 135), (97, 156), (101, 153), (108, 150), (110, 147), (119, 144)])]
def xqstr : List (String × Nat) := [("ClaySlips$Text", 79), ("ClaySlips$Text", 104), ("ClaySlips$Text", 110), ("ClaySlips$Text", 112), ("ClaySlips$Text", 114)]
def xqsw : List (Int × Int × Int × List Int) := [(41, 0, 2, [26, 31, 36]), (42, 0, 2, [27, 32, 37]), (63, 0, 3, [31, 39, 47, 55]), (55, 0, 2, [26, 35, 45]), (178, 0, 6, [41, 49, 57, 93, 178, 150, 159]), (93, 9, 12, [31, 49, 67, 80]), (72, 5, 7, [27, 38, 55]), (902, 0, 27, [128, 151, 184, 217, 250, 273, 296, 359, 372, 385, 398, 411, 444, 467, 510, 523, 546, 579, 602, 635, 688, 721, 754, 797, 820, 843, 866, 889])]
/-! The executor over abstract values: every function that builds a value hands it on evaluated. -/
abbrev XVI : Type := Int × Int × Nat × Int
abbrev XV : Type := XVI ⊕ ((Int × Int) ⊕ (Option Nat ⊕ Nat))
abbrev XE : Type := List (Int × Int)
abbrev XC : Type := (Nat × List XV) ⊕ (Nat × Nat × XV × List (Nat × XV))
abbrev XH : Type := List (List XC)
abbrev XLc : Type := List (Option XV)
abbrev XI : Type := Nat × Nat × Int × Nat × Nat × Nat × Nat
abbrev XS : Type := Nat × XLc × List XV × XE × XH × Nat × Nat × Nat
abbrev XRt : Type := Option XV × XE × XH × Nat × Nat × Nat
abbrev XO : Type := Option (XS ⊕ (List XS ⊕ XRt))
def xqMIN : Int := .negSucc 2147483647
def xqMAX : Int := .ofNat 2147483647
def xqLMIN : Int := .negSucc 9223372036854775807
def xqLMAX : Int := .ofNat 9223372036854775807
def xqTop : XVI := (xqMIN, xqMAX, 0, 0)
noncomputable def fN {β : Type} (n : Nat) (k : Nat → β) : β := Nat.casesOn n (k 0) (fun m => k (Nat.succ m))
noncomputable def fI {β : Type} (i : Int) (k : Int → β) : β := Int.casesOn i (fun n => fN n fun n => k (.ofNat n)) (fun n => fN n fun n => k (.negSucc n))
def xle (a b : Int) : Bool := match a, b with
  | .ofNat x, .ofNat y => Nat.ble x y
  | .ofNat _, .negSucc _ => false
  | .negSucc _, .ofNat _ => true
  | .negSucc x, .negSucc y => Nat.ble y x
def xeq (a b : Int) : Bool := match a, b with
  | .ofNat x, .ofNat y => Nat.beq x y
  | .ofNat _, .negSucc _ => false
  | .negSucc _, .ofNat _ => false
  | .negSucc x, .negSucc y => Nat.beq x y
def xlt (a b : Int) : Bool := !(xle b a)
def xmax (a b : Int) : Int := bif xle a b then b else a
def xmin (a b : Int) : Int := bif xle a b then a else b
noncomputable def xnth {α : Type} (l : List α) : Nat → Option α := List.rec (fun _ => none) (fun x _ ih i => Nat.casesOn i (some x) ih) l
noncomputable def xset {α β : Type} (l : List α) (a : α) : Nat → (List α → β) → β := List.rec (fun _ k => k []) (fun x t ih i k => Nat.casesOn i (k (a :: t)) (fun j => ih j (fun t' => k (x :: t')))) l
noncomputable def xapp {α β : Type} (l m : List α) : (List α → β) → β := List.rec (fun k => k m) (fun x _ ih k => ih (fun t' => k (x :: t'))) l
noncomputable def xlen {α : Type} (l : List α) : Nat := List.rec 0 (fun _ _ ih => Nat.succ ih) l
-- the environment
noncomputable def xrng {β : Type} (E : XE) (v : XVI) (k : Int → Int → β) : β := match v with
  | (lo, hi, s, o) => Nat.casesOn s (k lo hi) (fun t => match xnth E t with
    | none => k lo hi
    | some (a, b) => fI (a + o) fun a => fI (b + o) fun b => fI (xmax lo a) fun l => fI (xmin hi b) fun h => k l h)
noncomputable def xref {β : Type} (E : XE) (v : XVI) (lo hi : Int) (k : XE → β) : β := match v with
  | (_, _, s, o) => Nat.casesOn s (k E) (fun t => match xnth E t with
    | none => k E
    | some (a, b) => fI (lo - o) fun lo => fI (hi - o) fun hi => fI (xmax a lo) fun a => fI (xmin b hi) fun b => xset E (a, b) t k)
-- tests: decided, or what each side knows
abbrev XT : Type := Bool ⊕ (XE × XE)
noncomputable def xtlt (E : XE) (x y : XVI) : XT :=
  xrng E x fun a b => xrng E y fun c d =>
    bif xlt b c then .inl true else bif xle d a then .inl false else
    bif xeq c d then fI (c - 1) fun c1 => xref E x a c1 fun e1 => xref E x c b fun e2 => .inr (e1, e2)
    else bif xeq a b then fI (a + 1) fun a1 => xref E y a1 d fun e1 => xref E y c a fun e2 => .inr (e1, e2)
    else .inr (E, E)
noncomputable def xteq (E : XE) (x y : XVI) : XT :=
  xrng E x fun a b => xrng E y fun c d =>
    bif xlt b c then .inl false else bif xlt d a then .inl false else
    bif xeq a b && xeq c d then .inl true else
    bif !(Nat.beq x.2.2.1 0) && Nat.beq x.2.2.1 y.2.2.1 then .inl (xeq x.2.2.2 y.2.2.2) else
    bif xeq c d then
      (xref E x c c fun e1 => bif xeq a c then fI (a + 1) fun a1 => xref E x a1 b fun e2 => .inr (e1, e2) else bif xeq b c then fI (b - 1) fun b1 => xref E x a b1 fun e2 => .inr (e1, e2) else .inr (e1, E))
    else bif xeq a b then
      (xref E y a a fun e1 => bif xeq a c then fI (c + 1) fun c1 => xref E y c1 d fun e2 => .inr (e1, e2) else bif xeq a d then fI (d - 1) fun d1 => xref E y c d1 fun e2 => .inr (e1, e2) else .inr (e1, E))
    else .inr (E, E)
def xtnot (t : XT) : XT := match t with
  | .inl b => .inl (!b)
  | .inr (e1, e2) => .inr (e2, e1)
noncomputable def xtest (op : Nat) (E : XE) (x y : XVI) : XT := bif Nat.beq op 0 then xteq E x y else bif Nat.beq op 1 then xtnot (xteq E x y) else bif Nat.beq op 2 then xtlt E x y else bif Nat.beq op 3 then xtnot (xtlt E x y) else bif Nat.beq op 4 then xtlt E y x else xtnot (xtlt E y x)
-- arithmetic
noncomputable def xiadd {β : Type} (E : XE) (x y : XVI) (k : XVI → β) : β :=
  xrng E x fun a b => xrng E y fun c d => fI (a + c) fun lo => fI (b + d) fun hi =>
    bif xle xqMIN lo && xle hi xqMAX then
      bif xeq c d && !(Nat.beq x.2.2.1 0) then fI (x.2.2.2 + c) fun o => k (lo, hi, x.2.2.1, o)
      else bif xeq a b && !(Nat.beq y.2.2.1 0) then fI (y.2.2.2 + a) fun o => k (lo, hi, y.2.2.1, o)
      else k (lo, hi, 0, 0)
    else k xqTop
noncomputable def xisub {β : Type} (E : XE) (x y : XVI) (k : XVI → β) : β :=
  xrng E x fun a b => xrng E y fun c d => fI (a - d) fun lo => fI (b - c) fun hi =>
    bif xle xqMIN lo && xle hi xqMAX then
      bif xeq c d && !(Nat.beq x.2.2.1 0) then fI (x.2.2.2 - c) fun o => k (lo, hi, x.2.2.1, o)
      else k (lo, hi, 0, 0)
    else k xqTop
noncomputable def xfold {β : Type} (f : Int32 → Int32 → Int32) (E : XE) (x y : XVI) (k : XVI → β) : β :=
  xrng E x fun a b => xrng E y fun c d =>
    bif xeq a b && xeq c d then fI (f (Int32.ofInt a) (Int32.ofInt c)).toInt fun r => k (r, r, 0, 0) else k xqTop
noncomputable def xiand {β : Type} (E : XE) (x y : XVI) (k : XVI → β) : β :=
  xrng E x fun a b => xrng E y fun c d =>
    bif xeq a b && xeq c d then fI (Int32.ofInt a &&& Int32.ofInt c).toInt fun r => k (r, r, 0, 0)
    else bif xeq c d && xle 0 c then k (0, c, 0, 0) else k xqTop
noncomputable def xlfold {β : Type} (f : Int64 → Int64 → Int64) (x y : Int × Int) (k : Int × Int → β) : β :=
  bif xeq x.1 x.2 && xeq y.1 y.2 then fI (f (Int64.ofInt x.1) (Int64.ofInt y.1)).toInt fun r => k (r, r) else k (xqLMIN, xqLMAX)
def xland (y : Int × Int) : Int × Int := bif xeq y.1 y.2 && xle 0 y.1 then (0, y.1) else (xqLMIN, xqLMAX)
def xl2i (x : Int × Int) : XVI := bif xle xqMIN x.1 && xle x.2 xqMAX then (x.1, x.2, 0, 0) else xqTop
def xlcmp (x y : Int × Int) : XVI :=
  (bif xlt y.2 x.1 then 1 else bif xle y.2 x.1 then 0 else .negSucc 0, bif xlt x.2 y.1 then .negSucc 0 else bif xle x.2 y.1 then 0 else 1, 0, 0)
-- the heap
noncomputable def hget (H : XH) (a : Nat) : Option XC := match xnth H (a / 24) with
  | none => none
  | some c => xnth c (a % 24)
noncomputable def hset {β : Type} (H : XH) (a : Nat) (x : XC) (k : XH → β) : β := match xnth H (a / 24) with
  | none => k H
  | some c => xset c x (a % 24) fun c' => xset H c' (a / 24) k
noncomputable def hpush (H : XH) (n : Nat) (x : XC) (k : XH → XO) : XO :=
  bif Nat.beq (n % 24) 0 then (bif Nat.beq (xlen H) (n / 24) then xapp H [[x]] k else none)
  else match xnth H (n / 24) with
    | none => none
    | some c => bif Nat.beq (xlen c) (n % 24) then xapp c [x] fun c' => xset H c' (n / 24) k else none
noncomputable def xelt (d : XV) (ov : List (Nat × XV)) (j : Nat) : XV := List.rec d (fun q _ ih => bif Nat.beq q.1 j then q.2 else ih) ov
noncomputable def xov {β : Type} (j : Nat) (v : XV) (ov : List (Nat × XV)) : (List (Nat × XV) → β) → β → β := List.rec (fun _ kn => kn) (fun q t ih kf kn => bif Nat.beq q.1 j then kf ((j, v) :: t) else ih (fun t' => kf (q :: t')) kn) ov
def xsame (v d : XV) : Bool := match v, d with
  | .inl (a, b, 0, _), .inl (c, e, 0, _) => xeq a c && xeq b e && xeq a b
  | _, _ => false
noncomputable def xput {β : Type} (d : XV) (ov : List (Nat × XV)) (j : Nat) (v : XV) (k : List (Nat × XV) → β) : β :=
  xov j v ov k (bif xsame v d then k ov else k ((j, v) :: ov))
/-- the kind of an array's elements: 0 int, 1 boolean, 2 rows of ints, 10 + c objects of the class c -/
def xqdef : Nat → List XV := fun c => match c with
  | 0 => [.inr (.inr (.inl none)), .inr (.inr (.inl none)), .inl (0, 0, 0, 0), .inl (0, 0, 0, 0), .inl (0, 0, 0, 0), .inl (0, 0, 0, 0), .inl (0, 0, 0, 0), .inl (0, 0, 0, 0), .inl (0, 0, 0, 0)]
  | 1 => [.inr (.inr (.inl none)), .inl (0, 0, 0, 0)]
  | 2 => [.inr (.inr (.inl none)), .inr (.inr (.inl none)), .inr (.inr (.inl none)), .inr (.inr (.inl none)), .inl (0, 0, 0, 0), .inl (0, 0, 0, 0), .inl (0, 0, 0, 0), .inl (0, 0, 0, 0)]
  | 3 => [.inr (.inr (.inl none)), .inr (.inr (.inl none)), .inl (0, 0, 0, 0), .inl (0, 0, 0, 0), .inl (0, 0, 0, 0), .inl (0, 0, 0, 0), .inl (0, 0, 0, 0), .inl (0, 0, 0, 0), .inl (0, 0, 0, 0), .inl (0, 0, 0, 0)]
  | 4 => [.inr (.inr (.inl none)), .inr (.inr (.inl none)), .inr (.inr (.inl none)), .inr (.inr (.inl none)), .inr (.inr (.inl none)), .inr (.inr (.inl none)), .inr (.inr (.inl none)), .inr (.inr (.inl none)), .inr (.inr (.inl none)), .inr (.inr (.inl none)), .inr (.inr (.inl none)), .inl (0, 0, 0, 0), .inl (0, 0, 0, 0), .inl (0, 0, 0, 0)]
  | _ => [.inr (.inr (.inl none)), .inr (.inr (.inl none)), .inr (.inr (.inl none)), .inl (0, 0, 0, 0), .inr (.inr (.inl none)), .inr (.inr (.inl none)), .inr (.inr (.inl none)), .inl (0, 0, 0, 0), .inl (0, 0, 0, 0), .inl (0, 0, 0, 0), .inr (.inr (.inl none)), .inr (.inr (.inl none)), .inr (.inr (.inl none)), .inr (.inr (.inl none)), .inr (.inr (.inl none)), .inr (.inr (.inl none)), .inr (.inr (.inl none)), .inr (.inr (.inl none)), .inl (0, 0, 0, 0), .inl (0, 0, 0, 0), .inr (.inr (.inl none)), .inr (.inr (.inl none)), .inr (.inr (.inl none)), .inr (.inr (.inl none)), .inr (.inl (0, 0))]
-- one instruction: the next place, the rest of the state in parts
def xgo (nx : Nat) (L : XLc) (S : List XV) (E : XE) (H : XH) (n ce sl : Nat) : XO := some (.inl (nx, L, S, E, H, n, ce, sl))
def xld (nx : Nat) (L : XLc) (S : List XV) (E : XE) (H : XH) (n ce sl : Nat) (t : Nat) (x : Option (Option XV)) : XO := match x with
  | some (some (.inl v)) => bif Nat.beq t 0 then xgo nx L (.inl v :: S) E H n ce sl else none
  | some (some (.inr (.inl v))) => bif Nat.beq t 1 then xgo nx L (.inr (.inl v) :: S) E H n ce sl else none
  | some (some (.inr (.inr r))) => bif Nat.beq t 2 then xgo nx L (.inr (.inr r) :: S) E H n ce sl else none
  | _ => none
/-- what stands ahead of place i isn't a long -/
noncomputable def xclr (L : XLc) (i : Nat) : Bool := Nat.casesOn i true (fun j => match xnth L j with
  | some (some (.inr (.inl _))) => false
  | _ => true)
noncomputable def xst1 (nx : Nat) (L : XLc) (S : List XV) (E : XE) (H : XH) (n ce sl : Nat) (i : Nat) (v : XV) : XO :=
  bif xclr L i && Nat.blt i (xlen L) then xset L (some v) i fun L' => xgo nx L' S E H n ce sl else none
noncomputable def xst (nx : Nat) (L : XLc) (S : List XV) (E : XE) (H : XH) (n ce sl : Nat) (t i : Nat) : XO := match S with
  | .inl v :: S => bif Nat.beq t 0 then xst1 nx L S E H n ce sl i (.inl v) else none
  | .inr (.inr (.inl (some a))) :: S => bif Nat.beq t 2 then xst1 nx L S E H n ce sl i (.inr (.inr (.inl (some a)))) else none
  | .inr (.inl v) :: S => bif Nat.beq t 1 && xclr L i && Nat.blt (i + 1) (xlen L) then xset L (some (.inr (.inl v))) i fun L' => xset L' none (i + 1) fun L' => xgo nx L' S E H n ce sl else none
  | _ => none
noncomputable def xbr (nx tg : Nat) (L : XLc) (S : List XV) (H : XH) (n ce sl : Nat) (E : XE) (t : XT) : XO := match t with
  | .inl true => xgo tg L S E H n ce sl
  | .inl false => xgo nx L S E H n ce sl
  | .inr (e1, e2) => some (.inr (.inl [(tg, L, S, e1, H, n, ce, sl), (nx, L, S, e2, H, n, ce, sl)]))
/-- v up to c, or from c1 on, at the same place; the rest of the stack by f -/
noncomputable def xsplit (pc : Nat) (L : XLc) (f : XV → List XV) (E : XE) (H : XH) (n ce sl : Nat) (v : XVI) (a c c1 b : Int) : XO :=
  xref E v a c fun e1 => xref E v c1 b fun e2 => some (.inr (.inl [(pc, L, f (.inl (a, c, v.2.2)), e1, H, n, ce, sl), (pc, L, f (.inl (c1, b, v.2.2)), e2, H, n, ce, sl)]))
noncomputable def xsw (pc : Nat) (L : XLc) (S : List XV) (E : XE) (H : XH) (n ce sl : Nat) (v : XVI) (df lo hi : Int) (offs : List Int) : XO :=
  xrng E v fun a b =>
    bif xlt b lo || xlt hi a then fI ((pc : Int) + df) fun t => match t with
      | .ofNat t => xgo t L S E H n ce sl
      | .negSucc _ => none
    else bif xeq a b then fI (a - lo) fun j => match j with
      | .negSucc _ => none
      | .ofNat j => match xnth offs j with
        | none => none
        | some o => fI ((pc : Int) + o) fun t => match t with
          | .ofNat t => xgo t L S E H n ce sl
          | .negSucc _ => none
    else bif xlt a lo then fI (lo - 1) fun c => xsplit pc L (fun w => w :: S) E H n ce sl v a c lo b
    else fI (a + 1) fun c1 => xsplit pc L (fun w => w :: S) E H n ce sl v a a c1 b
noncomputable def xald (nx pc : Nat) (L : XLc) (S : List XV) (E : XE) (H : XH) (n ce sl : Nat) (kd : Nat) : XO := match S with
  | .inl v :: .inr (.inr (.inl (some a))) :: S => (match hget H a with
    | some (.inr (ty, len, d, ov)) => xrng E v fun lo hi =>
      bif (bif Nat.beq kd 2 then Nat.ble 2 ty else Nat.beq kd ty) && xle 0 lo && xlt hi (.ofNat len) then
        (match ov with
        | [] => xgo nx L (d :: S) E H n ce sl
        | q :: ov' => bif xeq lo hi then (match lo with
            | .ofNat j => match xelt d (q :: ov') j with
              | .inl (w1, w2, w3, w4) => xgo nx L (.inl (w1, w2, w3, w4) :: S) E H n ce sl
              | .inr (.inl w) => xgo nx L (.inr (.inl w) :: S) E H n ce sl
              | .inr (.inr w) => xgo nx L (.inr (.inr w) :: S) E H n ce sl
            | .negSucc _ => none)
          else fI (lo + 1) fun c1 => xsplit pc L (fun w => w :: .inr (.inr (.inl (some a))) :: S) E H n ce sl v lo lo c1 hi)
      else none
    | _ => none)
  | .inl v :: .inr (.inr (.inr 0)) :: S => bif Nat.beq kd 0 then xrng E v fun lo hi => (match lo with
      | .ofNat j => match xnth E 5 with
        | some (l5, _) => bif xeq lo hi && xlt lo l5 && Nat.blt j 5 then xgo nx L (.inl (xqMIN, xqMAX, Nat.succ j, 0) :: S) E H n ce sl else none
        | none => none
      | .negSucc _ => none) else none
  | .inl v :: .inr (.inr (.inr 1)) :: S => bif Nat.beq kd 0 then xrng E v fun lo hi => (match lo with
      | .ofNat j => match xnth [0, 1, 2, 0, 2, 1, 1, 0, 2, 1, 2, 0, 2, 0, 1, 2, 1, 0] j with
        | some q => bif xeq lo hi then xgo nx L (.inl (q, q, 0, 0) :: S) E H n ce sl else none
        | none => none
      | .negSucc _ => none) else none
  | _ => none
noncomputable def xast1 (nx : Nat) (L : XLc) (S : List XV) (E : XE) (H : XH) (n ce sl : Nat) (a j : Nat) (ty len : Nat) (d : XV) (ov : List (Nat × XV)) (w : XV) : XO :=
  xput d ov j w fun ov' => hset H a (.inr (ty, len, d, ov')) fun H' => xgo nx L S E H' n ce sl
noncomputable def xast (nx pc : Nat) (L : XLc) (S : List XV) (E : XE) (H : XH) (n ce sl : Nat) (kd : Nat) : XO := match S with
  | w :: .inl v :: .inr (.inr (.inl (some a))) :: S => (match hget H a with
    | some (.inr (ty, len, d, ov)) => xrng E v fun lo hi =>
      bif xle 0 lo && xlt hi (.ofNat len) then
        (bif xeq lo hi then (match lo with
          | .ofNat j => (match w with
            | .inl u => bif Nat.beq kd ty then (match kd with
                | 0 => xast1 nx L S E H n ce sl a j ty len d ov (.inl u)
                | 1 => xrng E u fun p q => bif xle 0 p && xle q 1 then xast1 nx L S E H n ce sl a j ty len d ov (.inl u) else none
                | _ => none) else none
            | .inr (.inr (.inl (some b))) => bif Nat.beq kd 2 then (match hget H b with
                | some (.inl (ci, _)) => bif Nat.beq ty (10 + ci) then xast1 nx L S E H n ce sl a j ty len d ov (.inr (.inr (.inl (some b)))) else none
                | _ => none) else none
            | _ => none)
          | .negSucc _ => none)
        else fI (lo + 1) fun c1 => xsplit pc L (fun z => w :: z :: .inr (.inr (.inl (some a))) :: S) E H n ce sl v lo lo c1 hi)
      else none
    | _ => none)
  | _ => none
noncomputable def xgf (nx : Nat) (L : XLc) (S : List XV) (E : XE) (H : XH) (n ce sl : Nat) (r1 r2 : Nat) : XO := match S with
  | .inr (.inr (.inl (some a))) :: S => (match hget H a with
    | some (.inl (ci, fs)) => bif Nat.beq ci r1 then (match xnth fs r2 with
      | some v => xgo nx L (v :: S) E H n ce sl
      | none => none) else none
    | _ => none)
  | _ => none
/-- may the value stand in a field of that kind: 0 int, 1 boolean, 2 a reference, 3 long -/
noncomputable def xfits (E : XE) (t : Nat) (v : XV) : Bool := match v with
  | .inl u => bif Nat.beq t 0 then true else bif Nat.beq t 1 then xrng E u fun p q => xle 0 p && xle q 1 else false
  | .inr (.inl _) => Nat.beq t 3
  | .inr (.inr (.inl _)) => Nat.beq t 2
  | .inr (.inr (.inr _)) => false
def xqkinds : List (List Nat) := [[2, 2, 0, 0, 0, 0, 0, 0, 1], [2, 0], [2, 2, 2, 2, 0, 0, 0, 0], [2, 2, 0, 0, 0, 0, 0, 0, 0, 0], [2, 2, 2, 2, 2, 2, 2, 2, 2, 2, 2, 0, 0, 0], [2, 2, 2, 0, 2, 2, 2, 0, 0, 0, 2, 2, 2, 2, 2, 2, 2, 2, 0, 0, 2, 2, 2, 2, 3]]
noncomputable def xqkind (c k : Nat) : Nat := match xnth xqkinds c with
  | some l => (match xnth l k with
    | some t => t
    | none => 9)
  | none => 9
noncomputable def xpf (nx : Nat) (L : XLc) (S : List XV) (E : XE) (H : XH) (n ce sl : Nat) (r1 r2 : Nat) : XO := match S with
  | v :: .inr (.inr (.inl (some a))) :: S => (match hget H a with
    | some (.inl (ci, fs)) => bif Nat.beq ci r1 && xfits E (xqkind r1 r2) v && Nat.blt r2 (xlen fs) then xset fs v r2 fun fs' => hset H a (.inl (ci, fs')) fun H' => xgo nx L S E H' n ce sl else none
    | _ => none)
  | _ => none
noncomputable def xnew (mc ms : Nat) (nx : Nat) (L : XLc) (S : List XV) (E : XE) (H : XH) (n ce sl : Nat) (sz : Nat) (c : XC) : XO :=
  fN (Nat.succ ce) fun ce' => fN (sl + sz) fun sl' => bif Nat.ble ce' mc && Nat.ble sl' ms then hpush H n c fun H' => fN (Nat.succ n) fun n' => xgo nx L (.inr (.inr (.inl (some n))) :: S) E H' n' ce' sl' else none
noncomputable def xnewa (mc ms : Nat) (nx : Nat) (L : XLc) (S : List XV) (E : XE) (H : XH) (n ce sl : Nat) (ty : Nat) (d : XV) : XO := match S with
  | .inl v :: S => xrng E v fun lo hi => bif xeq lo hi then (match lo with
      | .ofNat m => bif Nat.ble m 10000 then xnew mc ms nx L S E H n ce sl m (.inr (ty, m, d, [])) else none
      | .negSucc _ => none) else none
  | _ => none
/-- rows of an array of arrays: i of them wanting -/
noncomputable def xrows (m : Nat) (i : Nat) : Nat → XH → (Nat → XH → XO) → XO := Nat.rec (fun n H k => k n H) (fun _ ih n H k => hpush H n (.inr (0, m, .inl (0, 0, 0, 0), [])) fun H' => fN (Nat.succ n) fun n' => ih n' H' k) i
noncomputable def xrefs {β : Type} (n i : Nat) : List (Nat × XV) → (List (Nat × XV) → β) → β := Nat.rec (fun acc k => k acc) (fun j ih acc k => fN (n + 1 + j) fun q => ih ((j, .inr (.inr (.inl (some q)))) :: acc) k) i
noncomputable def xnewm (mc ms : Nat) (nx : Nat) (L : XLc) (S : List XV) (E : XE) (H : XH) (n ce sl : Nat) : XO := match S with
  | .inl v :: .inl u :: S => xrng E v fun lo hi => xrng E u fun p q => bif xeq lo hi && xeq p q then (match lo, p with
      | .ofNat m, .ofNat i => bif Nat.ble m 10000 && Nat.ble i 10000 then
          fN (ce + 1 + i) fun ce' => fN (sl + i + i * m) fun sl' => bif Nat.ble ce' mc && Nat.ble sl' ms then
            xrefs n i [] fun ov => hpush H n (.inr (2, i, .inr (.inr (.inl none)), ov)) fun H' => fN (Nat.succ n) fun n' => xrows m i n' H' fun n' H' => xgo nx L (.inr (.inr (.inl (some n))) :: S) E H' n' ce' sl'
          else none
        else none
      | _, _ => none) else none
  | _ => none
noncomputable def xtake (k : Nat) : List XV → List XV → (List XV → List XV → XO) → XO := Nat.rec (fun S acc f => f acc S) (fun _ ih S acc f => match S with
  | [] => none
  | v :: S => ih S (v :: acc) f) k
def xcatv (v : XV) : Nat := match v with
  | .inr (.inl _) => 2
  | _ => 1
noncomputable def xcat (S : List XV) : Nat := List.rec 0 (fun v _ ih => xcatv v + ih) S
/-- whose method it is: 0 nobody's; c + 1: the receiver is an object of the class c -/
noncomputable def xrecv (H : XH) (vk : Nat) (as : List XV) : Bool := Nat.casesOn vk true (fun c => match as with
  | .inr (.inr (.inl (some a))) :: _ => (match hget H a with
    | some (.inl (ci, _)) => Nat.beq ci c
    | _ => false)
  | _ => false)
def xaft (nx : Nat) (L : XLc) (S : List XV) (ce sl : Nat) (r : XRt) : XS := match r with
  | (some v, E, H, n, _, _) => (nx, L, v :: S, E, H, n, ce, sl)
  | (none, E, H, n, _, _) => (nx, L, S, E, H, n, ce, sl)
noncomputable def xcall (cal : Nat → List XV → XE → XH → Nat → Option (List XRt)) (mc ms cm cs : Nat) (nx : Nat) (L : XLc) (S : List XV) (E : XE) (H : XH) (n ce sl : Nat) (id na vk : Nat) : XO :=
  xtake na S [] fun as S => bif xrecv H vk as && Nat.ble (xcat S) 8 then
    fN (ce + cm) fun ce' => fN (sl + cs) fun sl' => bif Nat.ble ce' mc && Nat.ble sl' ms then
      (match cal id as E H n with
      | none => none
      | some rs => some (.inr (.inl (rs.map (xaft nx L S ce' sl')))))
    else none
  else none
noncomputable def xfv {β : Type} (v : XV) (k : XV → β) : β := match v with
  | .inl (a, b, c, d) => k (.inl (a, b, c, d))
  | .inr (.inl (a, b)) => k (.inr (.inl (a, b)))
  | .inr (.inr r) => k (.inr (.inr r))
noncomputable def xcopy (d d' : XV) (ov : List (Nat × XV)) (sp dp i : Nat) : List (Nat × XV) → (List (Nat × XV) → XO) → XO := Nat.rec (fun o k => k o) (fun j ih o k => match xelt d ov (sp + j) with
  | .inl (a, b, c, e) => fN (dp + j) fun q => xput d' o q (.inl (a, b, c, e)) fun o' => ih o' k
  | _ => none) i
noncomputable def xarr (nx : Nat) (L : XLc) (S : List XV) (E : XE) (H : XH) (n ce sl : Nat) : XO := match S with
  | .inl (.ofNat i, .ofNat i', _, _) :: .inl (.ofNat dp, .ofNat dp', _, _) :: .inr (.inr (.inl (some b))) :: .inl (.ofNat sp, .ofNat sp', _, _) :: .inr (.inr (.inl (some a))) :: S =>
    (match hget H a, hget H b with
    | some (.inr (0, len, d, ov)), some (.inr (0, len', d', ov')) =>
      bif Nat.beq i i' && Nat.beq dp dp' && Nat.beq sp sp' && Nat.ble (sp + i) len && Nat.ble (dp + i) len' && Nat.ble i 10000 && Nat.ble dp 10000 && Nat.ble sp 10000 && Nat.ble (xcat S) 8 then
        xcopy d d' ov sp dp i ov' fun o => hset H b (.inr (0, len', d', o)) fun H' => xgo nx L S E H' n ce sl
      else none
    | _, _ => none)
  | _ => none
noncomputable def xmin2 (mc ms : Nat) (nx : Nat) (L : XLc) (S : List XV) (E : XE) (H : XH) (n ce sl : Nat) : XO := match S with
  | .inl y :: .inl x :: S => xrng E x fun a b => xrng E y fun c d => bif xeq a b && xeq c d && Nat.ble (xcat S) 8 && Nat.ble ce mc && Nat.ble sl ms then (bif xlt c a then xgo nx L (.inl (c, c, 0, 0) :: S) E H n ce sl else xgo nx L (.inl (a, a, 0, 0) :: S) E H n ce sl) else none
  | _ => none
noncomputable def xii (nx : Nat) (L : XLc) (S : List XV) (E : XE) (H : XH) (n ce sl : Nat) (f : XVI → XVI → (XVI → XO) → XO) : XO := match S with
  | .inl y :: .inl x :: S => f x y fun v => xgo nx L (.inl v :: S) E H n ce sl
  | _ => none
noncomputable def xll (nx : Nat) (L : XLc) (S : List XV) (E : XE) (H : XH) (n ce sl : Nat) (f : Int × Int → Int × Int → (Int × Int → XO) → XO) : XO := match S with
  | .inr (.inl y) :: .inr (.inl x) :: S => f x y fun v => xgo nx L (.inr (.inl v) :: S) E H n ce sl
  | _ => none
def xqz : XVI := (0, 0, 0, 0)
def xpush (nx : Nat) (L : XLc) (S : List XV) (E : XE) (H : XH) (n ce sl : Nat) (v : Int) : XO := bif xle xqMIN v && xle v xqMAX then xgo nx L (.inl (v, v, 0, 0) :: S) E H n ce sl else none
abbrev XK : Type := (Nat → List XV → XE → XH → Nat → Option (List XRt)) → (Nat → Nat × Nat) → Nat → Nat → Nat → Nat → Int → Nat → Nat → Nat → Nat → Nat → XLc → List XV → XE → XH → Nat → Nat → Nat → XO
noncomputable def xo_push : XK := fun cal cst rt mc ms A B nx r1 r2 r3 pc L S E H n ce sl => xpush nx L S E H n ce sl B
noncomputable def xo_lconst : XK := fun cal cst rt mc ms A B nx r1 r2 r3 pc L S E H n ce sl => xgo nx L (.inr (.inl (.ofNat A, .ofNat A)) :: S) E H n ce sl
noncomputable def xo_ldc2 : XK := fun cal cst rt mc ms A B nx r1 r2 r3 pc L S E H n ce sl => xgo nx L (.inr (.inl (.ofNat r1, .ofNat r1)) :: S) E H n ce sl
noncomputable def xo_iload : XK := fun cal cst rt mc ms A B nx r1 r2 r3 pc L S E H n ce sl => xld nx L S E H n ce sl 0 (xnth L A)
noncomputable def xo_aload : XK := fun cal cst rt mc ms A B nx r1 r2 r3 pc L S E H n ce sl => xld nx L S E H n ce sl 2 (xnth L A)
noncomputable def xo_lload : XK := fun cal cst rt mc ms A B nx r1 r2 r3 pc L S E H n ce sl => xld nx L S E H n ce sl 1 (xnth L A)
noncomputable def xo_istore : XK := fun cal cst rt mc ms A B nx r1 r2 r3 pc L S E H n ce sl => xst nx L S E H n ce sl 0 A
noncomputable def xo_astore : XK := fun cal cst rt mc ms A B nx r1 r2 r3 pc L S E H n ce sl => xst nx L S E H n ce sl 2 A
noncomputable def xo_lstore : XK := fun cal cst rt mc ms A B nx r1 r2 r3 pc L S E H n ce sl => xst nx L S E H n ce sl 1 A
noncomputable def xo_iinc : XK := fun cal cst rt mc ms A B nx r1 r2 r3 pc L S E H n ce sl => match xnth L A with
    | some (some (.inl v)) => bif xle xqMIN B && xle B xqMAX then xiadd E v (B, B, 0, 0) fun w => xst1 nx L S E H n ce sl A (.inl w) else none
    | _ => none
noncomputable def xo_iadd : XK := fun cal cst rt mc ms A B nx r1 r2 r3 pc L S E H n ce sl => xii nx L S E H n ce sl (xiadd E)
noncomputable def xo_isub : XK := fun cal cst rt mc ms A B nx r1 r2 r3 pc L S E H n ce sl => xii nx L S E H n ce sl (xisub E)
noncomputable def xo_imul : XK := fun cal cst rt mc ms A B nx r1 r2 r3 pc L S E H n ce sl => xii nx L S E H n ce sl (xfold (fun a b => a * b) E)
noncomputable def xo_ishl : XK := fun cal cst rt mc ms A B nx r1 r2 r3 pc L S E H n ce sl => xii nx L S E H n ce sl (xfold (fun a b => a <<< (b &&& 31)) E)
noncomputable def xo_irem : XK := fun cal cst rt mc ms A B nx r1 r2 r3 pc L S E H n ce sl => (match S with
    | .inl y :: .inl x :: S => xrng E y fun c d => bif xlt 0 c then xfold (fun a b => a - a / b * b) E x y fun v => xgo nx L (.inl v :: S) E H n ce sl else none
    | _ => none)
noncomputable def xo_iand : XK := fun cal cst rt mc ms A B nx r1 r2 r3 pc L S E H n ce sl => xii nx L S E H n ce sl (xiand E)
noncomputable def xo_i2l : XK := fun cal cst rt mc ms A B nx r1 r2 r3 pc L S E H n ce sl => (match S with
    | .inl x :: S => xrng E x fun a b => xgo nx L (.inr (.inl (a, b)) :: S) E H n ce sl
    | _ => none)
noncomputable def xo_l2i : XK := fun cal cst rt mc ms A B nx r1 r2 r3 pc L S E H n ce sl => (match S with
    | .inr (.inl (a, b)) :: S => (match xl2i (a, b) with
      | (lo, hi, _, _) => fI lo fun lo => fI hi fun hi => xgo nx L (.inl (lo, hi, 0, 0) :: S) E H n ce sl)
    | _ => none)
noncomputable def xo_ladd : XK := fun cal cst rt mc ms A B nx r1 r2 r3 pc L S E H n ce sl => xll nx L S E H n ce sl (xlfold (fun a b => a + b))
noncomputable def xo_lmul : XK := fun cal cst rt mc ms A B nx r1 r2 r3 pc L S E H n ce sl => xll nx L S E H n ce sl (xlfold (fun a b => a * b))
noncomputable def xo_land : XK := fun cal cst rt mc ms A B nx r1 r2 r3 pc L S E H n ce sl => xll nx L S E H n ce sl (fun _ y k => match xland y with
    | (a, b) => k (a, b))
noncomputable def xo_lor : XK := fun cal cst rt mc ms A B nx r1 r2 r3 pc L S E H n ce sl => xll nx L S E H n ce sl (fun _ _ k => k (xqLMIN, xqLMAX))
noncomputable def xo_lshl : XK := fun cal cst rt mc ms A B nx r1 r2 r3 pc L S E H n ce sl => (match S with
    | .inl _ :: .inr (.inl _) :: S => xgo nx L (.inr (.inl (xqLMIN, xqLMAX)) :: S) E H n ce sl
    | _ => none)
noncomputable def xo_lshr : XK := fun cal cst rt mc ms A B nx r1 r2 r3 pc L S E H n ce sl => (match S with
    | .inl _ :: .inr (.inl _) :: S => xgo nx L (.inr (.inl (xqLMIN, xqLMAX)) :: S) E H n ce sl
    | _ => none)
noncomputable def xo_lcmp : XK := fun cal cst rt mc ms A B nx r1 r2 r3 pc L S E H n ce sl => (match S with
    | .inr (.inl y) :: .inr (.inl x) :: S => (match xlcmp x y with
      | (lo, hi, _, _) => fI lo fun lo => fI hi fun hi => xgo nx L (.inl (lo, hi, 0, 0) :: S) E H n ce sl)
    | _ => none)
noncomputable def xo_dup : XK := fun cal cst rt mc ms A B nx r1 r2 r3 pc L S E H n ce sl => (match S with
    | v :: S => bif Nat.beq (xcatv v) 1 then xgo nx L (v :: v :: S) E H n ce sl else none
    | _ => none)
noncomputable def xo_dup2 : XK := fun cal cst rt mc ms A B nx r1 r2 r3 pc L S E H n ce sl => (match S with
    | v :: w :: S => bif Nat.beq (xcatv v) 1 && Nat.beq (xcatv w) 1 then xgo nx L (v :: w :: v :: w :: S) E H n ce sl else none
    | _ => none)
noncomputable def xo_pop : XK := fun cal cst rt mc ms A B nx r1 r2 r3 pc L S E H n ce sl => (match S with
    | v :: S => bif Nat.beq (xcatv v) 1 then xgo nx L S E H n ce sl else none
    | _ => none)
noncomputable def xo_goto : XK := fun cal cst rt mc ms A B nx r1 r2 r3 pc L S E H n ce sl => xgo r1 L S E H n ce sl
noncomputable def xo_ifc : XK := fun cal cst rt mc ms A B nx r1 r2 r3 pc L S E H n ce sl => match S with
    | .inl x :: S => xbr nx r1 L S H n ce sl E (xtest A E x xqz)
    | _ => none
noncomputable def xo_ificmp : XK := fun cal cst rt mc ms A B nx r1 r2 r3 pc L S E H n ce sl => match S with
    | .inl y :: .inl x :: S => xbr nx r1 L S H n ce sl E (xtest A E x y)
    | _ => none
noncomputable def xo_tsw : XK := fun cal cst rt mc ms A B nx r1 r2 r3 pc L S E H n ce sl => match S with
    | .inl v :: S => (match xnth xqsw r1 with
      | some (df, lo, hi, offs) => xsw pc L S E H n ce sl v df lo hi offs
      | none => none)
    | _ => none
noncomputable def xo_new : XK := fun cal cst rt mc ms A B nx r1 r2 r3 pc L S E H n ce sl => (match xnth [9, 2, 8, 10, 14, 25] r1 with
    | some sz => xnew mc ms nx L S E H n ce sl sz (.inl (r1, xqdef r1))
    | none => none)
noncomputable def xo_newarrayint : XK := fun cal cst rt mc ms A B nx r1 r2 r3 pc L S E H n ce sl => xnewa mc ms nx L S E H n ce sl 0 (.inl (0, 0, 0, 0))
noncomputable def xo_newarrayboolean : XK := fun cal cst rt mc ms A B nx r1 r2 r3 pc L S E H n ce sl => xnewa mc ms nx L S E H n ce sl 1 (.inl (0, 0, 0, 0))
noncomputable def xo_anewarray : XK := fun cal cst rt mc ms A B nx r1 r2 r3 pc L S E H n ce sl => xnewa mc ms nx L S E H n ce sl (10 + r1) (.inr (.inr (.inl none)))
noncomputable def xo_multianewarray : XK := fun cal cst rt mc ms A B nx r1 r2 r3 pc L S E H n ce sl => xnewm mc ms nx L S E H n ce sl
noncomputable def xo_getfield : XK := fun cal cst rt mc ms A B nx r1 r2 r3 pc L S E H n ce sl => xgf nx L S E H n ce sl r1 r2
noncomputable def xo_putfield : XK := fun cal cst rt mc ms A B nx r1 r2 r3 pc L S E H n ce sl => xpf nx L S E H n ce sl r1 r2
noncomputable def xo_getstatic : XK := fun cal cst rt mc ms A B nx r1 r2 r3 pc L S E H n ce sl => xgo nx L (.inr (.inr (.inr 1)) :: S) E H n ce sl
noncomputable def xo_iaload : XK := fun cal cst rt mc ms A B nx r1 r2 r3 pc L S E H n ce sl => xald nx pc L S E H n ce sl 0
noncomputable def xo_baload : XK := fun cal cst rt mc ms A B nx r1 r2 r3 pc L S E H n ce sl => xald nx pc L S E H n ce sl 1
noncomputable def xo_aaload : XK := fun cal cst rt mc ms A B nx r1 r2 r3 pc L S E H n ce sl => xald nx pc L S E H n ce sl 2
noncomputable def xo_iastore : XK := fun cal cst rt mc ms A B nx r1 r2 r3 pc L S E H n ce sl => xast nx pc L S E H n ce sl 0
noncomputable def xo_bastore : XK := fun cal cst rt mc ms A B nx r1 r2 r3 pc L S E H n ce sl => xast nx pc L S E H n ce sl 1
noncomputable def xo_aastore : XK := fun cal cst rt mc ms A B nx r1 r2 r3 pc L S E H n ce sl => xast nx pc L S E H n ce sl 2
noncomputable def xo_arraylength : XK := fun cal cst rt mc ms A B nx r1 r2 r3 pc L S E H n ce sl => (match S with
    | .inr (.inr (.inr 0)) :: S => (match xnth E 5 with
      | some (a, b) => bif xle 0 a && xle b 5 then xgo nx L (.inl (a, b, 6, 0) :: S) E H n ce sl else none
      | none => none)
    | _ => none)
noncomputable def xo_invokespecial : XK := fun cal cst rt mc ms A B nx r1 r2 r3 pc L S E H n ce sl => bif Nat.beq r1 1000 then (match S with
      | .inr (.inr (.inl (some _))) :: S => bif Nat.ble (xcat S) 8 then xgo nx L S E H n ce sl else none
      | _ => none) else (match cst r1 with
      | (cm, cs) => xcall cal mc ms cm cs nx L S E H n ce sl r1 r2 r3)
noncomputable def xo_invokevirtual : XK := fun cal cst rt mc ms A B nx r1 r2 r3 pc L S E H n ce sl => (match cst r1 with
      | (cm, cs) => xcall cal mc ms cm cs nx L S E H n ce sl r1 r2 r3)
noncomputable def xo_invokestatic : XK := fun cal cst rt mc ms A B nx r1 r2 r3 pc L S E H n ce sl => bif Nat.beq r1 1001 then xmin2 mc ms nx L S E H n ce sl else bif Nat.beq r1 1002 then xarr nx L S E H n ce sl else (match cst r1 with
      | (cm, cs) => xcall cal mc ms cm cs nx L S E H n ce sl r1 r2 0)
noncomputable def xo_ireturn : XK := fun cal cst rt mc ms A B nx r1 r2 r3 pc L S E H n ce sl => bif Nat.ble ce mc && Nat.ble sl ms then (match S with
    | [.inl v] => bif Nat.beq rt 1 then some (.inr (.inr (some (.inl v), E, H, n, ce, sl))) else bif Nat.beq rt 2 then xrng E v fun p q => bif xle 0 p && xle q 1 then some (.inr (.inr (some (.inl v), E, H, n, ce, sl))) else none else none
    | _ => none) else none
noncomputable def xo_lreturn : XK := fun cal cst rt mc ms A B nx r1 r2 r3 pc L S E H n ce sl => bif Nat.ble ce mc && Nat.ble sl ms then (match S with
    | [.inr (.inl v)] => bif Nat.beq rt 3 then some (.inr (.inr (some (.inr (.inl v)), E, H, n, ce, sl))) else none
    | _ => none) else none
noncomputable def xo_ret : XK := fun cal cst rt mc ms A B nx r1 r2 r3 pc L S E H n ce sl => bif Nat.ble ce mc && Nat.ble sl ms then (match S with
    | [] => bif Nat.beq rt 0 then some (.inr (.inr (none, E, H, n, ce, sl))) else none
    | _ => none) else none
noncomputable def xo_none : XK := fun _ _ _ _ _ _ _ _ _ _ _ _ _ _ _ _ _ _ _ => none
noncomputable def xd0 (op : Nat) : XK := bif Nat.beq op 0 then xo_push else bif Nat.beq op 1 then xo_lconst else bif Nat.beq op 2 then xo_ldc2 else bif Nat.beq op 3 then xo_iload else bif Nat.beq op 4 then xo_aload else bif Nat.beq op 5 then xo_lload else bif Nat.beq op 6 then xo_istore else bif Nat.beq op 7 then xo_astore else xo_none
noncomputable def xd1 (op : Nat) : XK := bif Nat.beq op 8 then xo_lstore else bif Nat.beq op 9 then xo_iinc else bif Nat.beq op 10 then xo_iadd else bif Nat.beq op 11 then xo_isub else bif Nat.beq op 12 then xo_imul else bif Nat.beq op 13 then xo_ishl else bif Nat.beq op 14 then xo_irem else bif Nat.beq op 15 then xo_iand else xo_none
noncomputable def xd2 (op : Nat) : XK := bif Nat.beq op 16 then xo_i2l else bif Nat.beq op 17 then xo_l2i else bif Nat.beq op 18 then xo_ladd else bif Nat.beq op 19 then xo_lmul else bif Nat.beq op 20 then xo_land else bif Nat.beq op 21 then xo_lor else bif Nat.beq op 22 then xo_lshl else bif Nat.beq op 23 then xo_lshr else xo_none
noncomputable def xd3 (op : Nat) : XK := bif Nat.beq op 24 then xo_lcmp else bif Nat.beq op 25 then xo_dup else bif Nat.beq op 26 then xo_dup2 else bif Nat.beq op 27 then xo_pop else bif Nat.beq op 28 then xo_goto else bif Nat.beq op 29 then xo_ifc else bif Nat.beq op 30 then xo_ificmp else bif Nat.beq op 31 then xo_tsw else xo_none
noncomputable def xd4 (op : Nat) : XK := bif Nat.beq op 32 then xo_new else bif Nat.beq op 33 then xo_newarrayint else bif Nat.beq op 34 then xo_newarrayboolean else bif Nat.beq op 35 then xo_anewarray else bif Nat.beq op 36 then xo_multianewarray else bif Nat.beq op 37 then xo_getfield else bif Nat.beq op 38 then xo_putfield else bif Nat.beq op 39 then xo_getstatic else xo_none
noncomputable def xd5 (op : Nat) : XK := bif Nat.beq op 40 then xo_iaload else bif Nat.beq op 41 then xo_baload else bif Nat.beq op 42 then xo_aaload else bif Nat.beq op 43 then xo_iastore else bif Nat.beq op 44 then xo_bastore else bif Nat.beq op 45 then xo_aastore else bif Nat.beq op 46 then xo_arraylength else bif Nat.beq op 47 then xo_invokespecial else xo_none
noncomputable def xd6 (op : Nat) : XK := bif Nat.beq op 48 then xo_invokevirtual else bif Nat.beq op 49 then xo_invokestatic else bif Nat.beq op 50 then xo_ireturn else bif Nat.beq op 51 then xo_lreturn else bif Nat.beq op 52 then xo_ret else xo_none
noncomputable def xdisp (op : Nat) : XK := bif Nat.blt op 8 then xd0 op else bif Nat.blt op 16 then xd1 op else bif Nat.blt op 24 then xd2 op else bif Nat.blt op 32 then xd3 op else bif Nat.blt op 40 then xd4 op else bif Nat.blt op 48 then xd5 op else xd6 op
noncomputable def xtab (T : List (List XI)) (pc : Nat) : Option XI := match xnth T (pc / 16) with
  | none => none
  | some l => xnth l (pc % 16)
noncomputable def xstep (cal : Nat → List XV → XE → XH → Nat → Option (List XRt)) (cst : Nat → Nat × Nat) (T : List (List XI)) (rt mc ms : Nat) (x : XS) : XO := match x with
  | (pc, L, S, E, H, n, ce, sl) => (match xtab T pc with
    | none => none
    | some (op, A, B, nx, r1, r2, r3) => xdisp op cal cst rt mc ms A B nx r1 r2 r3 pc L S E H n ce sl)
noncomputable def xloop (stp : XS → XO) (f : Nat) : List XS → List XRt → Option (List XRt) := Nat.rec (fun _ _ => none) (fun _ ih ws acc => match ws with
  | [] => some acc
  | x :: ws' => (match stp x with
    | none => none
    | some (.inl y) => ih (y :: ws') acc
    | some (.inr (.inl ys)) => xapp ys ws' fun w => ih w acc
    | some (.inr (.inr r)) => ih ws' (r :: acc))) f
noncomputable def xlocs (as : List XV) : List (Option XV) := List.rec [] (fun v _ ih => match v with
  | .inr (.inl w) => some (.inr (.inl w)) :: none :: ih
  | v => some v :: ih) as
noncomputable def xpad (L : XLc) (k : Nat) (f : XLc → Option (List XRt)) : Option (List XRt) := xapp L (List.replicate k none) f
