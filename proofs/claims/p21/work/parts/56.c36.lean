/-! The text and the reading of it. -/
/-- where a run of such bytes ends -/
def rto (f : Int → Bool) (T : Int → Int) (L : Int) : Nat → Int → Int
  | 0, p => p
  | n + 1, p => if p < L ∧ f (T p) = true then rto f T L n (p + 1) else p
def rend (f : Int → Bool) (T : Int → Int) (L p : Int) : Int := rto f T L (L - p).toNat p
theorem rend_go {f : Int → Bool} {T : Int → Int} {L p : Int} (h : p < L) (hf : f (T p) = true) : rend f T L p = rend f T L (p + 1) := by
  unfold rend
  rw [show (L - p).toNat = (L - (p + 1)).toNat + 1 by omega]
  show (if p < L ∧ f (T p) = true then _ else _) = _
  rw [if_pos ⟨h, hf⟩]
theorem rend_at {f : Int → Bool} {T : Int → Int} {L p : Int} (h : ¬ (p < L ∧ f (T p) = true)) : rend f T L p = p := by
  unfold rend
  match (L - p).toNat with
  | 0 => rfl
  | n + 1 =>
    show (if p < L ∧ f (T p) = true then _ else p) = p
    rw [if_neg h]
theorem rto_r {f : Int → Bool} {T : Int → Int} {L : Int} : ∀ (n : Nat) (p : Int), p ≤ rto f T L n p ∧ (p ≤ L → rto f T L n p ≤ L)
  | 0, p => by unfold rto; omega
  | n + 1, p => by
    have := rto_r (f := f) (T := T) (L := L) n (p + 1)
    unfold rto
    split <;> omega
theorem rend_r {f : Int → Bool} {T : Int → Int} {L p : Int} (h : p ≤ L) : p ≤ rend f T L p ∧ rend f T L p ≤ L := ⟨(rto_r _ _).1, (rto_r _ _).2 h⟩
def isSp (b : Int) : Bool := decide (b = 32)
def isLet (b : Int) : Bool := decide (97 ≤ b ∧ b ≤ 122)
def isFig (b : Int) : Bool := decide (48 ≤ b ∧ b ≤ 57)
def sgOf (c : Int) : Int := if c = 60 then 0 else if c = 62 then 1 else if c = 43 then 2 else if c = 45 then 3 else if c = 46 then 4 else if c = 33 then 5 else if c = 63 then 6 else if c = 40 then 7 else if c = 41 then 8 else if c = 119 then 9 else if c = 110 then 10 else if c = 108 then 11 else if c = 101 then 12 else if c = 97 then 13 else -1
def isSg (b : Int) : Bool := decide (sgOf b ≠ -1)
theorem sgOf_r (c : Int) : -1 ≤ sgOf c ∧ sgOf c ≤ 13 := by unfold sgOf; (repeat' split) <;> omega
/-- the letters' number -/
def lcode (T : Int → Int) (p : Int) : Nat → Int
  | 0 => 0
  | n + 1 => 32 * lcode T p n + T (p + n) - 96
def mword (c : Int) : Int := if c = 659100852 then 0 else if c = 24170674 then 1 else if c = 13358 then 2 else if c = 635184 then 3 else -1
def lwd (T : Int → Int) (L p : Int) : Int := mword (lcode T p (min (rend isLet T L p - p) 7).toNat)
def nv (T : Int → Int) (s d : Int) : Int := if d ≤ s then 0 else if d = s + 1 then T s - 48 else 10 * (T s - 48) + T (s + 1) - 48
/-- a number from p on: its fault, what it is, where it ends -/
def nmS (T : Int → Int) (L p : Int) : Int := rend isSp T L p
def nmD (T : Int → Int) (L p : Int) : Int := if nmS T L p = L then L else rend isFig T L (nmS T L p)
def nmF (T : Int → Int) (L p : Int) : Int := if nmS T L p = L then L else if nmD T L p = nmS T L p ∨ 2 < nmD T L p - nmS T L p then nmS T L p else -1
def nmV (T : Int → Int) (L p : Int) : Int := if nmS T L p = L then -1 else nv T (nmS T L p) (nmD T L p)
/-- a quoted slip from p on -/
def sqG (T : Int → Int) (L p : Int) : Int := rend isSg T L (nmS T L p + 1)
abbrev sqOk (T : Int → Int) (L p : Int) : Prop := T (nmS T L p) = 34 ∧ sqG T L p < L ∧ T (sqG T L p) = 34 ∧ 1 ≤ sqG T L p - nmS T L p - 1 ∧ sqG T L p - nmS T L p - 1 ≤ 24
def sqF (T : Int → Int) (L p : Int) : Int := if nmS T L p = L then L else if sqOk T L p then -1 else nmS T L p
/-- the end of an item from p on -/
def enF (T : Int → Int) (L p : Int) : Int := if nmS T L p = L ∨ T (nmS T L p) ≠ 59 then nmS T L p else -1
/-- an item that starts at p: where its last part ends, where its fault is, where the next begins -/
abbrev itBad (T : Int → Int) (L it p : Int) : Prop := lwd T L p = -1 ∨ (lwd T L p = 0 ∧ it ≠ 0) ∨ (lwd T L p ≠ 0 ∧ it = 0)
def itE (T : Int → Int) (L p : Int) : Int := rend isLet T L p
def itQ (T : Int → Int) (L p : Int) : Int := if lwd T L p = 1 ∨ lwd T L p = 2 then nmD T L (nmD T L (itE T L p)) else if lwd T L p = 3 then sqG T L (nmD T L (itE T L p)) + 1 else nmD T L (itE T L p)
def itF2 (T : Int → Int) (L p : Int) : Int := if lwd T L p = 1 ∨ lwd T L p = 2 then nmF T L (nmD T L (itE T L p)) else if lwd T L p = 3 then sqF T L (nmD T L (itE T L p)) else -1
def itF (T : Int → Int) (L it p : Int) : Int := if itBad T L it p then p else if nmF T L (itE T L p) ≠ -1 then nmF T L (itE T L p) else if itF2 T L p ≠ -1 then itF2 T L p else enF T L (itQ T L p)
def itN (T : Int → Int) (L p : Int) : Int := nmS T L (itQ T L p) + 1
/-- where item i begins, behind the spaces -/
def ips (T : Int → Int) (L : Int) : Nat → Int
  | 0 => nmS T L 0
  | i + 1 => nmS T L (itN T L (ips T L i))
theorem nmS_r {T : Int → Int} {L p : Int} (h : p ≤ L) : p ≤ nmS T L p ∧ nmS T L p ≤ L := rend_r h
theorem nmD_r {T : Int → Int} {L p : Int} (h : p ≤ L) : p ≤ nmD T L p ∧ nmD T L p ≤ L := by
  have := nmS_r (T := T) h
  unfold nmD
  split
  · omega
  · have := rend_r (f := isFig) (T := T) this.2; omega
theorem lcode_r {T : Int → Int} {p : Int} : ∀ n : Nat, n ≤ 7 → (∀ k : Nat, k < n → 97 ≤ T (p + k) ∧ T (p + k) ≤ 122) → 0 ≤ lcode T p n ∧ lcode T p n < 32 ^ n
  | 0, _, _ => by unfold lcode; omega
  | n + 1, h, hk => by
    have ih := lcode_r n (by omega) (fun k a => hk k (by omega))
    have := hk n (by omega)
    unfold lcode
    constructor
    · omega
    · have e : ((32 : Int) ^ (n + 1)) = 32 ^ n * 32 := Int.pow_succ ..
      omega



theorem yl_of {a : Int} (h : -4611686018427387904 ≤ a ∧ a ≤ 4611686018427387904) : (Int64.ofInt a).toInt = a := by
  rw [Int64.toInt_ofInt]
  exact Int.bmod_eq_of_le (by show -(2 ^ 64 / 2 : Int) ≤ a; omega) (by show a < (2 ^ 64 + 1) / 2; omega)
theorem yl_bm {a : Int} (h : -4611686018427387904 ≤ a ∧ a ≤ 4611686018427387904) : a.bmod (2 ^ 64) = a :=
  Int.bmod_eq_of_le (by show -(2 ^ 64 / 2 : Int) ≤ a; omega) (by show a < (2 ^ 64 + 1) / 2; omega)
theorem ylmul_e {a b : Int} (ha : -4611686018427387904 ≤ a ∧ a ≤ 4611686018427387904) (hb : -4611686018427387904 ≤ b ∧ b ≤ 4611686018427387904) (h : -4611686018427387904 ≤ a * b ∧ a * b ≤ 4611686018427387904) : ylmul a b = a * b := by
  unfold ylmul
  rw [Int64.toInt_mul, yl_of ha, yl_of hb, yl_bm h]
theorem yladd_e {a b : Int} (ha : -4611686018427387904 ≤ a ∧ a ≤ 4611686018427387904) (hb : -4611686018427387904 ≤ b ∧ b ≤ 4611686018427387904) (h : -4611686018427387904 ≤ a + b ∧ a + b ≤ 4611686018427387904) : yladd a b = a + b := by
  unfold yladd
  rw [Int64.toInt_add, yl_of ha, yl_of hb, yl_bm h]
theorem ylsub_e {a b : Int} (ha : -4611686018427387904 ≤ a ∧ a ≤ 4611686018427387904) (hb : -4611686018427387904 ≤ b ∧ b ≤ 4611686018427387904) (h : -4611686018427387904 ≤ a - b ∧ a - b ≤ 4611686018427387904) : ylsub a b = a - b := by
  unfold ylsub
  rw [Int64.toInt_sub, yl_of ha, yl_of hb, yl_bm h]
section YLSW
variable {g : Launch × XG × va_G} {k pc A nx r1 r2 r3 : Nat} {B v df : Int} {L : YL} {S : List YV} {σ : YS} {P : Option YV → YS → Prop}
theorem y_lsw {ps : List (Int × Int)} {t : Nat} (hT : ytab k pc = some (59, A, B, nx, r1, r2, r3)) (hs : xqlw[r1]? = some (df, ps)) (ho : (pc : Int) + Op.lookupswitch.offset ps df v = t) (h : YW g k t L S σ P) : YW g k pc L ((0, v) :: S) σ P := y_step hT rfl ⟨v, S, df, ps, t, rfl, hs, ho, h⟩
end YLSW
theorem m_signOf {g : Launch × XG × va_G} {σ : YS} {c : Int} : YI g 122 [(0, c)] σ (fun b σ' => σ = σ' ∧ sgOf c = b) := by
  refine y_start rfl rfl rfl ?_
  refine y_iload rfl rfl ?_
  by_cases e33 : c = 33
  · subst e33
    refine y_lsw (t := 134) rfl rfl rfl ?_
    refine y_push rfl ?_
    refine y_iret rfl rfl ⟨_, rfl, ?_⟩
    exact ⟨rfl, by unfold sgOf; rfl⟩
  by_cases e40 : c = 40
  · subst e40
    refine y_lsw (t := 139) rfl rfl rfl ?_
    refine y_push rfl ?_
    refine y_iret rfl rfl ⟨_, rfl, ?_⟩
    exact ⟨rfl, by unfold sgOf; rfl⟩
  by_cases e41 : c = 41
  · subst e41
    refine y_lsw (t := 142) rfl rfl rfl ?_
    refine y_push rfl ?_
    refine y_iret rfl rfl ⟨_, rfl, ?_⟩
    exact ⟨rfl, by unfold sgOf; rfl⟩
  by_cases e43 : c = 43
  · subst e43
    refine y_lsw (t := 128) rfl rfl rfl ?_
    refine y_push rfl ?_
    refine y_iret rfl rfl ⟨_, rfl, ?_⟩
    exact ⟨rfl, by unfold sgOf; rfl⟩
  by_cases e45 : c = 45
  · subst e45
    refine y_lsw (t := 130) rfl rfl rfl ?_
    refine y_push rfl ?_
    refine y_iret rfl rfl ⟨_, rfl, ?_⟩
    exact ⟨rfl, by unfold sgOf; rfl⟩
  by_cases e46 : c = 46
  · subst e46
    refine y_lsw (t := 132) rfl rfl rfl ?_
    refine y_push rfl ?_
    refine y_iret rfl rfl ⟨_, rfl, ?_⟩
    exact ⟨rfl, by unfold sgOf; rfl⟩
  by_cases e60 : c = 60
  · subst e60
    refine y_lsw (t := 124) rfl rfl rfl ?_
    refine y_push rfl ?_
    refine y_iret rfl rfl ⟨_, rfl, ?_⟩
    exact ⟨rfl, by unfold sgOf; rfl⟩
  by_cases e62 : c = 62
  · subst e62
    refine y_lsw (t := 126) rfl rfl rfl ?_
    refine y_push rfl ?_
    refine y_iret rfl rfl ⟨_, rfl, ?_⟩
    exact ⟨rfl, by unfold sgOf; rfl⟩
  by_cases e63 : c = 63
  · subst e63
    refine y_lsw (t := 136) rfl rfl rfl ?_
    refine y_push rfl ?_
    refine y_iret rfl rfl ⟨_, rfl, ?_⟩
    exact ⟨rfl, by unfold sgOf; rfl⟩
  by_cases e97 : c = 97
  · subst e97
    refine y_lsw (t := 157) rfl rfl rfl ?_
    refine y_push rfl ?_
    refine y_iret rfl rfl ⟨_, rfl, ?_⟩
    exact ⟨rfl, by unfold sgOf; rfl⟩
  by_cases e101 : c = 101
  · subst e101
    refine y_lsw (t := 154) rfl rfl rfl ?_
    refine y_push rfl ?_
    refine y_iret rfl rfl ⟨_, rfl, ?_⟩
    exact ⟨rfl, by unfold sgOf; rfl⟩
  by_cases e108 : c = 108
  · subst e108
    refine y_lsw (t := 151) rfl rfl rfl ?_
    refine y_push rfl ?_
    refine y_iret rfl rfl ⟨_, rfl, ?_⟩
    exact ⟨rfl, by unfold sgOf; rfl⟩
  by_cases e110 : c = 110
  · subst e110
    refine y_lsw (t := 148) rfl rfl rfl ?_
    refine y_push rfl ?_
    refine y_iret rfl rfl ⟨_, rfl, ?_⟩
    exact ⟨rfl, by unfold sgOf; rfl⟩
  by_cases e119 : c = 119
  · subst e119
    refine y_lsw (t := 145) rfl rfl rfl ?_
    refine y_push rfl ?_
    refine y_iret rfl rfl ⟨_, rfl, ?_⟩
    exact ⟨rfl, by unfold sgOf; rfl⟩
  refine y_lsw (t := 160) rfl rfl (by rw [Op.lookupswitch.offset_cons, if_neg (by omega)]; rw [Op.lookupswitch.offset_cons, if_neg (by omega)]; rw [Op.lookupswitch.offset_cons, if_neg (by omega)]; rw [Op.lookupswitch.offset_cons, if_neg (by omega)]; rw [Op.lookupswitch.offset_cons, if_neg (by omega)]; rw [Op.lookupswitch.offset_cons, if_neg (by omega)]; rw [Op.lookupswitch.offset_cons, if_neg (by omega)]; rw [Op.lookupswitch.offset_cons, if_neg (by omega)]; rw [Op.lookupswitch.offset_cons, if_neg (by omega)]; rw [Op.lookupswitch.offset_cons, if_neg (by omega)]; rw [Op.lookupswitch.offset_cons, if_neg (by omega)]; rw [Op.lookupswitch.offset_cons, if_neg (by omega)]; rw [Op.lookupswitch.offset_cons, if_neg (by omega)]; rw [Op.lookupswitch.offset_cons, if_neg (by omega)]; rfl) ?_
  refine y_push rfl ?_
  refine y_iret rfl rfl ⟨_, rfl, ?_⟩
  exact ⟨rfl, by unfold sgOf; rw [if_neg (by omega), if_neg (by omega), if_neg (by omega), if_neg (by omega), if_neg (by omega), if_neg (by omega), if_neg (by omega), if_neg (by omega), if_neg (by omega), if_neg (by omega), if_neg (by omega), if_neg (by omega), if_neg (by omega), if_neg (by omega)]⟩
theorem m_wordOf {g : Launch × XG × va_G} {σ : YS} {c : Int}  : YI g 121 [(1, c)] σ (fun b σ' => σ = σ' ∧ mword c = b) := by
  refine y_start rfl rfl rfl ?_
  refine y_lload rfl rfl ?_
  refine y_ldc2 (v := 659100852) rfl rfl ?_
  refine y_lcmp rfl rfl ?_
  refine y_ifne rfl (fun q5 => ?_) (fun q5 => ?_)
  · replace q5 : c ≠ 659100852 := ylc_ne0.mp q5
    refine y_lload rfl rfl ?_
    refine y_ldc2 (v := 24170674) rfl rfl ?_
    refine y_lcmp rfl rfl ?_
    refine y_ifne rfl (fun q17 => ?_) (fun q17 => ?_)
    · replace q17 : c ≠ 24170674 := ylc_ne0.mp q17
      refine y_lload rfl rfl ?_
      refine y_ldc2 (v := 13358) rfl rfl ?_
      refine y_lcmp rfl rfl ?_
      refine y_ifne rfl (fun q29 => ?_) (fun q29 => ?_)
      · replace q29 : c ≠ 13358 := ylc_ne0.mp q29
        refine y_lload rfl rfl ?_
        refine y_ldc2 (v := 635184) rfl rfl ?_
        refine y_lcmp rfl rfl ?_
        refine y_ifne rfl (fun q41 => ?_) (fun q41 => ?_)
        · replace q41 : c ≠ 635184 := ylc_ne0.mp q41
          refine y_push rfl ?_
          refine y_iret rfl rfl ⟨_, rfl, ?_⟩
          exact ⟨rfl, by unfold mword; (repeat' split) <;> first | rfl | omega⟩
        · replace q41 : c = 635184 := ylc_ne1.mp q41
          refine y_push rfl ?_
          refine y_goto rfl ?_
          refine y_iret rfl rfl ⟨_, rfl, ?_⟩
          exact ⟨rfl, by unfold mword; (repeat' split) <;> first | rfl | omega⟩
      · replace q29 : c = 13358 := ylc_ne1.mp q29
        refine y_push rfl ?_
        refine y_goto rfl ?_
        refine y_iret rfl rfl ⟨_, rfl, ?_⟩
        exact ⟨rfl, by unfold mword; (repeat' split) <;> first | rfl | omega⟩
    · replace q17 : c = 24170674 := ylc_ne1.mp q17
      refine y_push rfl ?_
      refine y_goto rfl ?_
      refine y_iret rfl rfl ⟨_, rfl, ?_⟩
      exact ⟨rfl, by unfold mword; (repeat' split) <;> first | rfl | omega⟩
  · replace q5 : c = 659100852 := ylc_ne1.mp q5
    refine y_push rfl ?_
    refine y_goto rfl ?_
    refine y_iret rfl rfl ⟨_, rfl, ?_⟩
    exact ⟨rfl, by unfold mword; (repeat' split) <;> first | rfl | omega⟩
theorem lm_isEnd {g : Launch × XG × va_G} {σ : YS} {T : Int → Int} {L : Int} {p : Int} (hL : σ 547 3 = L) (hT : ∀ k, 0 ≤ k → k < L → σ 550 k = T k) (hTr : ∀ k, 0 ≤ k → k < L → 0 ≤ T k ∧ T k ≤ 255) (hl : 0 ≤ L ∧ L ≤ 200) (ha : σ 547 8 = p) (hp : 0 ≤ p ∧ p ≤ L) : ∀ (nn : Nat) (q : Int), L - q < (nn : Int) → (p ≤ q ∧ q ≤ L) → (rend isSp T L q = rend isSp T L p) → YW g 47 0 [some (2, 547)] [] (yset σ 547 8 q) (fun rv σ' => ∃ b, rv = some (0, b) ∧ (yb (nmS T L p = L) = b ∧ yset σ 547 8 (nmS T L p) = σ')) := by
  intro nn
  induction nn with
  | zero =>
    intro q hn h0 h1
    exfalso
    omega
  | succ nn ih =>
    intro q hn h0 h1
    refine y_aload rfl rfl rfl ?_
    refine y_gfi (v := q) rfl rfl (by decide) rfl (by decide) rfl (yeq _ _ _ _) ?_
    refine y_aload rfl rfl rfl ?_
    refine y_gfi (v := (σ 547 3)) rfl rfl (by decide) rfl (by decide) rfl (yne (by omega) rfl) ?_
    refine y_icge rfl (fun q8 => ?_) (fun q8 => ?_)
    · skip
      refine y_aload rfl rfl rfl ?_
      refine y_gfi (v := q) rfl rfl (by decide) rfl (by decide) rfl (yeq _ _ _ _) ?_
      refine y_aload rfl rfl rfl ?_
      refine y_gfi (v := (σ 547 3)) rfl rfl (by decide) rfl (by decide) rfl (yne (by omega) rfl) ?_
      refine y_icne rfl (fun q46 => ?_) (fun q46 => ?_)
      · skip
        refine y_push rfl ?_
        refine y_zret rfl rfl (by decide) ⟨_, rfl, ?_⟩
        have e : rend isSp T L q = q := rend_at (fun z => by have z2 := z.2; unfold isSp at z2; have := of_decide_eq_true z2; first | omega | (have := hT q (by omega) (by omega); omega))
        exact ⟨by unfold nmS; rw [← h1, e]; unfold yb; (repeat' split) <;> omega, by unfold nmS; rw [← h1, e]⟩
      · skip
        refine y_push rfl ?_
        refine y_goto rfl ?_
        refine y_zret rfl rfl (by decide) ⟨_, rfl, ?_⟩
        have e : rend isSp T L q = q := rend_at (fun z => by have z2 := z.2; unfold isSp at z2; have := of_decide_eq_true z2; first | omega | (have := hT q (by omega) (by omega); omega))
        exact ⟨by unfold nmS; rw [← h1, e]; unfold yb; (repeat' split) <;> omega, by unfold nmS; rw [← h1, e]⟩
    · skip
      refine y_aload rfl rfl rfl ?_
      refine y_gfr (t := 550) rfl rfl (by decide) rfl (by decide) ?_
      refine y_aload rfl rfl rfl ?_
      refine y_gfi (v := q) rfl rfl (by decide) rfl (by decide) rfl (yeq _ _ _ _) ?_
      refine y_iald (v := (σ 550 q)) (n := 200) rfl rfl (by decide) rfl (by omega) (yne (by omega) rfl) ?_
      refine y_push rfl ?_
      refine y_icne rfl (fun q22 => ?_) (fun q22 => ?_)
      · skip
        refine y_aload rfl rfl rfl ?_
        refine y_gfi (v := q) rfl rfl (by decide) rfl (by decide) rfl (yeq _ _ _ _) ?_
        refine y_aload rfl rfl rfl ?_
        refine y_gfi (v := (σ 547 3)) rfl rfl (by decide) rfl (by decide) rfl (yne (by omega) rfl) ?_
        refine y_icne rfl (fun q46 => ?_) (fun q46 => ?_)
        · skip
          refine y_push rfl ?_
          refine y_zret rfl rfl (by decide) ⟨_, rfl, ?_⟩
          have e : rend isSp T L q = q := rend_at (fun z => by have z2 := z.2; unfold isSp at z2; have := of_decide_eq_true z2; first | omega | (have := hT q (by omega) (by omega); omega))
          exact ⟨by unfold nmS; rw [← h1, e]; unfold yb; (repeat' split) <;> omega, by unfold nmS; rw [← h1, e]⟩
        · skip
          refine y_push rfl ?_
          refine y_goto rfl ?_
          refine y_zret rfl rfl (by decide) ⟨_, rfl, ?_⟩
          have e : rend isSp T L q = q := rend_at (fun z => by have z2 := z.2; unfold isSp at z2; have := of_decide_eq_true z2; first | omega | (have := hT q (by omega) (by omega); omega))
          exact ⟨by unfold nmS; rw [← h1, e]; unfold yb; (repeat' split) <;> omega, by unfold nmS; rw [← h1, e]⟩
      · skip
        refine y_aload rfl rfl rfl ?_
        refine y_dup rfl rfl ?_
        refine y_gfi (v := q) rfl rfl (by decide) rfl (by decide) rfl (yeq _ _ _ _) ?_
        refine y_push rfl ?_
        refine y_iadd (v := (q + 1)) rfl rfl (by omega) ?_
        refine y_pfi (j := 8) rfl rfl (by decide) rfl rfl rfl rfl rfl ?_
        refine y_goto rfl ?_
        rw [show (yset (yset σ 547 8 q) 547 8 (q + 1)) = yset σ 547 8 (q + 1) from by simp only [yset_2]]
        refine ih (q + 1) (by omega) (by omega) ?_
        rw [← h1]
        exact (rend_go (by omega) (by unfold isSp; exact decide_eq_true (by have := hT q (by omega) (by omega); omega))).symm
theorem m_isEnd {g : Launch × XG × va_G} {σ : YS} {T : Int → Int} {L : Int} {p : Int} (hL : σ 547 3 = L) (hT : ∀ k, 0 ≤ k → k < L → σ 550 k = T k) (hTr : ∀ k, 0 ≤ k → k < L → 0 ≤ T k ∧ T k ≤ 255) (hl : 0 ≤ L ∧ L ≤ 200) (ha : σ 547 8 = p) (hp : 0 ≤ p ∧ p ≤ L) : YI g 47 [(2, 547)] σ (fun b σ' => yb (nmS T L p = L) = b ∧ yset σ 547 8 (nmS T L p) = σ') := by
  refine y_start rfl rfl rfl ?_
  have := lm_isEnd (g := g) hL hT hTr hl ha hp 202 p (by omega) (by omega) rfl
  rw [← ha, yset_id] at this
  rw [← ha]
  exact this
