theorem yu32 {i : Int32} (h : 0 ≤ i.toInt) : i.toUInt32.toNat = i.toInt.toNat := by
  have e : i.toInt = i.toBitVec.toInt := rfl
  have e2 : i.toUInt32.toNat = i.toBitVec.toNat := rfl
  rw [e2, e]
  rw [e, BitVec.toInt_eq_toNat_cond] at h
  rw [BitVec.toInt_eq_toNat_cond]
  have := i.toBitVec.isLt
  split at h
  · rw [if_pos (by assumption)]; omega
  · omega
theorem ydiv_ok {i j : Int32} {a b : Int} (hi : i.toInt = a) (hj : j.toInt = b) (ha : 0 ≤ a) (hb : 0 < b) : (i / j).toInt = a / b := by
  have h1 := xi32 i
  have h2 := xi32 j
  have e0 : Int32.minValue.toInt = -2147483648 := rfl
  rw [xqMIN_v, xqMAX_v] at h1
  rw [Int32.toInt_div_of_ne_left _ _ (fun z => by rw [z, e0] at hi; omega), hi, hj]
  exact Int.tdiv_eq_ediv_of_nonneg ha
/-- one instruction over exact contents: what must hold so that all goes on by K (or ends by Rt) -/
def ydisp (ρ : Nat → Int) (K : Nat → YL → List YV → YS → Prop) (cal : Nat → List YV → YS → (Option YV → YS → Prop) → Prop) (Rt : Option YV → YS → Prop) (rt op A : Nat) (B : Int) (nx r1 r2 r3 pc : Nat) (L : YL) (S : List YV) (σ : YS) : Prop := match op with
  | 0 => yrg B ∧ K nx L ((0, B) :: S) σ
  | 1 => K nx L ((1, (A : Int)) :: S) σ
  | 2 => K nx L ((1, (r1 : Int)) :: S) σ
  | 3 => ∃ v, L[A]? = some (some (0, v)) ∧ K nx L ((0, v) :: S) σ
  | 4 => ∃ t v, 2 ≤ t ∧ L[A]? = some (some (t, v)) ∧ K nx L ((t, v) :: S) σ
  | 5 => ∃ v, L[A]? = some (some (1, v)) ∧ K nx L ((1, v) :: S) σ
  | 6 => ∃ v S', S = (0, v) :: S' ∧ (yclr L A = true ∧ A < L.length) ∧ K nx (L.set A (some (0, v))) S' σ
  | 7 => ∃ t v S', 2 ≤ t ∧ S = (t, v) :: S' ∧ (yclr L A = true ∧ A < L.length) ∧ K nx (L.set A (some (t, v))) S' σ
  | 8 => ∃ v S', S = (1, v) :: S' ∧ (yclr L A = true ∧ A + 1 < L.length) ∧ K nx ((L.set A (some (1, v))).set (A + 1) none) S' σ
  | 9 => ∃ v, L[A]? = some (some (0, v)) ∧ (yrg B ∧ yclr L A = true ∧ A < L.length) ∧ yrg (v + B) ∧ K nx (L.set A (some (0, v + B))) S σ
  | 10 => ∃ a b S', S = (0, b) :: (0, a) :: S' ∧ yrg (a + b) ∧ K nx L ((0, a + b) :: S') σ
  | 11 => ∃ a b S', S = (0, b) :: (0, a) :: S' ∧ yrg (a - b) ∧ K nx L ((0, a - b) :: S') σ
  | 12 => ∃ a b S', S = (0, b) :: (0, a) :: S' ∧ yrg (a * b) ∧ K nx L ((0, a * b) :: S') σ
  | 13 => ∃ a b S', S = (0, b) :: (0, a) :: S' ∧ K nx L ((0, yshl a b) :: S') σ
  | 14 => ∃ a b S', S = (0, b) :: (0, a) :: S' ∧ (0 ≤ a ∧ 0 < b) ∧ K nx L ((0, a % b) :: S') σ
  | 54 => ∃ a b S', S = (0, b) :: (0, a) :: S' ∧ (0 ≤ a ∧ 0 < b) ∧ K nx L ((0, a / b) :: S') σ
  | 15 => ∃ a b S', S = (0, b) :: (0, a) :: S' ∧ K nx L ((0, yand a b) :: S') σ
  | 53 => ∃ a b S', S = (0, b) :: (0, a) :: S' ∧ K nx L ((0, yor a b) :: S') σ
  | 55 => ∃ a b S', S = (0, b) :: (0, a) :: S' ∧ K nx L ((0, yshr a b) :: S') σ
  | 16 => ∃ a S', S = (0, a) :: S' ∧ K nx L ((1, a) :: S') σ
  | 17 => ∃ a S', S = (1, a) :: S' ∧ K nx L ((0, yl2i a) :: S') σ
  | 57 => ∃ a S', S = (0, a) :: S' ∧ (0 ≤ a ∧ a < 65536) ∧ K nx L ((0, a) :: S') σ
  | 18 => ∃ a b S', S = (1, b) :: (1, a) :: S' ∧ K nx L ((1, yladd a b) :: S') σ
  | 56 => ∃ a b S', S = (1, b) :: (1, a) :: S' ∧ K nx L ((1, ylsub a b) :: S') σ
  | 19 => ∃ a b S', S = (1, b) :: (1, a) :: S' ∧ K nx L ((1, ylmul a b) :: S') σ
  | 20 => ∃ a b S', S = (1, b) :: (1, a) :: S' ∧ K nx L ((1, yland a b) :: S') σ
  | 21 => ∃ a b S', S = (1, b) :: (1, a) :: S' ∧ K nx L ((1, ylor a b) :: S') σ
  | 22 => ∃ a b S', S = (0, b) :: (1, a) :: S' ∧ K nx L ((1, ylshl a b) :: S') σ
  | 23 => ∃ a b S', S = (0, b) :: (1, a) :: S' ∧ K nx L ((1, ylshr a b) :: S') σ
  | 24 => ∃ a b S', S = (1, b) :: (1, a) :: S' ∧ K nx L ((0, if b < a then 1 else if a = b then 0 else -1) :: S') σ
  | 25 => ∃ t v S', S = (t, v) :: S' ∧ t ≠ 1 ∧ K nx L ((t, v) :: (t, v) :: S') σ
  | 26 => ∃ t v t' v' S', S = (t, v) :: (t', v') :: S' ∧ (t ≠ 1 ∧ t' ≠ 1) ∧ K nx L ((t, v) :: (t', v') :: (t, v) :: (t', v') :: S') σ
  | 27 => ∃ t v S', S = (t, v) :: S' ∧ t ≠ 1 ∧ K nx L S' σ
  | 58 => ∃ v S', S = (1, v) :: S' ∧ K nx L S' σ
  | 28 => K r1 L S σ
  | 29 => ∃ a S', S = (0, a) :: S' ∧ (ycmp A a 0 → K r1 L S' σ) ∧ (¬ ycmp A a 0 → K nx L S' σ)
  | 30 => ∃ a b S', S = (0, b) :: (0, a) :: S' ∧ (ycmp A a b → K r1 L S' σ) ∧ (¬ ycmp A a b → K nx L S' σ)
  | 31 => ∃ v S' df lo hi offs, S = (0, v) :: S' ∧ xqsw[r1]? = some (df, lo, hi, offs) ∧ ((v < lo ∨ hi < v) → ∃ t : Nat, (pc : Int) + df = t ∧ K t L S' σ) ∧ (lo ≤ v → v ≤ hi → ∃ (o : Int) (t : Nat), offs[(v - lo).toNat]? = some o ∧ (pc : Int) + o = t ∧ K t L S' σ)
  | 59 => ∃ (v : Int) (S' : List YV) (df : Int) (ps : List (Int × Int)) (t : Nat), S = (0, v) :: S' ∧ xqlw[r1]? = some (df, ps) ∧ (pc : Int) + Op.lookupswitch.offset ps df v = t ∧ K t L S' σ
  | 37 => ∃ (a : Int) (S' : List YV) (ts : List Int) (t : Int), S = (2, a) :: S' ∧ (0 ≤ a ∧ ycell a.toNat = some (r1, 0, ts) ∧ ts[r2]? = some t) ∧ K nx L ((if t = -3 then (1, σ a r2) else if t < 0 then (0, σ a r2) else (2, t)) :: S') σ
  | 38 => ∃ (tv : Nat) (v a : Int) (S' : List YV) (ts : List Int) (t : Int), S = (tv, v) :: (2, a) :: S' ∧ (0 ≤ a ∧ ycell a.toNat = some (r1, 0, ts) ∧ ts[r2]? = some t) ∧ ((xqkind r1 r2 = 0 ∧ t = -1 ∧ tv = 0) ∨ (xqkind r1 r2 = 1 ∧ t = -2 ∧ tv = 0 ∧ 0 ≤ v ∧ v ≤ 1) ∨ (xqkind r1 r2 = 3 ∧ t = -3 ∧ tv = 1)) ∧ (((xqcls[r1]?).getD (RX0, TX0, 9)).2.1 r2).2.2.2 = false ∧ K nx L S' (yset σ a r2 v)
  | 39 => K nx L ((3, 1) :: S) σ
  | 60 => K nx L ((3, 2) :: S) σ
  | 61 => K nx L ((3, 3) :: S) σ
  | 40 => (∃ (i a : Int) (S' : List YV) (len : Nat), S = (0, i) :: (2, a) :: S' ∧ (0 ≤ a ∧ ycell a.toNat = some (10, len, [])) ∧ (0 ≤ i ∧ i < len) ∧ K nx L ((0, σ a i) :: S') σ) ∨
    (∃ i S', S = (0, i) :: (3, 0) :: S' ∧ (0 ≤ i ∧ i < ρ 5) ∧ K nx L ((0, ρ (6 + i.toNat)) :: S') σ) ∨
    (∃ i S', S = (0, i) :: (3, 1) :: S' ∧ (0 ≤ i ∧ i < 18) ∧ K nx L ((0, yord i) :: S') σ) ∨
    (∃ i S', S = (0, i) :: (3, 2) :: S' ∧ (0 ≤ i ∧ i < 6) ∧ K nx L ((0, yfet i) :: S') σ) ∨
    (∃ i S', S = (0, i) :: (3, 3) :: S' ∧ (0 ≤ i ∧ i < 6) ∧ K nx L ((0, ylam i) :: S') σ)
  | 41 => ∃ (i a : Int) (S' : List YV) (len : Nat), S = (0, i) :: (2, a) :: S' ∧ (0 ≤ a ∧ ycell a.toNat = some (11, len, [])) ∧ (0 ≤ i ∧ i < len) ∧ K nx L ((0, σ a i) :: S') σ
  | 42 => ∃ (i a : Int) (S' : List YV) (ty len : Nat) (b d : Int), S = (0, i) :: (2, a) :: S' ∧ (0 ≤ a ∧ ycell a.toNat = some (12 + ty, len, [b, d])) ∧ (0 ≤ i ∧ i < len) ∧ K nx L ((2, b + d * i) :: S') σ
  | 43 => ∃ (v i a : Int) (S' : List YV) (len : Nat), S = (0, v) :: (0, i) :: (2, a) :: S' ∧ (0 ≤ a ∧ ycell a.toNat = some (10, len, [])) ∧ (0 ≤ i ∧ i < len) ∧ K nx L S' (yset σ a i v)
  | 44 => ∃ (v i a : Int) (S' : List YV) (len : Nat), S = (0, v) :: (0, i) :: (2, a) :: S' ∧ (0 ≤ a ∧ ycell a.toNat = some (11, len, [])) ∧ (0 ≤ i ∧ i < len) ∧ (0 ≤ v ∧ v ≤ 1) ∧ K nx L S' (yset σ a i v)
  | 46 => ∃ S', S = (3, 0) :: S' ∧ K nx L ((0, ρ 5) :: S') σ
  | 48 => ∃ (as S' : List YV) (P : Option YV → YS → Prop), S = as.reverse ++ S' ∧ as.length = r2 ∧ xcat (yxs S') ≤ 8 ∧ (∃ (a : Int) (as' : List YV) (ts : List Int), as = (2, a) :: as' ∧ 0 ≤ a ∧ ycell a.toNat = some (r3 - 1, 0, ts)) ∧ cal r1 as σ P ∧ ∀ r σ', P r σ' → K nx L (yret r S') σ'
  | 49 => (r1 = 1001 ∧ ∃ a b S', S = (0, b) :: (0, a) :: S' ∧ xcat (yxs S') ≤ 8 ∧ K nx L ((0, min a b) :: S') σ) ∨
    (r1 = 1002 ∧ ∃ (a b sp dp n : Int) (S' : List YV) (len len' : Nat), S = (0, n) :: (0, dp) :: (2, b) :: (0, sp) :: (2, a) :: S' ∧ (0 ≤ a ∧ ycell a.toNat = some (10, len, [])) ∧ (0 ≤ b ∧ ycell b.toNat = some (10, len', [])) ∧ (0 ≤ sp ∧ 0 ≤ dp ∧ 0 ≤ n ∧ sp + n ≤ len ∧ dp + n ≤ len') ∧ xcat (yxs S') ≤ 8 ∧ K nx L S' (ycopy σ a sp b dp n)) ∨
    (r1 < 163 ∧ ∃ (as S' : List YV) (P : Option YV → YS → Prop), S = as.reverse ++ S' ∧ as.length = r2 ∧ xcat (yxs S') ≤ 8 ∧ cal r1 as σ P ∧ ∀ r σ', P r σ' → K nx L (yret r S') σ')
  | 62 => K nx L ((3, 10 + (A : Int)) :: S) σ
  | 63 => ∃ (i : Nat) (S' : List YV), S = (3, 10 + (i : Int)) :: S' ∧ i < 5 ∧ xcat (yxs S') ≤ 8 ∧ K nx L ((0, ((jlen.getD i 0 : Nat) : Int)) :: S') σ
  | 64 => ∃ (i k : Nat) (S' : List YV), S = (0, (k : Int)) :: (3, 10 + (i : Int)) :: S' ∧ i < 5 ∧ k < jlen.getD i 0 ∧ xcat (yxs S') ≤ 8 ∧ K nx L ((0, ychr i k) :: S') σ
  | 65 => ∃ (i : Nat) (a : Int) (S' : List YV), S = (0, a) :: (3, 10 + (i : Int)) :: S' ∧ i < 5 ∧ (0 ≤ a ∧ a ≤ 255) ∧ xcat (yxs S') ≤ 8 ∧ K nx L ((0, ysix i a) :: S') σ
  | 66 => ∃ (as S' : List YV) (P : Option YV → YS → Prop), S = as.reverse ++ S' ∧ as.length = r2 ∧ xcat (yxs S') ≤ 8 ∧ cal r1 as σ P ∧ ∀ r σ', P r σ' → K nx L (yret r S') σ'
  | 50 => ∃ v, S = [(0, v)] ∧ (rt = 1 ∨ (rt = 2 ∧ 0 ≤ v ∧ v ≤ 1)) ∧ Rt (some (0, v)) σ
  | 51 => ∃ v, S = [(1, v)] ∧ rt = 3 ∧ Rt (some (1, v)) σ
  | 52 => S = [] ∧ rt = 0 ∧ Rt none σ
  | _ => False
section YQ2
variable {p : Program} {l : Launch} {e : Env} {R : Room} {s : State} {m : MethodId} {args : Array Value} {below : List Frame} {meth : Method} {c : Code} {Q : State → Prop} {G : XG} {D : va_G} {nL ce sl : Nat}
variable {cc : ByteArray} {pc nx : Nat} {L : YL} {S : List YV} {σ : YS} {own mn : String}
theorem yrem_ok {i j : Int32} {a b : Int} (hi : i.toInt = a) (hj : j.toInt = b) (ha : 0 ≤ a) (hb : 0 < b) : (i - i / j * j).toInt = a % b := by
  have h1 := xi32 i
  have h2 := xi32 j
  rw [xqMIN_v, xqMAX_v] at h1 h2
  have hq : (i / j).toInt = a / b := ydiv_ok hi hj ha hb
  have e1 := Int.emod_nonneg a (show b ≠ 0 by omega)
  have e2 := Int.emod_lt_of_pos a hb
  have e3 := Int.mul_ediv_add_emod a b
  have e4 : a / b * b = b * (a / b) := Int.mul_comm _ _
  have hm : (i / j * j).toInt = a / b * b := by
    rw [Int32.toInt_mul, hq, hj]
    exact Int.bmod_eq_of_le (by omega) (by omega)
  rw [xsub_toInt (by omega) (by omega), hm, hi]
  omega
theorem yi2c_ok {i : Int32} (h1 : 0 ≤ i.toInt) (h2 : i.toInt < 65536) : (i.toUInt32 % 65536).toInt32 = i := by
  have e : i.toUInt32.toNat = i.toInt.toNat := yu32 h1
  have e2 : i.toUInt32 % 65536 = i.toUInt32 := by
    apply UInt32.toNat_inj.mp
    rw [UInt32.toNat_mod, e]
    exact Nat.mod_eq_of_lt (show i.toInt.toNat < 65536 by omega)
  rw [e2]
  rfl
theorem ylcmp_ok {i j : Int64} {a b : Int} (hi : i.toInt = a) (hj : j.toInt = b) : (lg_cmp i j).toInt = if b < a then 1 else if a = b then 0 else -1 := by
  subst hi hj
  have hlt : (i > j) ↔ j.toInt < i.toInt := Int64.lt_iff_toInt_lt
  have heq : i = j ↔ i.toInt = j.toInt := Int64.toInt_inj.symm
  unfold lg_cmp
  by_cases q1 : i > j
  · rw [if_pos q1, if_pos (hlt.mp q1)]; rfl
  · rw [if_neg q1, if_neg (fun z => q1 (hlt.mpr z))]
    by_cases q2 : i = j
    · rw [if_pos q2, if_pos (heq.mp q2)]; rfl
    · rw [if_neg q2, if_neg (fun z => q2 (heq.mpr z))]; rfl
theorem ytab_ok {l : List Int} {k : Nat} (h : ∀ x ∈ l, -1000 ≤ x ∧ x ≤ 1000) : (Int32.ofInt (l.getD k 0)).toInt = l.getD k 0 := by
  have : -1000 ≤ l.getD k 0 ∧ l.getD k 0 ≤ 1000 := by
    rw [List.getD_eq_getElem?_getD]
    cases hk : l[k]? with
    | none => exact ⟨by decide, by decide⟩
    | some x => exact h x (List.mem_of_getElem? hk)
  exact Int32.toInt_ofInt_of_le (by omega) (by omega)
set_option maxHeartbeats 8000000 in
theorem ys_disp (hx : p.tables.exec = Jvm.exec) (hb : c.code = cc) (hml : c.maxLocals = nL) (hown : s.vm.findClass own = some m.cls) (hts : ∀ w ∈ xqgw, w.before args s = true) (GL : YGl G D s) {d rt : Nat} (hce : ce ≤ R.cells) (hsl : sl ≤ R.slots) (hfr : 4 ≤ R.frames) (hlo : 144 ≤ R.locals) {Rt : Option YV → YS → Prop}
    (hroomR : ∀ i, i < 163 → ydep i < d → (yrm i).frames + 1 ≤ R.frames ∧ 8 + (xqmll i + 11) + (yrm i).locals ≤ R.locals)
    (hRi : ∀ (v : Int) (σ : YS), (rt = 1 ∨ (rt = 2 ∧ 0 ≤ v ∧ v ≤ 1)) → Rt (some (0, v)) σ → ∀ (pc : Nat) (ls : Array Slot) (i : Int32) (H : Heap) (locs : List Loc), decode cc pc = .ok (.ireturn, 1) → i.toInt = v → YWok G D s σ H → (∀ q ∈ locs, G.1 ≤ q.base) → (∀ q : Nat, q < G.1 → H[q]? = s.heap[q]?) → W p l e R s m args below meth c H locs ce sl Q (F0 m pc ls [.int i]))
    (hRl : ∀ (v : Int) (σ : YS), rt = 3 → Rt (some (1, v)) σ → ∀ (pc : Nat) (ls : Array Slot) (i : Int64) (H : Heap) (locs : List Loc), decode cc pc = .ok (.lreturn, 1) → i.toInt = v → YWok G D s σ H → (∀ q ∈ locs, G.1 ≤ q.base) → (∀ q : Nat, q < G.1 → H[q]? = s.heap[q]?) → W p l e R s m args below meth c H locs ce sl Q (F0 m pc ls [.long i]))
    (hRv : ∀ (σ : YS), rt = 0 → Rt none σ → ∀ (pc : Nat) (ls : Array Slot) (H : Heap) (locs : List Loc), decode cc pc = .ok (.return_, 1) → YWok G D s σ H → (∀ q ∈ locs, G.1 ≤ q.base) → (∀ q : Nat, q < G.1 → H[q]? = s.heap[q]?) → W p l e R s m args below meth c H locs ce sl Q (F0 m pc ls []))
    {K : Nat → YL → List YV → YS → Prop} (hK : ∀ pc L S σ, K pc L S σ → YWin p l e R s m args below meth c Q G D nL ce sl pc L S σ) {ins : Instr} {len op A : Nat} {B : Int} {r1 r2 r3 : Nat} {ws : List Nat} (hd : decode cc pc = .ok (ins, len)) (hok : xqokI own mn pc len op A B nx r1 r2 r3 ws ins = true) (h : ydisp G.2.2 K (fun k as σ P => ydep k < d ∧ YM (l, G, D) k as σ P) Rt rt op A B nx r1 r2 r3 pc L S σ) : YWin p l e R s m args below meth c Q G D nL ce sl pc L S σ := by
  cases ins with
  | iconst v =>
    obtain ⟨rfl, rfl, rfl, rfl⟩ := of_decide_eq_true hok
    obtain ⟨h1, h⟩ := h
    intro ls st H locs hL hS hW hl hf
    exact lv_iconst hx hb hd rfl (hK _ _ _ _ h ls _ H locs hL ⟨yp0 (Int32.toInt_ofInt_of_le (by omega) (by omega)), hS⟩ hW hl hf)
  | bipush v =>
    obtain ⟨rfl, rfl, rfl, rfl, hz⟩ := of_decide_eq_true hok
    obtain ⟨h1, h⟩ := h
    intro ls st H locs hL hS hW hl hf
    exact lv_bipush hx hb hd hz (hK _ _ _ _ h ls _ H locs hL ⟨yp0 (Int32.toInt_ofInt_of_le (by omega) (by omega)), hS⟩ hW hl hf)
  | sipush v =>
    obtain ⟨rfl, rfl, rfl, rfl, hz⟩ := of_decide_eq_true hok
    obtain ⟨h1, h⟩ := h
    intro ls st H locs hL hS hW hl hf
    exact lv_sipush hx hb hd hz (hK _ _ _ _ h ls _ H locs hL ⟨yp0 (Int32.toInt_ofInt_of_le (by omega) (by omega)), hS⟩ hW hl hf)
  | lconst v =>
    obtain ⟨rfl, rfl, rfl, rfl⟩ := of_decide_eq_true hok
    intro ls st H locs hL hS hW hl hf
    exact lv_lconst hx hb hd rfl (hK _ _ _ _ h ls _ H locs hL ⟨yp1 (Int64.toInt_ofNat_of_lt (by omega)), hS⟩ hW hl hf)
  | ldc2_w i =>
    obtain ⟨rfl, rfl, rfl, hz, hw⟩ := of_decide_eq_true hok
    intro ls st H locs hL hS hW hl hf
    exact lv_ldc2 hx hb hown (hts _ (xqin_ok hw)) hd (hK _ _ _ _ h ls _ H locs hL ⟨yp1 (Int64.toInt_ofNat_of_lt (by omega)), hS⟩ hW hl hf)
  | iload_n k =>
    obtain ⟨rfl, rfl, rfl, rfl⟩ := of_decide_eq_true hok
    obtain ⟨v, h1, h⟩ := h
    intro ls st H locs hL hS hW hl hf
    obtain ⟨w, g1, g2⟩ := hL.2.2.2 _ _ (ylget h1)
    obtain ⟨i, rfl, hi⟩ := yv0 g2
    exact lv_iload_n hx hb hd rfl g1 (hK _ _ _ _ h ls _ H locs hL ⟨g2, hS⟩ hW hl hf)
  | iload k =>
    obtain ⟨rfl, rfl, rfl, rfl⟩ := of_decide_eq_true hok
    obtain ⟨v, h1, h⟩ := h
    intro ls st H locs hL hS hW hl hf
    obtain ⟨w, g1, g2⟩ := hL.2.2.2 _ _ (ylget h1)
    obtain ⟨i, rfl, hi⟩ := yv0 g2
    exact lv_iload hx hb hd g1 (hK _ _ _ _ h ls _ H locs hL ⟨g2, hS⟩ hW hl hf)
  | aload_n k =>
    obtain ⟨rfl, rfl, rfl, rfl⟩ := of_decide_eq_true hok
    obtain ⟨t, v, ht, h1, h⟩ := h
    intro ls st H locs hL hS hW hl hf
    obtain ⟨w, g1, g2⟩ := hL.2.2.2 _ _ (ylget h1)
    obtain ⟨a, rfl⟩ := yref ht g2
    exact lv_aload_n hx hb hd rfl g1 (hK _ _ _ _ h ls _ H locs hL ⟨g2, hS⟩ hW hl hf)
  | lload_n k =>
    obtain ⟨rfl, rfl, rfl, rfl⟩ := of_decide_eq_true hok
    obtain ⟨v, h1, h⟩ := h
    intro ls st H locs hL hS hW hl hf
    obtain ⟨w, g1, g2⟩ := hL.2.2.2 _ _ (ylget h1)
    obtain ⟨i, rfl, hi⟩ := yv1 g2
    exact lv_lload_n hx hb hd rfl g1 (hK _ _ _ _ h ls _ H locs hL ⟨g2, hS⟩ hW hl hf)
  | lload k =>
    obtain ⟨rfl, rfl, rfl, rfl⟩ := of_decide_eq_true hok
    obtain ⟨v, h1, h⟩ := h
    intro ls st H locs hL hS hW hl hf
    obtain ⟨w, g1, g2⟩ := hL.2.2.2 _ _ (ylget h1)
    obtain ⟨i, rfl, hi⟩ := yv1 g2
    exact lv_lload hx hb hd g1 (hK _ _ _ _ h ls _ H locs hL ⟨g2, hS⟩ hW hl hf)
  | istore_n k =>
    obtain ⟨rfl, rfl, rfl, rfl⟩ := of_decide_eq_true hok
    obtain ⟨v, S', rfl, ⟨hc, hA⟩, h⟩ := h
    intro ls st H locs hL hS hW hl hf
    obtain ⟨w, st1, rfl, g2, g3⟩ := XSok_cons hS
    obtain ⟨i, rfl, hi⟩ := yv0 g2
    obtain ⟨lv0, t1, t2⟩ := hL.list
    exact lv_istore_n hx hb hd rfl t1 (Nat.lt_of_lt_of_le (by rw [yllen]; exact hA) hL.2.1) rfl fun ls' h' => hK _ _ _ _ h ls' _ H locs (by rw [ylset]; exact hL.store1 t2 hc g2 h') g3 hW hl hf
  | istore k =>
    obtain ⟨rfl, rfl, rfl, rfl⟩ := of_decide_eq_true hok
    obtain ⟨v, S', rfl, ⟨hc, hA⟩, h⟩ := h
    intro ls st H locs hL hS hW hl hf
    obtain ⟨w, st1, rfl, g2, g3⟩ := XSok_cons hS
    obtain ⟨i, rfl, hi⟩ := yv0 g2
    obtain ⟨lv0, t1, t2⟩ := hL.list
    exact lv_istore hx hb hd t1 (Nat.lt_of_lt_of_le (by rw [yllen]; exact hA) hL.2.1) rfl fun ls' h' => hK _ _ _ _ h ls' _ H locs (by rw [ylset]; exact hL.store1 t2 hc g2 h') g3 hW hl hf
  | astore_n k =>
    obtain ⟨rfl, rfl, rfl, rfl⟩ := of_decide_eq_true hok
    obtain ⟨t, v, S', ht, rfl, ⟨hc, hA⟩, h⟩ := h
    intro ls st H locs hL hS hW hl hf
    obtain ⟨w, st1, rfl, g2, g3⟩ := XSok_cons hS
    obtain ⟨a, rfl⟩ := yref ht g2
    obtain ⟨lv0, t1, t2⟩ := hL.list
    exact lv_astore_n hx hb hd rfl t1 (Nat.lt_of_lt_of_le (by rw [yllen]; exact hA) hL.2.1) rfl fun ls' h' => hK _ _ _ _ h ls' _ H locs (by rw [ylset]; exact hL.store1 t2 hc g2 h') g3 hW hl hf
  | lstore_n k =>
    obtain ⟨rfl, rfl, rfl, rfl⟩ := of_decide_eq_true hok
    obtain ⟨v, S', rfl, ⟨hc, hA⟩, h⟩ := h
    intro ls st H locs hL hS hW hl hf
    obtain ⟨w, st1, rfl, g2, g3⟩ := XSok_cons hS
    obtain ⟨i, rfl, hi⟩ := yv1 g2
    obtain ⟨lv0, t1, t2⟩ := hL.list
    exact lv_lstore_n hx hb hd rfl t1 (Nat.lt_of_lt_of_le (by rw [yllen]; exact hA) hL.2.1) rfl fun ls' h' => hK _ _ _ _ h ls' _ H locs (by rw [ylset0, ylset]; exact hL.store2 t2 hc g2 h') g3 hW hl hf
  | iinc k v =>
    obtain ⟨rfl, rfl, rfl, rfl, rfl⟩ := of_decide_eq_true hok
    obtain ⟨v, h1, ⟨hB, hc, hA⟩, hr, h⟩ := h
    intro ls st H locs hL hS hW hl hf
    obtain ⟨lv0, t1, t2⟩ := hL.list
    obtain ⟨w', t3, t4⟩ := t2 _ _ (ylget h1)
    obtain ⟨kk, hkk⟩ := List.getElem?_of_mem t3
    obtain ⟨i, rfl, hi⟩ := yv0 t4
    have e1 : (Int32.ofInt B).toInt = B := Int32.toInt_ofInt_of_le (by omega) (by omega)
    exact lv_iinc hx hb hd t1 hkk rfl (Nat.lt_of_lt_of_le (by rw [yllen]; exact hA) hL.2.1) rfl fun ls' h' => hK _ _ _ _ h ls' _ H locs (by rw [ylset]; exact hL.store1 t2 hc (yp0 (by rw [xadd_toInt (by omega) (by omega)]; omega)) h') hS hW hl hf
  | iadd =>
    obtain ⟨rfl, rfl, rfl⟩ := of_decide_eq_true hok
    obtain ⟨a, b, S', rfl, hr, h⟩ := h
    intro ls st H locs hL hS hW hl hf
    obtain ⟨j, st0, rfl, hj, h0'⟩ := ys0 hS
    obtain ⟨i, st1, rfl, hi, h4⟩ := ys0 h0'
    exact lv_iadd hx hb hd (hK _ _ _ _ h ls _ H locs hL ⟨yp0 (by rw [xadd_toInt (by omega) (by omega)]; omega), h4⟩ hW hl hf)
  | isub =>
    obtain ⟨rfl, rfl, rfl⟩ := of_decide_eq_true hok
    obtain ⟨a, b, S', rfl, hr, h⟩ := h
    intro ls st H locs hL hS hW hl hf
    obtain ⟨j, st0, rfl, hj, h0'⟩ := ys0 hS
    obtain ⟨i, st1, rfl, hi, h4⟩ := ys0 h0'
    exact lv_isub hx hb hd (hK _ _ _ _ h ls _ H locs hL ⟨yp0 (by rw [xsub_toInt (by omega) (by omega)]; omega), h4⟩ hW hl hf)
  | imul =>
    obtain ⟨rfl, rfl, rfl⟩ := of_decide_eq_true hok
    obtain ⟨a, b, S', rfl, hr, h⟩ := h
    intro ls st H locs hL hS hW hl hf
    obtain ⟨j, st0, rfl, hj, h0'⟩ := ys0 hS
    obtain ⟨i, st1, rfl, hi, h4⟩ := ys0 h0'
    exact lv_imul hx hb hd (hK _ _ _ _ h ls _ H locs hL ⟨yp0 (by rw [Int32.toInt_mul, hi, hj]; exact Int.bmod_eq_of_le (by omega) (by omega)), h4⟩ hW hl hf)
  | ishl =>
    obtain ⟨rfl, rfl, rfl⟩ := of_decide_eq_true hok
    obtain ⟨a, b, S', rfl, h⟩ := h
    intro ls st H locs hL hS hW hl hf
    obtain ⟨j, st0, rfl, hj, h0'⟩ := ys0 hS
    obtain ⟨i, st1, rfl, hi, h4⟩ := ys0 h0'
    exact lv_ishl hx hb hd (hK _ _ _ _ h ls _ H locs hL ⟨yp0 (by subst hi hj; unfold yshl; rw [Int32.ofInt_toInt, Int32.ofInt_toInt]), h4⟩ hW hl hf)
  | irem =>
    obtain ⟨rfl, rfl, rfl⟩ := of_decide_eq_true hok
    obtain ⟨a, b, S', rfl, hr, h⟩ := h
    intro ls st H locs hL hS hW hl hf
    obtain ⟨j, st0, rfl, hj, h0'⟩ := ys0 hS
    obtain ⟨i, st1, rfl, hi, h4⟩ := ys0 h0'
    exact lv_irem hx hb hd (fun q => by subst q; have e : (0 : Int32).toInt = 0 := rfl; omega) (hK _ _ _ _ h ls _ H locs hL ⟨yp0 (yrem_ok hi hj hr.1 hr.2), h4⟩ hW hl hf)
  | iand =>
    obtain ⟨rfl, rfl, rfl⟩ := of_decide_eq_true hok
    obtain ⟨a, b, S', rfl, h⟩ := h
    intro ls st H locs hL hS hW hl hf
    obtain ⟨j, st0, rfl, hj, h0'⟩ := ys0 hS
    obtain ⟨i, st1, rfl, hi, h4⟩ := ys0 h0'
    exact lv_iand hx hb hd (hK _ _ _ _ h ls _ H locs hL ⟨yp0 (by subst hi hj; unfold yand; rw [Int32.ofInt_toInt, Int32.ofInt_toInt]), h4⟩ hW hl hf)
  | i2l =>
    obtain ⟨rfl, rfl, rfl⟩ := of_decide_eq_true hok
    obtain ⟨a, S', rfl, h⟩ := h
    intro ls st H locs hL hS hW hl hf
    obtain ⟨i, st1, rfl, hi, h4⟩ := ys0 hS
    exact lv_i2l hx hb hd rfl (hK _ _ _ _ h ls _ H locs hL ⟨yp1 (by rw [Int32.toInt_toInt64]; exact hi), h4⟩ hW hl hf)
  | l2i =>
    obtain ⟨rfl, rfl, rfl⟩ := of_decide_eq_true hok
    obtain ⟨a, S', rfl, h⟩ := h
    intro ls st H locs hL hS hW hl hf
    obtain ⟨i, st1, rfl, hi, h4⟩ := ys1 hS
    exact lv_l2i hx hb hd rfl (hK _ _ _ _ h ls _ H locs hL ⟨yp0 (by subst hi; unfold yl2i; rw [Int64.ofInt_toInt]), h4⟩ hW hl hf)
  | lcmp =>
    obtain ⟨rfl, rfl, rfl⟩ := of_decide_eq_true hok
    obtain ⟨a, b, S', rfl, h⟩ := h
    intro ls st H locs hL hS hW hl hf
    obtain ⟨j, st0, rfl, hj, h0'⟩ := ys1 hS
    obtain ⟨i, st1, rfl, hi, h4⟩ := ys1 h0'
    exact W.lcmp hx hb hd (hK _ _ _ _ h ls _ H locs hL ⟨yp0 (ylcmp_ok hi hj), h4⟩ hW hl hf)
  | dup =>
    obtain ⟨rfl, rfl, rfl⟩ := of_decide_eq_true hok
    obtain ⟨t, v, S', rfl, ht, h⟩ := h
    intro ls st H locs hL hS hW hl hf
    obtain ⟨w1, st1, rfl, h1, h2⟩ := XSok_cons hS
    exact lv_dup hx hb hd (ycat1 ht h1) (hK _ _ _ _ h ls _ H locs hL ⟨h1, h1, h2⟩ hW hl hf)
  | dup2 =>
    obtain ⟨rfl, rfl, rfl⟩ := of_decide_eq_true hok
    obtain ⟨t, v, t', v', S', rfl, ⟨ht, ht'⟩, h⟩ := h
    intro ls st H locs hL hS hW hl hf
    obtain ⟨w1, st1, rfl, h1, h2⟩ := XSok_cons hS
    obtain ⟨w2, st2, rfl, h3, h4⟩ := XSok_cons h2
    exact lv_dup2_11 hx hb hd (ycat1 ht h1) (ycat1 ht' h3) (hK _ _ _ _ h ls _ H locs hL ⟨h1, h3, h1, h3, h4⟩ hW hl hf)
  | pop =>
    obtain ⟨rfl, rfl, rfl⟩ := of_decide_eq_true hok
    obtain ⟨t, v, S', rfl, ht, h⟩ := h
    intro ls st H locs hL hS hW hl hf
    obtain ⟨w1, st1, rfl, h1, h2⟩ := XSok_cons hS
    exact lv_pop hx hb hd (ycat1 ht h1) (hK _ _ _ _ h ls _ H locs hL h2 hW hl hf)
  | lshl =>
    obtain ⟨rfl, rfl, rfl⟩ := of_decide_eq_true hok
    obtain ⟨a, b, S', rfl, h⟩ := h
    intro ls st H locs hL hS hW hl hf
    obtain ⟨j, st0, rfl, hj, h0'⟩ := ys0 hS
    obtain ⟨i, st1, rfl, hi, h4⟩ := ys1 h0'
    exact lv_lshl hx hb hd rfl (hK _ _ _ _ h ls _ H locs hL ⟨yp1 (by subst hi hj; unfold ylshl; rw [Int64.ofInt_toInt, Int32.ofInt_toInt]), h4⟩ hW hl hf)
  | lshr =>
    obtain ⟨rfl, rfl, rfl⟩ := of_decide_eq_true hok
    obtain ⟨a, b, S', rfl, h⟩ := h
    intro ls st H locs hL hS hW hl hf
    obtain ⟨j, st0, rfl, hj, h0'⟩ := ys0 hS
    obtain ⟨i, st1, rfl, hi, h4⟩ := ys1 h0'
    exact lv_lshr hx hb hd rfl (hK _ _ _ _ h ls _ H locs hL ⟨yp1 (by subst hi hj; unfold ylshr; rw [Int64.ofInt_toInt, Int32.ofInt_toInt]), h4⟩ hW hl hf)
  | ladd =>
    obtain ⟨rfl, rfl, rfl⟩ := of_decide_eq_true hok
    obtain ⟨a, b, S', rfl, h⟩ := h
    intro ls st H locs hL hS hW hl hf
    obtain ⟨j, st0, rfl, hj, h0'⟩ := ys1 hS
    obtain ⟨i, st1, rfl, hi, h4⟩ := ys1 h0'
    exact lv_ladd hx hb hd (hK _ _ _ _ h ls _ H locs hL ⟨yp1 (by subst hi hj; unfold yladd; rw [Int64.ofInt_toInt, Int64.ofInt_toInt]), h4⟩ hW hl hf)
  | lmul =>
    obtain ⟨rfl, rfl, rfl⟩ := of_decide_eq_true hok
    obtain ⟨a, b, S', rfl, h⟩ := h
    intro ls st H locs hL hS hW hl hf
    obtain ⟨j, st0, rfl, hj, h0'⟩ := ys1 hS
    obtain ⟨i, st1, rfl, hi, h4⟩ := ys1 h0'
    exact lv_lmul hx hb hd (hK _ _ _ _ h ls _ H locs hL ⟨yp1 (by subst hi hj; unfold ylmul; rw [Int64.ofInt_toInt, Int64.ofInt_toInt]), h4⟩ hW hl hf)
  | land =>
    obtain ⟨rfl, rfl, rfl⟩ := of_decide_eq_true hok
    obtain ⟨a, b, S', rfl, h⟩ := h
    intro ls st H locs hL hS hW hl hf
    obtain ⟨j, st0, rfl, hj, h0'⟩ := ys1 hS
    obtain ⟨i, st1, rfl, hi, h4⟩ := ys1 h0'
    exact lv_land hx hb hd (hK _ _ _ _ h ls _ H locs hL ⟨yp1 (by subst hi hj; unfold yland; rw [Int64.ofInt_toInt, Int64.ofInt_toInt]), h4⟩ hW hl hf)
  | lor =>
    obtain ⟨rfl, rfl, rfl⟩ := of_decide_eq_true hok
    obtain ⟨a, b, S', rfl, h⟩ := h
    intro ls st H locs hL hS hW hl hf
    obtain ⟨j, st0, rfl, hj, h0'⟩ := ys1 hS
    obtain ⟨i, st1, rfl, hi, h4⟩ := ys1 h0'
    exact lv_lor hx hb hd (hK _ _ _ _ h ls _ H locs hL ⟨yp1 (by subst hi hj; unfold ylor; rw [Int64.ofInt_toInt, Int64.ofInt_toInt]), h4⟩ hW hl hf)
  | goto off =>
    obtain ⟨rfl, hz, rfl⟩ := of_decide_eq_true hok
    intro ls st H locs hL hS hW hl hf
    exact lv_goto hx hb hd hz (hK _ _ _ _ h ls st H locs hL hS hW hl hf)
  | ifCond cnd off =>
    obtain ⟨rfl, rfl, hz, rfl, rfl⟩ := of_decide_eq_true hok
    obtain ⟨a, S', rfl, ht, hn⟩ := h
    intro ls st H locs hL hS hW hl hf
    obtain ⟨i, st1, rfl, hi, h2⟩ := ys0 hS
    have e0 : (0 : Int32).toInt = 0 := rfl
    have q1 := @xpr_toInt i 0
    have q2 := @xpr_toInt 0 i
    rw [e0, hi] at q1 q2
    have kt := fun z => hK _ _ _ _ (ht z) ls st1 H locs hL h2 hW hl hf
    have kf := fun z => hK _ _ _ _ (hn z) ls st1 H locs hL h2 hW hl hf
    cases cnd
    · exact lv_if_eq hx hb hd hz (fun z => kt (q1.1.mp z)) (fun z => kf (fun y => z (q1.1.mpr y)))
    all_goals first
      | exact lv_if_ne hx hb hd hz (fun z => kt (fun y => z (q1.1.mpr y))) (fun z => kf (fun y => y (q1.1.mp z)))
      | exact lv_if_lt hx hb hd hz (fun z => kt (q1.2.1.mp z)) (fun z => kf (fun y => z (q1.2.1.mpr y)))
      | exact lv_if_ge hx hb hd hz (fun z => kt (Int.not_lt.mp (q2.2.2.mp z))) (fun z => kf (fun y => z (q2.2.2.mpr (Int.not_lt.mpr y))))
      | exact lv_if_gt hx hb hd hz (fun z => kt (q2.2.1.mp z)) (fun z => kf (fun y => z (q2.2.1.mpr y)))
      | exact lv_if_le hx hb hd hz (fun z => kt (Int.not_lt.mp (q1.2.2.mp z))) (fun z => kf (fun y => z (q1.2.2.mpr (Int.not_lt.mpr y))))
  | if_icmp cnd off =>
    obtain ⟨rfl, rfl, hz, rfl, rfl⟩ := of_decide_eq_true hok
    obtain ⟨a, b, S', rfl, ht, hn⟩ := h
    intro ls st H locs hL hS hW hl hf
    obtain ⟨j, st0, rfl, hj, h0'⟩ := ys0 hS
    obtain ⟨i, st1, rfl, hi, h4⟩ := ys0 h0'
    have q1 := @xpr_toInt i j
    have q2 := @xpr_toInt j i
    rw [hi, hj] at q1 q2
    have kt := fun z => hK _ _ _ _ (ht z) ls st1 H locs hL h4 hW hl hf
    have kf := fun z => hK _ _ _ _ (hn z) ls st1 H locs hL h4 hW hl hf
    cases cnd
    · exact lv_icmp_eq hx hb hd hz (fun z => kt (q1.1.mp z)) (fun z => kf (fun y => z (q1.1.mpr y)))
    all_goals first
      | exact lv_icmp_ne hx hb hd hz (fun z => kt (fun y => z (q1.1.mpr y))) (fun z => kf (fun y => y (q1.1.mp z)))
      | exact lv_icmp_lt hx hb hd hz (fun z => kt (q1.2.1.mp z)) (fun z => kf (fun y => z (q1.2.1.mpr y)))
      | exact lv_icmp_ge hx hb hd hz (fun z => kt (Int.not_lt.mp (q2.2.2.mp z))) (fun z => kf (fun y => z (q2.2.2.mpr (Int.not_lt.mpr y))))
      | exact lv_icmp_gt hx hb hd hz (fun z => kt (q2.2.1.mp z)) (fun z => kf (fun y => z (q2.2.1.mpr y)))
      | exact lv_icmp_le hx hb hd hz (fun z => kt (Int.not_lt.mp (q1.2.2.mp z))) (fun z => kf (fun y => z (q1.2.2.mpr (Int.not_lt.mpr y))))
  | tableswitch df lo hi offs =>
    obtain ⟨rfl, hz⟩ := of_decide_eq_true hok
    obtain ⟨v, S', df', lo', hi', offs', rfl, hz', ho, hin⟩ := h
    rw [hz] at hz'
    cases hz'
    intro ls st H locs hL hS hW hl hf
    obtain ⟨i, st1, rfl, hiv, h2⟩ := ys0 hS
    by_cases hq : v < lo ∨ hi < v
    · obtain ⟨t, e1, k⟩ := ho hq
      exact lv_tableOut (tgt := t) hx hb hd (by omega) e1 (hK _ _ _ _ k ls st1 H locs hL h2 hW hl hf)
    · obtain ⟨of, t, e1, e2, k⟩ := hin (by omega) (by omega)
      refine lv_tableIn (off := of) (tgt := t) hx hb hd (by omega) (by omega) ?_ e2 (hK _ _ _ _ k ls st1 H locs hL h2 hW hl hf)
      rw [← Array.getElem?_toList, hiv]
      exact e1
  | new i =>
    obtain ⟨rfl, -⟩ := of_decide_eq_true hok
    exact h.elim
  | newarray t =>
    obtain ⟨hz, -⟩ := of_decide_eq_true hok
    rcases hz with ⟨rfl, rfl⟩ | ⟨rfl, rfl⟩ <;> exact h.elim
  | anewarray i =>
    obtain ⟨rfl, -⟩ := of_decide_eq_true hok
    exact h.elim
  | multianewarray i dm =>
    obtain ⟨rfl, rfl, -⟩ := of_decide_eq_true hok
    exact h.elim
  | getfield i =>
    obtain ⟨rfl, rfl, rfl, hz, h1, h2⟩ := of_decide_eq_true hok
    have hq : xqcls[r1]? = some ((xqcls[r1]?).getD (RX0, TX0, 9)) := by
      rw [List.getElem?_eq_getElem (show r1 < xqcls.length from hz)]
      rfl
    obtain ⟨a, S', ts, t, rfl, ⟨g1, g2, g3⟩, h⟩ := h
    exact ys_gf hx hb hown hts GL.1 hq h1 (xqin_ok h2) hd (by omega) g2 g1 g3 (hK _ _ _ _ h)
  | putfield i =>
    obtain ⟨rfl, rfl, rfl, hz, h1, h2, h3⟩ := of_decide_eq_true hok
    have hq : xqcls[r1]? = some ((xqcls[r1]?).getD (RX0, TX0, 9)) := by
      rw [List.getElem?_eq_getElem (show r1 < xqcls.length from hz)]
      rfl
    obtain ⟨tv, v, a, S', ts, t, rfl, ⟨g1, g2, g3⟩, g4, g5, h⟩ := h
    exact ys_pf hx hb hown hts GL.1 hq h1 (xqin_ok h2) g5 hd (by omega) g2 g1 g3 g4 (hK _ _ _ _ h)
  | getstatic i =>
    have hS0 : ∀ {H : Heap} {locs : List Loc}, (∀ q ∈ locs, G.1 ≤ q.base) → (∀ q : Nat, q < G.1 → H[q]? = s.heap[q]?) → YWok G D s σ H → ∀ a : Nat, ¬ G.1 ≤ a → H[a]? = s.heap[a]? := fun _ hf _ a ha => hf a (Nat.not_le.mp ha)
    rcases of_decide_eq_true hok with ⟨rfl, rfl, rfl, rfl, rfl⟩ | ⟨rfl, rfl, rfl, h1⟩ | ⟨rfl, rfl, rfl, h1⟩
    · intro ls st H locs hL hS hW hl hf
      obtain ⟨cf, kf, fi, f, a, cell, z1, z2, z3, z4, z5, z6, z7, z8⟩ := GL.2.1.1
      exact va_WgetsN hx hb hown (va_Nw.use rfl GL.2.2.2.1.1) z1 z2 z3 z4 (by rw [hf a (Nat.not_le.mp z8)]; exact z5) (fun e => by rw [e] at z6; cases z6) z7 rfl hd (hK _ _ _ _ h ls _ H locs hL ⟨rfl, hS⟩ hW hl hf)
    · intro ls st H locs hL hS hW hl hf
      obtain ⟨cf, kf, fi, f, a, cell, z1, z2, z3, z4, z5, z6, z7, z8⟩ := GL.2.2.1.1
      exact W.gets hx hb hown (hts _ (xqin_ok h1)) z1 z2 z3 z4 (by rw [hf a (Nat.not_le.mp z8)]; exact z5) (fun e => by rw [e] at z6; cases z6) z7 rfl hd (hK _ _ _ _ h ls _ H locs hL ⟨rfl, hS⟩ hW hl hf)
    · intro ls st H locs hL hS hW hl hf
      obtain ⟨cf, kf, fi, f, a, cell, z1, z2, z3, z4, z5, z6, z7, z8⟩ := GL.1.2.2.2.2.1.1
      exact W.gets hx hb hown (hts _ (xqin_ok h1)) z1 z2 z3 z4 (by rw [hf a (Nat.not_le.mp z8)]; exact z5) (fun e => by rw [e] at z6; cases z6) z7 rfl hd (hK _ _ _ _ h ls _ H locs hL ⟨rfl, hS⟩ hW hl hf)
  | iaload =>
    obtain ⟨rfl, rfl, rfl⟩ := of_decide_eq_true hok
    rcases h with h | h | h | h | h
    · obtain ⟨i, a, S', len, rfl, ⟨g1, g2⟩, ⟨g3, g4⟩, h⟩ := h
      exact ys_ald (kd := 0) (ty := 0) hx hb (Or.inl ⟨rfl, hd⟩) rfl g2 g1 g3 g4 (0, σ a i) (fun w hw => by obtain ⟨x, rfl, hx⟩ := hw; exact yp0 hx) (hK _ _ _ _ h)
    · obtain ⟨i, S', rfl, hr, h⟩ := h
      intro ls st H locs hL hS hW hl hf
      obtain ⟨j, st0, rfl, hj, h0'⟩ := ys0 hS
      obtain ⟨st1, rfl, h4⟩ := ys3 h0'
      obtain ⟨-, -, -, -, Ln, xs, ⟨scr, k1, k2, k3, k4, k5⟩, hb0, hL5, hL6, hxs⟩ := GL
      have ej : j.toNatClampNeg = i.toNat := xclamp (by omega)
      refine W.iald (v := .int (xs i.toNat)) hx hb (by show H[G.2.1 0]? = _; rw [hf _ hb0]; exact k1) k2 k3 (by rw [k4]; exact xidx (by omega) (by omega)) (by rw [ej]; exact k5 i.toNat (by omega)) rfl rfl hd ?_
      exact hK _ _ _ _ h ls _ H locs hL ⟨yp0 (hxs _), h4⟩ hW hl hf
    · obtain ⟨i, S', rfl, hr, h⟩ := h
      intro ls st H locs hL hS hW hl hf
      obtain ⟨j, st0, rfl, hj, h0'⟩ := ys0 hS
      obtain ⟨st1, rfl, h4⟩ := ys3 h0'
      obtain ⟨cell, k1, k2, k3, k4, k5, k6, k7⟩ := GL.1.2.2.2.2.1.2
      have ej : j.toNatClampNeg = i.toNat := xclamp (by omega)
      have ei : ((i.toNat : Nat) : Int) = i := by omega
      refine W.iald (v := xqorder i.toNat) hx hb ((hf _ (Nat.not_le.mp k7)).trans k1) k2 k3 (fun q => ?_) (by rw [ej]; exact k6 i.toNat (by omega)) rfl rfl hd ?_
      · rcases q with q | q
        · exact xidx (n := 18) (by omega) (by omega) (Or.inl q)
        · omega
      · exact hK _ _ _ _ h ls _ H locs hL ⟨yp0 (by unfold yord; exact ytab_ok (fun x hx => by simp at hx; omega)), h4⟩ hW hl hf
    · obtain ⟨i, S', rfl, hr, h⟩ := h
      intro ls st H locs hL hS hW hl hf
      obtain ⟨j, st0, rfl, hj, h0'⟩ := ys0 hS
      obtain ⟨st1, rfl, h4⟩ := ys3 h0'
      obtain ⟨cell, k1, k2, k3, k4, k5, k6, k7⟩ := GL.2.1.2
      have ej : j.toNatClampNeg = i.toNat := xclamp (by omega)
      have ei : ((i.toNat : Nat) : Int) = i := by omega
      refine W.iald (v := yqfet i.toNat) hx hb ((hf _ (Nat.not_le.mp k7)).trans k1) k2 k3 (fun q => ?_) (by rw [ej]; exact k6 i.toNat (by omega)) rfl rfl hd ?_
      · rcases q with q | q
        · exact xidx (n := 6) (by omega) (by omega) (Or.inl q)
        · omega
      · exact hK _ _ _ _ h ls _ H locs hL ⟨yp0 (by rw [ei]; unfold yfet; exact ytab_ok (fun x hx => by simp at hx; omega)), h4⟩ hW hl hf
    · obtain ⟨i, S', rfl, hr, h⟩ := h
      intro ls st H locs hL hS hW hl hf
      obtain ⟨j, st0, rfl, hj, h0'⟩ := ys0 hS
      obtain ⟨st1, rfl, h4⟩ := ys3 h0'
      obtain ⟨cell, k1, k2, k3, k4, k5, k6, k7⟩ := GL.2.2.1.2
      have ej : j.toNatClampNeg = i.toNat := xclamp (by omega)
      have ei : ((i.toNat : Nat) : Int) = i := by omega
      refine W.iald (v := yqlam i.toNat) hx hb ((hf _ (Nat.not_le.mp k7)).trans k1) k2 k3 (fun q => ?_) (by rw [ej]; exact k6 i.toNat (by omega)) rfl rfl hd ?_
      · rcases q with q | q
        · exact xidx (n := 6) (by omega) (by omega) (Or.inl q)
        · omega
      · exact hK _ _ _ _ h ls _ H locs hL ⟨yp0 (by rw [ei]; unfold ylam; exact ytab_ok (fun x hx => by simp at hx; omega)), h4⟩ hW hl hf
  | baload =>
    obtain ⟨rfl, rfl, rfl⟩ := of_decide_eq_true hok
    obtain ⟨i, a, S', len, rfl, ⟨g1, g2⟩, ⟨g3, g4⟩, h⟩ := h
    exact ys_ald (kd := 1) (ty := 1) hx hb (Or.inr (Or.inl ⟨rfl, hd⟩)) rfl g2 g1 g3 g4 (0, σ a i) (fun w hw => by obtain ⟨x, rfl, hx⟩ := hw; exact yp0 hx) (hK _ _ _ _ h)
  | aaload =>
    obtain ⟨rfl, rfl, rfl⟩ := of_decide_eq_true hok
    obtain ⟨i, a, S', ty, len, b, d, rfl, ⟨g1, g2⟩, ⟨g3, g4⟩, h⟩ := h
    exact ys_ald (kd := 2) (ty := 2 + ty) hx hb (Or.inr (Or.inr ⟨rfl, hd⟩)) (Nat.ble_eq.mpr (by omega)) (by rw [show 10 + (2 + ty) = 12 + ty by omega]; exact g2) g1 g3 g4 (2, b + d * i) (fun w hw => by
      have hw : w = .ref (G.1 + (b + d * ((i.toNat : Nat) : Int)).toNat) := hw
      rw [show ((i.toNat : Nat) : Int) = i by omega] at hw
      exact hw) (hK _ _ _ _ h)
  | iastore =>
    obtain ⟨rfl, rfl, rfl⟩ := of_decide_eq_true hok
    obtain ⟨v, i, a, S', len, rfl, ⟨g1, g2⟩, ⟨g3, g4⟩, h⟩ := h
    exact ys_ast (kd := 0) hx hb (Or.inl ⟨rfl, hd⟩) g2 g1 g3 g4 (fun z => by cases z) (hK _ _ _ _ h)
  | bastore =>
    obtain ⟨rfl, rfl, rfl⟩ := of_decide_eq_true hok
    obtain ⟨v, i, a, S', len, rfl, ⟨g1, g2⟩, ⟨g3, g4⟩, g5, h⟩ := h
    exact ys_ast (kd := 1) hx hb (Or.inr ⟨rfl, hd⟩) g2 g1 g3 g4 (fun _ => g5) (hK _ _ _ _ h)
  | aastore =>
    obtain ⟨rfl, -⟩ := of_decide_eq_true hok
    exact h.elim
  | arraylength =>
    obtain ⟨rfl, rfl, rfl⟩ := of_decide_eq_true hok
    obtain ⟨S', rfl, h⟩ := h
    intro ls st H locs hL hS hW hl hf
    obtain ⟨st1, rfl, h2⟩ := ys3 hS
    obtain ⟨-, -, -, -, Ln, xs, ⟨scr, k1, k2, k3, k4, k5⟩, hb0, hL5, hL6, hxs⟩ := GL
    have e1 : (Int32.ofNat Ln).toInt = (Ln : Int) := Int32.toInt_ofNat_of_lt (by omega)
    exact W.alen (n := Int32.ofNat Ln) hx hb (by show H[G.2.1 0]? = _; rw [hf _ hb0]; exact k1) k2 (by rw [k4] <;> rfl) rfl rfl hd (hK _ _ _ _ h ls _ H locs hL ⟨yp0 (by rw [e1, hL5]), h2⟩ hW hl hf)
  | invokespecial i =>
    obtain ⟨rfl, -⟩ := of_decide_eq_true hok
    exact h.elim
  | invokevirtual i =>
    rcases of_decide_eq_true hok with ⟨rfl, rfl, rfl, h1⟩ | ⟨rfl, rfl, rfl, h1⟩ | ⟨rfl, rfl, rfl, h1⟩ | ⟨rfl, rfl, rfl, h1, rfl, h2, h2', h3, h4, h5, h6, h7⟩
    · obtain ⟨i, S', rfl, hi, hcat, h⟩ := h
      intro ls st H locs hL hS hW hl hf
      obtain ⟨st1, rfl, h2⟩ := ys3 hS
      rw [show (10 + (i : Int)).toNat = 10 + i by omega]
      have w6 := jlen_b i hi
      exact j_callVH (n := 0) (vs := []) (rest := st1) hi (j_length hi) hx hb hml hown hts GL.2.2.2.1.2.1 (xqin_ok h1) jw_length.1 jw_length.2.1 jw_length.2.2.1 jw_length.2.2.2 jn_length rfl ⟨by omega, by omega⟩ hL.1 (by rw [XScat h2]; exact hcat) hd hce hsl hl (by rw [hW.1]; exact Nat.le_add_right _ _) hf (fun locs' hl' => (hK _ _ _ _ h ls _ H locs' hL ⟨yp0 (Int32.toInt_ofNat_of_lt (by omega)), h2⟩ hW hl' hf)) rfl
    · obtain ⟨i, k, S', rfl, hi, hk2, hcat, h⟩ := h
      intro ls st H locs hL hS hW hl hf
      obtain ⟨j, st0, rfl, hj, h0'⟩ := ys0 hS
      obtain ⟨st1, rfl, h2⟩ := ys3 h0'
      rw [show (10 + (i : Int)).toNat = 10 + i by omega]
      have w6 := jlen_b i hi
      have ej : j = Int32.ofNat k := Int32.toInt_inj.mp (by rw [hj]; exact (Int32.toInt_ofNat_of_lt (by omega)).symm)
      subst ej
      exact j_callVH (n := 1) (vs := [.int (Int32.ofNat k)]) (rest := st1) hi (j_charAt hi hk2) hx hb hml hown hts GL.2.2.2.1.2.1 (xqin_ok h1) jw_charAt.1 jw_charAt.2.1 jw_charAt.2.2.1 jw_charAt.2.2.2 jn_charAt rfl ⟨by omega, by omega⟩ hL.1 (by rw [XScat h2]; exact hcat) hd hce hsl hl (by rw [hW.1]; exact Nat.le_add_right _ _) hf (fun locs' hl' => (hK _ _ _ _ h ls _ H locs' hL ⟨yp0 rfl, h2⟩ hW hl' hf)) rfl
    · obtain ⟨i, a, S', rfl, hi, ⟨ha1, ha2⟩, hcat, h⟩ := h
      intro ls st H locs hL hS hW hl hf
      obtain ⟨j, st0, rfl, hj, h0'⟩ := ys0 hS
      obtain ⟨st1, rfl, h2⟩ := ys3 h0'
      rw [show (10 + (i : Int)).toNat = 10 + i by omega]
      have e0 : (0 : Int32).toInt = 0 := rfl
      have e255 : (255 : Int32).toInt = 255 := rfl
      exact j_callVH (n := 1) (vs := [.int j]) (rest := st1) hi (j_indexOf hi (by rw [Int32.lt_iff_toInt_lt]; omega) (by rw [Int32.lt_iff_toInt_lt]; omega)) hx hb hml hown hts GL.2.2.2.1.2.1 (xqin_ok h1) jw_indexOf.1 jw_indexOf.2.1 jw_indexOf.2.2.1 jw_indexOf.2.2.2 jn_indexOf rfl ⟨by omega, by omega⟩ hL.1 (by rw [XScat h2]; exact hcat) hd hce hsl hl (by rw [hW.1]; exact Nat.le_add_right _ _) hf (fun locs' hl' => (hK _ _ _ _ h ls _ H locs' hL ⟨yp0 (by unfold ysix; rw [← hj, Int32.ofInt_toInt]), h2⟩ hW hl' hf)) rfl
    obtain ⟨as, S', Pq, rfl, hna, hcat, ⟨a, as', ts, rfl, ha, hg⟩, hcal, hk⟩ := h
    obtain ⟨c1, c2, c3, c4, c5⟩ := xqcall_ok h1
    obtain ⟨hdep, hMet⟩ := hcal
    have hroomR := hroomR r1 h1 hdep
    refine ys_call GL hcat (fun r σ' q => hK _ _ _ _ (hk r σ' q)) ?_
    intro H locs ls vs rest hlen hbl hPc hcat hls hW has
    obtain ⟨v0, As, rfl, y1, y2⟩ := XSok_cons has
    have y1 : v0 = .ref (G.1 + a.toNat) := y1
    subst y1
    obtain ⟨vs', z1, z2, r, hr, cell, z3, z4, z5, z6⟩ := (hW.2 _ _ hg).1 (by dsimp only; omega)
    dsimp only at hr z3 z4
    have hC : r.1 = (xqyn r1).cls := by rw [hr] at h3; exact h3
    refine ⟨(Value.ref (G.1 + a.toNat) :: As).toArray, ?_⟩
    rw [List.reverse_cons, List.append_assoc]
    refine va_runV (C := (xqyn r1).cls) (As := As) (rest := rest) ⟨hx, hb, hml, hown, hts⟩ hMet (cwV (ret := xqrty (xqrt r1)) (xqcnt r1) hts ?_ rfl rfl rfl ⟨rfl, c2, c3, c4⟩ hroomR) ⟨hbl, ⟨cell, z3, by rw [z5]; rfl, by rw [z4, ← hC]; exact (GL.1.1 _ _ hr).2.1⟩, hPc⟩ rfl (by simpa [hna] using hlen) hls rfl (lv_room hcat) hd ⟨hce, hsl⟩
    intro w hw
    rcases List.mem_append.mp hw with hw | hw
    · simp only [List.mem_cons, List.not_mem_nil, or_false] at hw
      rcases hw with rfl | rfl | rfl | rfl
      · exact xqgood1 (xqin_ok h4)
      · exact xqgood1 (xqin_ok h6)
      · exact xqgood1 (xqin_ok h5)
      · exact xqgood1 (xqin_ok h7)
    · exact xqgoodw c1 w hw
  | invokestatic i =>
    rcases of_decide_eq_true hok with ⟨rfl, rfl, rfl, h1, rfl, h4, h5, h6⟩ | ⟨rfl, rfl, rfl, hz⟩
    · obtain ⟨as, S', Pq, rfl, hna, hcat, hcal, hk⟩ := h
      obtain ⟨c1, c2, c3, c4, c5⟩ := xqcall_ok h1
      obtain ⟨hdep, hMet⟩ := hcal
      have hroomR := hroomR r1 h1 hdep
      refine ys_call GL hcat (fun r σ' q => hK _ _ _ _ (hk r σ' q)) ?_
      intro H locs ls vs rest hlen hbl hPc hcat hls hW has
      refine ⟨_, va_runSN (As := vs) (rest := rest) ⟨hx, hb, hml, hown, hts⟩ hMet ⟨va_cnB (xqcnt r1) hts (xqgoodw c1) rfl rfl rfl (GL.1.2.1 _ h4) (hts _ (xqin_ok h6)) ⟨c2, c3, c4⟩ hroomR, hts _ (xqin_ok h5), trivial⟩ ⟨hbl, hPc⟩ rfl (hlen.trans hna) hls rfl (lv_room hcat) hd ⟨hce, hsl⟩⟩
    rcases hz with ⟨rfl, h1⟩ | ⟨rfl, h1⟩ | ⟨h1, rfl, h4, h5, h6⟩
    · rcases h with ⟨-, a, b, S', rfl, hcat, h⟩ | ⟨q, -⟩ | ⟨q, -⟩
      · exact ys_min hx hb hml hown hts (xqin_ok h1) (by omega) (by omega) hce hsl xqmin1 xqmin2 xqmin3 hd hcat (hK _ _ _ _ h)
      · omega
      · omega
    · rcases h with ⟨q, -⟩ | ⟨-, a, b, sp, dp, n, S', len, len', rfl, ⟨g1, g2⟩, ⟨g3, g4⟩, ⟨g5, g6, g7, g8, g9⟩, hcat, h⟩ | ⟨q, -⟩
      · omega
      · exact ys_copy hx hb hml hown hts (xqin_ok h1) xqcop1 xqcop2 xqcop3 (by omega) (by omega) hd g2 g4 g1 g3 g5 g6 g7 g8 g9 hcat (hK _ _ _ _ h)
      · omega
    · rcases h with ⟨q, -⟩ | ⟨q, -⟩ | ⟨-, as, S', Pq, rfl, hna, hcat, hcal, hk⟩
      · omega
      · omega
      obtain ⟨c1, c2, c3, c4, c5⟩ := xqcall_ok h1
      obtain ⟨hdep, hMet⟩ := hcal
      have hroomR := hroomR r1 h1 hdep
      refine ys_call GL hcat (fun r σ' q => hK _ _ _ _ (hk r σ' q)) ?_
      intro H locs ls vs rest hlen hbl hPc hcat hls hW has
      refine ⟨_, va_runS (As := vs) (rest := rest) ⟨hx, hb, hml, hown, hts⟩ hMet (va_cwS (ret := xqrty (xqrt r1)) (xqcnt r1) hts ?_ rfl rfl rfl ⟨c2, c3, c4⟩ hroomR) ⟨hbl, hPc⟩ rfl (hlen.trans hna) hls rfl (lv_room hcat) hd ⟨hce, hsl⟩⟩
      intro w hw
      rcases List.mem_append.mp hw with hw | hw
      · simp only [List.mem_cons, List.not_mem_nil, or_false] at hw
        rcases hw with rfl | rfl | rfl
        · exact xqgood1 (xqin_ok h4)
        · exact xqgood1 (xqin_ok h5)
        · exact xqgood1 (xqin_ok h6)
      · exact xqgoodw c1 w hw
  | ireturn =>
    obtain ⟨rfl, rfl⟩ := of_decide_eq_true hok
    obtain ⟨v, rfl, hrt, h⟩ := h
    intro ls st H locs hL hS hW hl hf
    obtain ⟨i, st1, rfl, hi, y2⟩ := ys0 hS
    have y2 := XSok_nil y2
    subst y2
    exact hRi v σ hrt h pc ls i H locs hd hi hW hl hf
  | lreturn =>
    obtain ⟨rfl, rfl⟩ := of_decide_eq_true hok
    obtain ⟨v, rfl, hrt, h⟩ := h
    intro ls st H locs hL hS hW hl hf
    obtain ⟨i, st1, rfl, hi, y2⟩ := ys1 hS
    have y2 := XSok_nil y2
    subst y2
    exact hRl v σ hrt h pc ls i H locs hd hi hW hl hf
  | return_ =>
    obtain ⟨rfl, rfl⟩ := of_decide_eq_true hok
    obtain ⟨rfl, hrt, h⟩ := h
    intro ls st H locs hL hS hW hl hf
    have y2 := XSok_nil hS
    subst y2
    exact hRv σ hrt h pc ls H locs hd hW hl hf
  | ior =>
    obtain ⟨rfl, rfl, rfl⟩ := of_decide_eq_true hok
    obtain ⟨a, b, S', rfl, h⟩ := h
    intro ls st H locs hL hS hW hl hf
    obtain ⟨j, st0, rfl, hj, h0'⟩ := ys0 hS
    obtain ⟨i, st1, rfl, hi, h4⟩ := ys0 h0'
    exact lv_ior hx hb hd (hK _ _ _ _ h ls _ H locs hL ⟨yp0 (by subst hi hj; unfold yor; rw [Int32.ofInt_toInt, Int32.ofInt_toInt]), h4⟩ hW hl hf)
  | idiv =>
    obtain ⟨rfl, rfl, rfl⟩ := of_decide_eq_true hok
    obtain ⟨a, b, S', rfl, hr, h⟩ := h
    intro ls st H locs hL hS hW hl hf
    obtain ⟨j, st0, rfl, hj, h0'⟩ := ys0 hS
    obtain ⟨i, st1, rfl, hi, h4⟩ := ys0 h0'
    exact lv_idiv hx hb hd (fun q => by subst q; have e : (0 : Int32).toInt = 0 := rfl; omega) (hK _ _ _ _ h ls _ H locs hL ⟨yp0 (ydiv_ok hi hj hr.1 hr.2), h4⟩ hW hl hf)
  | ishr =>
    obtain ⟨rfl, rfl, rfl⟩ := of_decide_eq_true hok
    obtain ⟨a, b, S', rfl, h⟩ := h
    intro ls st H locs hL hS hW hl hf
    obtain ⟨j, st0, rfl, hj, h0'⟩ := ys0 hS
    obtain ⟨i, st1, rfl, hi, h4⟩ := ys0 h0'
    exact lv_ishr hx hb hd (hK _ _ _ _ h ls _ H locs hL ⟨yp0 (by subst hi hj; unfold yshr; rw [Int32.ofInt_toInt, Int32.ofInt_toInt]), h4⟩ hW hl hf)
  | lsub =>
    obtain ⟨rfl, rfl, rfl⟩ := of_decide_eq_true hok
    obtain ⟨a, b, S', rfl, h⟩ := h
    intro ls st H locs hL hS hW hl hf
    obtain ⟨j, st0, rfl, hj, h0'⟩ := ys1 hS
    obtain ⟨i, st1, rfl, hi, h4⟩ := ys1 h0'
    exact lv_lsub hx hb hd (hK _ _ _ _ h ls _ H locs hL ⟨yp1 (by subst hi hj; unfold ylsub; rw [Int64.ofInt_toInt, Int64.ofInt_toInt]), h4⟩ hW hl hf)
  | i2c =>
    obtain ⟨rfl, rfl, rfl⟩ := of_decide_eq_true hok
    obtain ⟨a, S', rfl, hr, h⟩ := h
    intro ls st H locs hL hS hW hl hf
    obtain ⟨i, st1, rfl, hi, h4⟩ := ys0 hS
    exact lv_i2c hx hb hd (yi2c_ok (by omega) (by omega)) (hK _ _ _ _ h ls _ H locs hL ⟨yp0 hi, h4⟩ hW hl hf)
  | pop2 =>
    obtain ⟨rfl, rfl, rfl⟩ := of_decide_eq_true hok
    obtain ⟨v, S', rfl, h⟩ := h
    intro ls st H locs hL hS hW hl hf
    obtain ⟨i, st1, rfl, hi, h2⟩ := ys1 hS
    exact lv_pop2_2 hx hb hd rfl (hK _ _ _ _ h ls _ H locs hL h2 hW hl hf)
  | lookupswitch df ps =>
    obtain ⟨rfl, hz, hp⟩ := of_decide_eq_true hok
    obtain ⟨v, S', df', ps', t, rfl, hz', ht, k⟩ := h
    rw [hz] at hz'
    cases hz'
    intro ls st H locs hL hS hW hl hf
    obtain ⟨i, st1, rfl, hi, h2⟩ := ys0 hS
    exact lv_lookup (tgt := t) hx hb hd hp rfl (by rw [hi]; exact ht) (hK _ _ _ _ k ls st1 H locs hL h2 hW hl hf)
  | ldc i =>
    obtain ⟨rfl, rfl, rfl, hz⟩ := of_decide_eq_true hok
    intro ls st H locs hL hS hW hl hf
    obtain ⟨tx, hR⟩ := GL.2.2.2.1.2.2 A own i hz
    exact va_ldcS hx hb hown hR hd (hK _ _ _ _ h ls _ H locs hL ⟨show _ = Value.ref (G.2.1 ((10 + (A : Int)).toNat)) by rw [show (10 + (A : Int)).toNat = 10 + A by omega], hS⟩ hW hl hf)
  | _ => exact absurd hok (by simp [xqokI])
end YQ2
