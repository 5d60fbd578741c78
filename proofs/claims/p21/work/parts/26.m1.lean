/-! Brackets of a slip: how many stand open, which, whose fellow is where, where the first fault is. -/
def bo (f : Int → Int) : Nat → Int
  | 0 => 0
  | k + 1 => if f k = 7 then bo f k + 1 else if f k = 8 then bo f k - 1 else bo f k
def bl (f : Int → Int) : Nat → Int
  | 0 => 0
  | k + 1 => if f k = 7 then 1 else 0
def bs (f : Int → Int) : Nat → Int → Int
  | 0 => fun _ => -1
  | k + 1 => fun d => if f k = 7 ∧ d = bo f k then k else bs f k d
def bp (f : Int → Int) : Nat → Int → Int
  | 0 => fun _ => -1
  | k + 1 => fun j => if f k = 8 then (if j = k then bs f k (bo f k - 1) else if j = bs f k (bo f k - 1) then k else bp f k j) else bp f k j
abbrev bbad (f : Int → Int) (k : Nat) : Prop := (bl f k = 0 ∧ 8 < f k) ∨ (bl f k = 1 ∧ f k ≤ 8) ∨ (f k = 8 ∧ bo f k = 0)
def bw (f : Int → Int) : Nat → Int
  | 0 => -1
  | k + 1 => if bw f k ≠ -1 then bw f k else if bbad f k then k else -1
def bflaw (f : Int → Int) (n : Nat) : Int := if bw f n ≠ -1 then bw f n else if 0 < bo f n then n else -1
theorem bl_01 (f : Int → Int) : ∀ k : Nat, bl f k = 0 ∨ bl f k = 1
  | 0 => Or.inl rfl
  | k + 1 => by unfold bl; split <;> omega
theorem bw_0 (f : Int → Int) : ∀ k : Nat, -1 ≤ bw f k ∧ bw f k < k
  | 0 => by unfold bw; omega
  | k + 1 => by
    have := bw_0 f k
    unfold bw
    split
    · omega
    · split <;> omega
theorem bw_pre {f : Int → Int} {k : Nat} (h : bw f (k + 1) = -1) : bw f k = -1 ∧ ¬ bbad f k := by
  unfold bw at h
  split at h
  · rename_i h1; exact absurd h h1
  · rename_i h1
    split at h
    · omega
    · rename_i h2; exact ⟨by omega, h2⟩
theorem bw_up {f : Int → Int} {k : Nat} (h : bw f k = -1) (hb : ¬ bbad f k) : bw f (k + 1) = -1 := by
  show (if bw f k ≠ -1 then bw f k else if bbad f k then (k : Int) else -1) = -1
  rw [if_neg (by omega), if_neg hb]
theorem bw_bad {f : Int → Int} {k : Nat} (h : bw f k = -1) (hb : bbad f k) : bw f (k + 1) = k := by
  show (if bw f k ≠ -1 then bw f k else if bbad f k then (k : Int) else -1) = k
  rw [if_neg (by omega), if_pos hb]
theorem bw_stay {f : Int → Int} {k : Nat} (h : bw f k ≠ -1) : ∀ n : Nat, k ≤ n → bw f n = bw f k
  | 0, hn => by have : k = 0 := by omega
                subst this; rfl
  | n + 1, hn => by
    by_cases e : k = n + 1
    · subst e; rfl
    · have := bw_stay h n (by omega)
      show (if bw f n ≠ -1 then bw f n else _) = _
      rw [if_pos (by rw [this]; exact h), this]
theorem bw_down {f : Int → Int} {n k : Nat} (h : bw f n = -1) (hk : k ≤ n) : bw f k = -1 := by
  by_cases e : bw f k = -1
  · exact e
  · have := bw_stay e n hk
    omega
theorem bo_7 {f : Int → Int} {k : Nat} (h : f k = 7) : bo f (k + 1) = bo f k + 1 := by
  show (if f k = 7 then _ else _) = _
  rw [if_pos h]
theorem bo_8 {f : Int → Int} {k : Nat} (h : f k = 8) : bo f (k + 1) = bo f k - 1 := by
  show (if f k = 7 then _ else _) = _
  rw [if_neg (by omega), if_pos h]
theorem bo_n {f : Int → Int} {k : Nat} (h : f k ≠ 7) (h' : f k ≠ 8) : bo f (k + 1) = bo f k := by
  show (if f k = 7 then _ else _) = _
  rw [if_neg h, if_neg h']
theorem bl_7 {f : Int → Int} {k : Nat} (h : f k = 7) : bl f (k + 1) = 1 := by
  show (if f k = 7 then _ else _) = _
  rw [if_pos h]
theorem bl_n {f : Int → Int} {k : Nat} (h : f k ≠ 7) : bl f (k + 1) = 0 := by
  show (if f k = 7 then _ else _) = _
  rw [if_neg h]
theorem bs_7 {f : Int → Int} {k : Nat} (h : f k = 7) : bs f (k + 1) (bo f k) = k := by
  show (if f k = 7 ∧ _ then _ else _) = _
  rw [if_pos ⟨h, rfl⟩]
theorem bs_n {f : Int → Int} {k : Nat} {d : Int} (h : ¬ (f k = 7 ∧ d = bo f k)) : bs f (k + 1) d = bs f k d := by
  show (if f k = 7 ∧ _ then _ else _) = _
  rw [if_neg h]
theorem bp_n {f : Int → Int} {k : Nat} {j : Int} (h : f k ≠ 8) : bp f (k + 1) j = bp f k j := by
  show (if f k = 8 then _ else _) = _
  rw [if_neg h]
theorem bp_k {f : Int → Int} {k : Nat} (h : f k = 8) : bp f (k + 1) k = bs f k (bo f k - 1) := by
  show (if f k = 8 then (if (k : Int) = k then _ else _) else _) = _
  rw [if_pos h, if_pos rfl]
theorem bp_t {f : Int → Int} {k : Nat} {j : Int} (h : f k = 8) (h1 : j ≠ k) (h2 : j = bs f k (bo f k - 1)) : bp f (k + 1) j = k := by
  show (if f k = 8 then (if j = k then _ else if _ then _ else _) else _) = _
  rw [if_pos h, if_neg h1, if_pos h2]
theorem bp_o {f : Int → Int} {k : Nat} {j : Int} (h : f k = 8) (h1 : j ≠ k) (h2 : j ≠ bs f k (bo f k - 1)) : bp f (k + 1) j = bp f k j := by
  show (if f k = 8 then (if j = k then _ else if _ then _ else _) else _) = _
  rw [if_pos h, if_neg h1, if_neg h2]
/-- a bracket whose fellow has been found -/
def bc (f : Int → Int) (k : Nat) (j : Int) : Prop := 0 ≤ j ∧ j < k ∧ (f j = 7 ∨ f j = 8) ∧ ∀ d, 0 ≤ d → d < bo f k → bs f k d ≠ j
theorem bgood (f : Int → Int) : ∀ k : Nat, bw f k = -1 → (0 ≤ bo f k ∧ bo f k ≤ k) ∧ (∀ d, 0 ≤ d → d < bo f k → 0 ≤ bs f k d ∧ bs f k d < k ∧ f (bs f k d) = 7) ∧ (∀ d e, 0 ≤ d → d < e → e < bo f k → bs f k d < bs f k e) ∧ (∀ j, bc f k j → 0 ≤ bp f k j ∧ bp f k j < k)
  | 0, _ => ⟨by unfold bo; omega, fun d h1 h2 => by unfold bo at h2; omega, fun d e h1 h2 h3 => by unfold bo at h3; omega, fun j h => by have := h.1; have := h.2.1; omega⟩
  | k + 1, h => by
    obtain ⟨h1, h2⟩ := bw_pre h
    obtain ⟨⟨g1, g2⟩, g3, g4, g5⟩ := bgood f k h1
    by_cases e7 : f k = 7
    · rw [bo_7 e7]
      refine ⟨by omega, fun d hd1 hd2 => ?_, fun d e hd1 hd2 hd3 => ?_, fun j hj => ?_⟩
      · by_cases e : d = bo f k
        · subst e; rw [bs_7 e7]; exact ⟨by omega, by omega, e7⟩
        · rw [bs_n (by omega)]; have := g3 d hd1 (by omega); exact ⟨by omega, by omega, this.2.2⟩
      · rw [bs_n (d := d) (by omega)]
        by_cases e' : e = bo f k
        · subst e'; rw [bs_7 e7]; have := g3 d hd1 (by omega); omega
        · rw [bs_n (by omega)]; exact g4 d e hd1 hd2 (by omega)
      · obtain ⟨j1, j2, j3, j4⟩ := hj
        rw [bo_7 e7] at j4
        have hjk : j ≠ k := fun e => j4 (bo f k) (by omega) (by omega) (by rw [bs_7 e7, e])
        rw [bp_n (by omega)]
        have := g5 j ⟨j1, by omega, j3, fun d hd1 hd2 => by have := j4 d hd1 (by omega); rw [bs_n (by omega)] at this; exact this⟩
        omega
    · by_cases e8 : f k = 8
      · have hb : 0 < bo f k := by
          rcases (by omega : bo f k = 0 ∨ 0 < bo f k) with z | z
          · exact absurd (Or.inr (Or.inr ⟨e8, z⟩)) h2
          · exact z
        have gt := g3 (bo f k - 1) (by omega) (by omega)
        rw [bo_8 e8]
        refine ⟨by omega, fun d hd1 hd2 => ?_, fun d e hd1 hd2 hd3 => ?_, fun j hj => ?_⟩
        · rw [bs_n (by omega)]; have := g3 d hd1 (by omega); exact ⟨by omega, by omega, this.2.2⟩
        · rw [bs_n (by omega), bs_n (by omega)]; exact g4 d e hd1 hd2 (by omega)
        · obtain ⟨j1, j2, j3, j4⟩ := hj
          rw [bo_8 e8] at j4
          by_cases ek : j = k
          · subst ek; rw [bp_k e8]; omega
          · by_cases et : j = bs f k (bo f k - 1)
            · rw [bp_t e8 ek et]; omega
            · rw [bp_o e8 ek et]
              have := g5 j ⟨j1, by omega, j3, fun d hd1 hd2 => by
                by_cases ed : d = bo f k - 1
                · subst ed; exact fun z => et z.symm
                · have := j4 d hd1 (by omega); rw [bs_n (by omega)] at this; exact this⟩
              omega
      · rw [bo_n e7 e8]
        refine ⟨by omega, fun d hd1 hd2 => ?_, fun d e hd1 hd2 hd3 => ?_, fun j hj => ?_⟩
        · rw [bs_n (by omega)]; have := g3 d hd1 hd2; exact ⟨by omega, by omega, this.2.2⟩
        · rw [bs_n (by omega), bs_n (by omega)]; exact g4 d e hd1 hd2 hd3
        · obtain ⟨j1, j2, j3, j4⟩ := hj
          rw [bo_n e7 e8] at j4
          have ek : j ≠ k := fun e => by subst e; omega
          rw [bp_n e8]
          have := g5 j ⟨j1, by omega, j3, fun d hd1 hd2 => by have := j4 d hd1 hd2; rw [bs_n (by omega)] at this; exact this⟩
          omega
/-- in a slip without a fault each bracket has its fellow, and a letter stands behind each '(' -/
theorem bfine {f : Int → Int} {n : Nat} (h : bflaw f n = -1) {j : Int} (h0 : 0 ≤ j) (h1 : j < n) : (f j = 7 → j + 1 < n ∧ 0 ≤ bp f n j ∧ bp f n j < n) ∧ (f j = 8 → 0 ≤ bp f n j ∧ bp f n j < n) := by
  have hw : bw f n = -1 := by unfold bflaw at h; split at h <;> omega
  have g := bgood f n hw
  have hb : bo f n = 0 := by
    unfold bflaw at h
    rw [if_neg (by omega)] at h
    split at h <;> omega
  have hc : (f j = 7 ∨ f j = 8) → 0 ≤ bp f n j ∧ bp f n j < n := fun e => g.2.2.2 j ⟨h0, h1, e, fun d hd1 hd2 => by omega⟩
  refine ⟨fun e => ⟨?_, hc (Or.inl e)⟩, fun e => hc (Or.inr e)⟩
  rcases (by omega : j + 1 < n ∨ j + 1 = n) with z | z
  · exact z
  · exfalso
    obtain ⟨k, rfl⟩ : ∃ k, n = k + 1 := ⟨n - 1, by omega⟩
    have hj : j = k := by omega
    subst hj
    have := bo_7 e
    have := (bgood f k (bw_pre hw).1).1
    omega
theorem bcong {f g : Int → Int} : ∀ n : Nat, (∀ j, 0 ≤ j → j < n → f j = g j) → bo f n = bo g n ∧ bl f n = bl g n ∧ bs f n = bs g n ∧ bp f n = bp g n ∧ bw f n = bw g n
  | 0, _ => ⟨rfl, rfl, rfl, rfl, rfl⟩
  | n + 1, h => by
    obtain ⟨h1, h2, h3, h4, h5⟩ := bcong n (fun j a b => h j a (by omega))
    have hf := h n (by omega) (by omega)
    have hb : bbad f n ↔ bbad g n := by unfold bbad; rw [h1, h2, hf]
    refine ⟨?_, ?_, ?_, ?_, ?_⟩
    · unfold bo; rw [h1, hf]
    · show (if f n = 7 then (1 : Int) else 0) = if g n = 7 then 1 else 0
      rw [hf]
    · unfold bs; rw [h1, h3, hf]
    · unfold bp; rw [h1, h3, h4, hf]
    · unfold bw; rw [h5]; simp only [hb]
theorem bflaw_cong {f g : Int → Int} {n : Nat} (h : ∀ j, 0 ≤ j → j < n → f j = g j) : bflaw f n = bflaw g n := by
  obtain ⟨h1, _, _, _, h5⟩ := bcong n h
  unfold bflaw
  rw [h1, h5]
theorem bflaw_r (f : Int → Int) (n : Nat) : -1 ≤ bflaw f n ∧ bflaw f n ≤ n := by
  have := bw_0 f n
  unfold bflaw
  split
  · omega
  · split <;> omega
/-! What a street is (E: what stays in a step, D: what a step changes), and a step of one man. -/
abbrev mholds (D : YS) (i q : Int) : Prop := (q = 9 ∧ 0 < D 0 (D 1 i)) ∨ (q = 10 ∧ D 0 (D 1 i) = 0) ∨ (q = 11 ∧ 0 < D 2 i) ∨ (q = 12 ∧ D 2 i = 0) ∨ q < 9 ∨ 12 < q
def mgoal (kind cell sign num n : Int) : Int := if (kind = 2 ∨ kind = 5) ∧ num % 2 = 1 then cell else if sign = 0 ∧ 0 < cell then cell - 1 else if sign = 1 ∧ cell < n - 1 then cell + 1 else cell
def mtimes (kind : Int) : Int := if kind = 1 then 2 else if kind = 4 then 20 else 1
def mfetch1 (D : YS) (i : Int) : YS := if 0 < D 0 (D 1 i) ∧ D 2 i < 20 then yset (yset D 0 (D 1 i) (D 0 (D 1 i) - 1)) 2 i (D 2 i + 1) else D
def mfetch (D : YS) (i : Int) : Nat → YS
  | 0 => D
  | n + 1 => mfetch (mfetch1 D i) i n
def mput (D : YS) (i : Int) : YS := if 0 < D 2 i ∧ D 0 (D 1 i) < 20 then yset (yset D 2 i (D 2 i - 1)) 0 (D 1 i) (D 0 (D 1 i) + 1) else D
/-- man q is in the street (a mask) -/
abbrev mth (E : YS) (q : Int) : Prop := yand (yshr (E 6 0) q) 1 = 1
abbrev mnear (E D : YS) (i q : Int) : Prop := q < E 1 0 ∧ q ≠ i ∧ mth E q ∧ D 1 q = D 1 i
abbrev malone (E D : YS) (i : Int) : Prop := ¬ mnear E D i 0 ∧ ¬ mnear E D i 1 ∧ ¬ mnear E D i 2
abbrev msg (E : YS) (i : Int) : Int → Int := E (10 + i)
abbrev mlen (E : YS) (i : Int) : Nat := (E 3 i).toNat
abbrev mfl (E : YS) (i : Int) : Int := bflaw (msg E i) (mlen E i)
abbrev mpa (E : YS) (i k : Int) : Int := bp (msg E i) (mlen E i) k
def mwork (E D : YS) (i sg : Int) : YS :=
  if sg = 2 ∧ ¬ (E 2 i = 5 ∧ D 5 0 % 7 = 6) then mfetch D i (mtimes (E 2 i)).toNat
  else if sg = 3 ∧ ¬ (E 2 i = 5 ∧ D 5 0 % 7 = 6) then mput D i
  else if sg = 5 then yset D 4 i 1
  else yset D 1 i (mgoal (E 2 i) (D 1 i) sg (D 5 0) (E 0 0))
def mact (E D : YS) (i : Int) : YS :=
  if E 3 i ≤ D 3 i then yset D 4 i 1
  else if msg E i (D 3 i) = 7 then yset D 3 i (if mholds D i (msg E i (D 3 i + 1)) then D 3 i + 2 else mpa E i (D 3 i) + 1)
  else if msg E i (D 3 i) = 8 then yset D 3 i (mpa E i (D 3 i))
  else if msg E i (D 3 i) = 6 ∧ E 2 i ≠ 3 ∧ malone E D i then yset D 6 0 (yor (D 6 0) (yshl 1 i))
  else yset (mwork E D i (msg E i (D 3 i))) 3 i (D 3 i + 1)
def macts (E D : YS) : Nat → YS
  | 0 => D
  | n + 1 => if macts E D n 4 n = 0 ∧ mth E n then mact E (macts E D n) n else macts E D n
def mstep (E D : YS) : YS := yset (macts E (yset D 6 0 0) (E 1 0).toNat) 5 0 (macts E (yset D 6 0 0) (E 1 0).toNat 5 0 + 1)
def msteps (E D : YS) : Nat → YS
  | 0 => D
  | n + 1 => mstep E (msteps E D n)
/-- how many of the first n go on -/
def mgo (E D : YS) : Nat → Int
  | 0 => 0
  | n + 1 => mgo E D n + if D 4 n = 0 ∧ mth E n then 1 else 0
def eGm (E : YS) (i : Int) : Prop := (0 ≤ E 2 i ∧ E 2 i ≤ 5) ∧ (0 ≤ E 3 i ∧ E 3 i ≤ 24) ∧ ∀ k, 0 ≤ k → k < E 3 i → 0 ≤ msg E i k ∧ msg E i k ≤ 13
def eG (E : YS) : Prop := (2 ≤ E 0 0 ∧ E 0 0 ≤ 9) ∧ (0 ≤ E 1 0 ∧ E 1 0 ≤ 3) ∧ ∀ i, 0 ≤ i → i < E 1 0 → eGm E i
def dGm (E D : YS) (i : Int) : Prop := (0 ≤ D 1 i ∧ D 1 i < E 0 0) ∧ (0 ≤ D 2 i ∧ D 2 i ≤ 20) ∧ (0 ≤ D 3 i ∧ D 3 i ≤ E 3 i) ∧ (D 4 i = 0 ∧ 0 < E 3 i ∧ mfl E i = -1 ∨ D 4 i = 1)
def dG (E D : YS) : Prop := (∀ c, 0 ≤ c → c < 9 → 0 ≤ D 0 c ∧ D 0 c ≤ 20) ∧ ∀ i, 0 ≤ i → i < E 1 0 → dGm E D i
/-- the man's slip, learnt -/
def lrn (σ : YS) (a : Int) (f : Int → Int) (n : Int) : Prop := σ a 2 = n ∧ (∀ k, 0 ≤ k → k < n → σ (a + 1) k = f k) ∧ σ a 3 = bflaw f n.toNat ∧ (bflaw f n.toNat = -1 → ∀ k, 0 ≤ k → k < n → f k = 7 ∨ f k = 8 → σ (a + 2) k = bp f n.toNat k)
def repm (σ : YS) (a : Int) (E D : YS) (i : Int) : Prop := lrn σ a (msg E i) (E 3 i) ∧ σ a 4 = E 2 i ∧ (σ a 5 = D 1 i ∧ σ a 6 = D 2 i ∧ σ a 7 = D 3 i) ∧ (D 4 i = 0 ↔ ¬ mst σ a) ∧ (σ a 8 = 0 ∨ σ a 8 = 1)
def rep (σ : YS) (s : Int) (E D : YS) : Prop := (σ s 4 = E 0 0 ∧ σ s 5 = E 1 0 ∧ σ s 6 = D 5 0 ∧ σ s 7 = D 6 0) ∧ (∀ c, 0 ≤ c → c < 9 → σ (s + 1) c = D 0 c) ∧ (∀ i, 0 ≤ i → i < E 1 0 → repm σ (s + 3 + 3 * i) E D i) ∧ E 6 0 = 7 ∧ ∀ j, 0 ≤ j → j < 4 → σ (s + 12) j = E 7 j
theorem mth_7 {E : YS} (h : E 6 0 = 7) (q : Int) (h0 : 0 ≤ q) (h1 : q < 3) : mth E q := by
  rcases (by omega : q = 0 ∨ q = 1 ∨ q = 2) with rfl | rfl | rfl <;> (unfold mth; rw [h]; rfl)
/-- nothing outside these cells has changed -/
def yfr (σ σ' : YS) (lo hi : Int) : Prop := ∀ k j, k < lo ∨ hi < k → σ' k j = σ k j
theorem yfr_refl (σ : YS) (lo hi : Int) : yfr σ σ lo hi := fun _ _ _ => rfl
theorem yfr_trans {σ σ' σ'' : YS} {lo hi : Int} (h1 : yfr σ σ' lo hi) (h2 : yfr σ' σ'' lo hi) : yfr σ σ'' lo hi := fun k j h => (h2 k j h).trans (h1 k j h)
theorem yfr_w {σ σ' : YS} {lo hi lo' hi' : Int} (h1 : yfr σ σ' lo hi) (h : lo' ≤ lo ∧ hi ≤ hi') : yfr σ σ' lo' hi' := fun k j hk => h1 k j (by omega)
theorem yfr_set {σ σ' : YS} {lo hi k j v : Int} (h : yfr σ σ' lo hi) (hk : lo ≤ k ∧ k ≤ hi) : yfr σ (yset σ' k j v) lo hi := fun a b ha => by
  unfold yset
  rw [if_neg (by omega)]
  exact h a b ha
theorem yfr_cp {σ σ' : YS} {lo hi a p k q n : Int} (h : yfr σ σ' lo hi) (hk : lo ≤ k ∧ k ≤ hi) : yfr σ (ycopy σ' a p k q n) lo hi := fun c b hc => by
  unfold ycopy
  rw [if_neg (by omega)]
  exact h c b hc
theorem lrn_cong {σ σ' : YS} {a : Int} {f : Int → Int} {n : Int} (h : lrn σ a f n) (e : ∀ x y, (x = a ∧ (y = 2 ∨ y = 3)) ∨ x = a + 1 ∨ x = a + 2 → σ' x y = σ x y) : lrn σ' a f n := by
  obtain ⟨h1, h2, h3, h4⟩ := h
  exact ⟨by rw [e _ _ (by omega)]; exact h1, fun k a b => by rw [e _ _ (by omega)]; exact h2 k a b, by rw [e _ _ (by omega)]; exact h3, fun z k a b c => by rw [e _ _ (by omega)]; exact h4 z k a b c⟩
theorem mst_cong {σ σ' : YS} {a : Int} (e : ∀ y, 2 ≤ y → y ≤ 8 → σ' a y = σ a y) : mst σ' a ↔ mst σ a := by
  unfold mst
  rw [e 8 (by omega) (by omega), e 2 (by omega) (by omega), e 3 (by omega) (by omega)]
theorem repm_cong {σ σ' : YS} {a : Int} {E D : YS} {i : Int} (h : repm σ a E D i) (e : ∀ x y, a ≤ x → x ≤ a + 2 → σ' x y = σ x y) : repm σ' a E D i := by
  obtain ⟨h1, h2, ⟨h3, h4, h5⟩, h6, h7⟩ := h
  refine ⟨lrn_cong h1 (fun x y hx => e x y (by omega) (by omega)), ?_, ⟨?_, ?_, ?_⟩, by rw [mst_cong (fun y _ _ => e a y (by omega) (by omega))]; exact h6, ?_⟩ <;> rw [e _ _ (by omega) (by omega)] <;> assumption
theorem rep_cong {σ σ' : YS} {s : Int} {E D : YS} (hm : E 1 0 ≤ 3) (h : rep σ s E D) (e : ∀ x y, s ≤ x → x ≤ s + 12 → σ' x y = σ x y) : rep σ' s E D := by
  obtain ⟨⟨h1, h2, h3, h4⟩, h5, h6, h7⟩ := h
  refine ⟨⟨?_, ?_, ?_, ?_⟩, fun c a b => ?_, fun i a b => ?_, h7.1, fun j a b => by rw [e _ _ (by omega) (by omega)]; exact h7.2 j a b⟩
  · rw [e _ _ (by omega) (by omega)]; exact h1
  · rw [e _ _ (by omega) (by omega)]; exact h2
  · rw [e _ _ (by omega) (by omega)]; exact h3
  · rw [e _ _ (by omega) (by omega)]; exact h4
  · rw [e _ _ (by omega) (by omega)]; exact h5 c a b
  · exact repm_cong (h6 i a b) (fun x y hx hy => e x y (by omega) (by omega))
theorem repm_D {σ : YS} {a : Int} {E D : YS} {i r c v : Int} (h : repm σ a E D i) (hne : ¬ (1 ≤ r ∧ r ≤ 4 ∧ c = i)) : repm σ a E (yset D r c v) i := by
  have e : ∀ x, 1 ≤ x → x ≤ 4 → yset D r c v x i = D x i := fun x h1 h2 => yne (by omega) rfl
  unfold repm at h ⊢
  rw [e 1 (by omega) (by omega), e 2 (by omega) (by omega), e 3 (by omega) (by omega), e 4 (by omega) (by omega)]
  exact h
theorem repm_ne {σ : YS} {a k j v : Int} {E D : YS} {i : Int} (hk : k < a ∨ a + 2 < k) (h : repm σ a E D i) : repm (yset σ k j v) a E D i := repm_cong h (fun x y h1 h2 => yne (by omega) rfl)
theorem rep_w {σ : YS} {s : Int} {E D : YS} {c v : Int} (h : rep σ s E D) (hc : 0 ≤ c ∧ c < 9) : rep (yset σ (s + 1) c v) s E (yset D 0 c v) := by
  obtain ⟨⟨h1, h2, h3, h4⟩, h5, h6, h7⟩ := h
  refine ⟨⟨by rw [yne (by omega) rfl]; exact h1, by rw [yne (by omega) rfl]; exact h2, by rw [yne (by omega) rfl, yne (by omega) rfl]; exact h3, by rw [yne (by omega) rfl, yne (by omega) rfl]; exact h4⟩, fun d hd1 hd2 => ?_, fun i hi1 hi2 => repm_D (repm_ne (by omega) (h6 i hi1 hi2)) (by omega), h7.1, fun j a b => by rw [yne (by omega) rfl]; exact h7.2 j a b⟩
  by_cases e : d = c
  · subst e; rw [yeq, yeq]
  · rw [yne (by omega) rfl, yne (by omega) rfl]; exact h5 d hd1 hd2
theorem rep_num {σ : YS} {s : Int} {E D : YS} {v : Int} (h : rep σ s E D) : rep (yset σ s 6 v) s E (yset D 5 0 v) := by
  obtain ⟨⟨h1, h2, h3, h4⟩, h5, h6, h7⟩ := h
  exact ⟨⟨by rw [yne (by omega) rfl]; exact h1, by rw [yne (by omega) rfl]; exact h2, by rw [yeq, yeq], by rw [yne (by omega) rfl, yne (by omega) rfl]; exact h4⟩, fun d hd1 hd2 => by rw [yne (by omega) rfl, yne (by omega) rfl]; exact h5 d hd1 hd2, fun i hi1 hi2 => repm_D (repm_ne (by omega) (h6 i hi1 hi2)) (by omega), h7.1, fun j a b => by rw [yne (by omega) rfl]; exact h7.2 j a b⟩
theorem rep_wait {σ : YS} {s : Int} {E D : YS} {v : Int} (h : rep σ s E D) : rep (yset σ s 7 v) s E (yset D 6 0 v) := by
  obtain ⟨⟨h1, h2, h3, h4⟩, h5, h6, h7⟩ := h
  exact ⟨⟨by rw [yne (by omega) rfl]; exact h1, by rw [yne (by omega) rfl]; exact h2, by rw [yne (by omega) rfl, yne (by omega) rfl]; exact h3, by rw [yeq, yeq]⟩, fun d hd1 hd2 => by rw [yne (by omega) rfl, yne (by omega) rfl]; exact h5 d hd1 hd2, fun i hi1 hi2 => repm_D (repm_ne (by omega) (h6 i hi1 hi2)) (by omega), h7.1, fun j a b => by rw [yne (by omega) rfl]; exact h7.2 j a b⟩
/-- one of a man's four numbers: place j of the cell is row r of D -/
theorem rep_man {σ : YS} {s : Int} {E D : YS} {i j r v : Int} (h : rep σ s E D) (hi : 0 ≤ i ∧ i < E 1 0) (hj : (j = 5 ∧ r = 1) ∨ (j = 6 ∧ r = 2) ∨ (j = 7 ∧ r = 3) ∨ (j = 8 ∧ r = 4 ∧ v = 1)) : rep (yset σ (s + 3 + 3 * i) j v) s E (yset D r i v) := by
  obtain ⟨⟨h1, h2, h3, h4⟩, h5, h6, h7⟩ := h
  refine ⟨⟨by rw [yne (by omega) rfl]; exact h1, by rw [yne (by omega) rfl]; exact h2, by rw [yne (by omega) rfl, yne (by omega) rfl]; exact h3, by rw [yne (by omega) rfl, yne (by omega) rfl]; exact h4⟩, fun d hd1 hd2 => by rw [yne (by omega) rfl, yne (by omega) rfl]; exact h5 d hd1 hd2, fun q hq1 hq2 => ?_, h7.1, fun x a b => by rw [yne (by omega) rfl]; exact h7.2 x a b⟩
  by_cases e : ¬ q = i
  · exact repm_D (repm_ne (by omega) (h6 q hq1 hq2)) (by omega)
  have e : q = i := by omega
  subst e
  obtain ⟨g1, g2, ⟨g3, g4, g5⟩, g6, g7⟩ := h6 q hq1 hq2
  have g1' : lrn (yset σ (s + 3 + 3 * q) j v) (s + 3 + 3 * q) (msg E q) (E 3 q) := lrn_cong g1 (fun x y hx => yne (by omega) rfl)
  rcases hj with ⟨rfl, rfl⟩ | ⟨rfl, rfl⟩ | ⟨rfl, rfl⟩ | ⟨rfl, rfl, rfl⟩
  · refine ⟨g1', by rw [yne (by omega) rfl]; exact g2, ⟨by rw [yeq, yeq], by rw [yne (by omega) rfl, yne (by omega) rfl]; exact g4, by rw [yne (by omega) rfl, yne (by omega) rfl]; exact g5⟩, ?_, by rw [yne (by omega) rfl]; exact g7⟩
    unfold mst
    rw [yne (by omega) rfl, yne (by omega) rfl, yne (by omega) rfl, yne (by omega) rfl]
    exact g6
  · refine ⟨g1', by rw [yne (by omega) rfl]; exact g2, ⟨by rw [yne (by omega) rfl, yne (by omega) rfl]; exact g3, by rw [yeq, yeq], by rw [yne (by omega) rfl, yne (by omega) rfl]; exact g5⟩, ?_, by rw [yne (by omega) rfl]; exact g7⟩
    unfold mst
    rw [yne (by omega) rfl, yne (by omega) rfl, yne (by omega) rfl, yne (by omega) rfl]
    exact g6
  · refine ⟨g1', by rw [yne (by omega) rfl]; exact g2, ⟨by rw [yne (by omega) rfl, yne (by omega) rfl]; exact g3, by rw [yne (by omega) rfl, yne (by omega) rfl]; exact g4, by rw [yeq, yeq]⟩, ?_, by rw [yne (by omega) rfl]; exact g7⟩
    unfold mst
    rw [yne (by omega) rfl, yne (by omega) rfl, yne (by omega) rfl, yne (by omega) rfl]
    exact g6
  · refine ⟨g1', by rw [yne (by omega) rfl]; exact g2, ⟨by rw [yne (by omega) rfl, yne (by omega) rfl]; exact g3, by rw [yne (by omega) rfl, yne (by omega) rfl]; exact g4, by rw [yne (by omega) rfl, yne (by omega) rfl]; exact g5⟩, ?_, by rw [yeq]; omega⟩
    unfold mst
    rw [yeq, yeq]
    omega
/-- good stays good -/
theorem dG_w {E D : YS} {c v : Int} (h : dG E D) (hv : 0 ≤ v ∧ v ≤ 20) : dG E (yset D 0 c v) := by
  refine ⟨fun d h1 h2 => ?_, fun i h1 h2 => ?_⟩
  · by_cases e : d = c
    · subst e; rw [yeq]; exact hv
    · rw [yne (by omega) rfl]; exact h.1 d h1 h2
  · have := h.2 i h1 h2
    unfold dGm at this ⊢
    rw [yne (by omega) rfl, yne (by omega) rfl, yne (by omega) rfl, yne (by omega) rfl]
    exact this
theorem dG_m {E D : YS} {r i v : Int} (h : dG E D) (hi : 0 ≤ i ∧ i < E 1 0) (hv : (r = 1 ∧ 0 ≤ v ∧ v < E 0 0) ∨ (r = 2 ∧ 0 ≤ v ∧ v ≤ 20) ∨ (r = 3 ∧ 0 ≤ v ∧ v ≤ E 3 i) ∨ (r = 4 ∧ v = 1) ∨ 4 < r) : dG E (yset D r i v) := by
  refine ⟨fun d h1 h2 => by rw [yne (by omega) rfl]; exact h.1 d h1 h2, fun q h1 h2 => ?_⟩
  obtain ⟨g1, g2, g3, g4⟩ := h.2 q h1 h2
  by_cases e : ¬ q = i
  · unfold dGm
    rw [yne (by omega) rfl, yne (by omega) rfl, yne (by omega) rfl, yne (by omega) rfl]
    exact ⟨g1, g2, g3, g4⟩
  have e : q = i := by omega
  subst e
  unfold dGm
  rcases hv with ⟨rfl, hv⟩ | ⟨rfl, hv⟩ | ⟨rfl, hv⟩ | ⟨rfl, hv⟩ | hv
  · rw [yeq, yne (by omega) rfl, yne (by omega) rfl, yne (by omega) rfl]; exact ⟨hv, g2, g3, g4⟩
  · rw [yeq, yne (by omega) rfl, yne (by omega) rfl, yne (by omega) rfl]; exact ⟨g1, hv, g3, g4⟩
  · rw [yeq, yne (by omega) rfl, yne (by omega) rfl, yne (by omega) rfl]; exact ⟨g1, g2, hv, g4⟩
  · rw [yeq, yne (by omega) rfl, yne (by omega) rfl, yne (by omega) rfl]; exact ⟨g1, g2, g3, Or.inr hv⟩
  · rw [yne (by omega) rfl, yne (by omega) rfl, yne (by omega) rfl, yne (by omega) rfl]; exact ⟨g1, g2, g3, g4⟩
theorem dG_x {E D : YS} {r i v : Int} (h : dG E D) (hr : 4 < r) : dG E (yset D r i v) := by
  refine ⟨fun d h1 h2 => by rw [yne (by omega) rfl]; exact h.1 d h1 h2, fun q h1 h2 => ?_⟩
  have := h.2 q h1 h2
  unfold dGm at this ⊢
  rw [yne (by omega) rfl, yne (by omega) rfl, yne (by omega) rfl, yne (by omega) rfl]
  exact this
/-! What learn holds in its loop. -/
def linv (τ : YS) (a : Int) (f : Int → Int) (k : Nat) (inn : Int) : Prop := (inn = if bo f k = 0 then -1 else bs f k (bo f k - 1)) ∧ (∀ j, bc f k j → τ (a + 2) j = bp f k j) ∧ ∀ d, 0 ≤ d → d < bo f k → τ (a + 2) (bs f k d) = if d = 0 then -1 else bs f k (d - 1)
theorem linv_0 {τ : YS} {a : Int} {f : Int → Int} : linv τ a f 0 (-1) := ⟨rfl, fun j h => by have := h.1; have := h.2.1; omega, fun d h1 h2 => by have : bo f 0 = 0 := rfl; omega⟩
theorem linv_n {τ : YS} {a : Int} {f : Int → Int} {k : Nat} {inn : Int} (h : linv τ a f k inn) (h7 : f k ≠ 7) (h8 : f k ≠ 8) : linv τ a f (k + 1) inn := by
  obtain ⟨h1, h2, h3⟩ := h
  have e : ∀ d, bs f (k + 1) d = bs f k d := fun d => bs_n (by omega)
  unfold linv
  rw [bo_n h7 h8]
  refine ⟨by rw [e]; exact h1, fun j hj => ?_, fun d d1 d2 => by rw [e, e]; exact h3 d d1 d2⟩
  obtain ⟨j1, j2, j3, j4⟩ := hj
  rw [bo_n h7 h8] at j4
  have ek : j ≠ k := fun e => by subst e; omega
  rw [bp_n h8]
  exact h2 j ⟨j1, by omega, j3, fun d hd1 hd2 => by have := j4 d hd1 hd2; rw [e] at this; exact this⟩
theorem linv_7 {τ : YS} {a : Int} {f : Int → Int} {k : Nat} {inn : Int} (h : linv τ a f k inn) (h7 : f k = 7) (hw : bw f k = -1) : linv (yset τ (a + 2) k inn) a f (k + 1) k := by
  obtain ⟨h1, h2, h3⟩ := h
  have ⟨⟨g1, g2⟩, g3, g4, g5⟩ := bgood f k hw
  unfold linv
  rw [bo_7 h7]
  refine ⟨by rw [if_neg (by omega), show bo f k + 1 - 1 = bo f k by omega, bs_7 h7], fun j hj => ?_, fun d d1 d2 => ?_⟩
  · obtain ⟨j1, j2, j3, j4⟩ := hj
    rw [bo_7 h7] at j4
    have ek : j ≠ k := fun e => j4 (bo f k) (by omega) (by omega) (by rw [bs_7 h7, e])
    rw [bp_n (by omega), yne (by omega) rfl]
    exact h2 j ⟨j1, by omega, j3, fun d hd1 hd2 => by have := j4 d hd1 (by omega); rw [bs_n (by omega)] at this; exact this⟩
  · by_cases e : d = bo f k
    · subst e
      rw [bs_7 h7, yeq, h1]
      split
      · rfl
      · rw [bs_n (by omega)]
    · have := g3 d d1 (by omega)
      rw [bs_n (by omega), yne (by omega) rfl, h3 d d1 (by omega)]
      split
      · rfl
      · rw [bs_n (by omega)]
theorem linv_8 {τ : YS} {a : Int} {f : Int → Int} {k : Nat} {inn : Int} (h : linv τ a f k inn) (h8 : f k = 8) (hw : bw f k = -1) (hb : bo f k ≠ 0) : linv (yset (yset τ (a + 2) k inn) (a + 2) inn k) a f (k + 1) (yset τ (a + 2) k inn (a + 2) inn) := by
  obtain ⟨h1, h2, h3⟩ := h
  have ⟨⟨g1, g2⟩, g3, g4, g5⟩ := bgood f k hw
  rw [if_neg hb] at h1
  have gt := g3 (bo f k - 1) (by omega) (by omega)
  rw [← h1] at gt
  have e : ∀ d, bs f (k + 1) d = bs f k d := fun d => bs_n (by omega)
  unfold linv
  rw [bo_8 h8]
  refine ⟨?_, fun j hj => ?_, fun d d1 d2 => ?_⟩
  · rw [yne (by omega) rfl]
    have := h3 (bo f k - 1) (by omega) (by omega)
    rw [← h1] at this
    rw [this, e]
  · obtain ⟨j1, j2, j3, j4⟩ := hj
    rw [bo_8 h8] at j4
    by_cases ek : j = k
    · subst ek
      rw [bp_k h8, yne (by omega) rfl, yeq, h1]
    · by_cases et : j = inn
      · subst et
        rw [yeq, bp_t h8 ek h1]
      · rw [bp_o h8 ek (by rw [← h1]; exact et), yne (by omega) rfl, yne (by omega) rfl]
        refine h2 j ⟨j1, by omega, j3, fun d hd1 hd2 => ?_⟩
        by_cases ed : d = bo f k - 1
        · rw [ed, ← h1]; exact fun z => et z.symm
        · have := j4 d hd1 (by omega); rw [e] at this; exact this
  · have l := g4 d (bo f k - 1) d1 (by omega) (by omega)
    have m := g3 d d1 (by omega)
    rw [← h1] at l
    rw [e, e, yne (by omega) rfl, yne (by omega) rfl, h3 d d1 (by omega)]
/-- what learn leaves as it was -/
def lfr (σ σ' : YS) (a : Int) : Prop := ∀ k j, (k = a → j ≠ 3) → k ≠ a + 2 → σ' k j = σ k j
theorem lfr_f {σ σ' : YS} {a v : Int} (h : lfr σ σ' a) : lfr σ (yset σ' a 3 v) a := fun k j h1 h2 => by
  rw [yne (by omega) rfl]; exact h k j h1 h2
theorem lfr_p {σ σ' : YS} {a j v : Int} (h : lfr σ σ' a) : lfr σ (yset σ' (a + 2) j v) a := fun k j h1 h2 => by
  rw [yne (by omega) rfl]; exact h k j h1 h2
/-! What is told of a street. -/
theorem yext {E F : YS} {r : Int} (h : ∀ c, E r c = F r c) : E r = F r := funext h
theorem repm_E {σ : YS} {a : Int} {E F D C : YS} {i : Int} (h : repm σ a E D i) (e2 : F 2 i = E 2 i) (e3 : F 3 i = E 3 i) (e4 : ∀ k, 0 ≤ k → k < E 3 i → F (10 + i) k = E (10 + i) k) (d : ∀ r, 1 ≤ r → r ≤ 4 → C r i = D r i) : repm σ a F C i := by
  obtain ⟨⟨l1, l2, l3, l4⟩, h2, ⟨h3, h4, h5⟩, h6, h7⟩ := h
  have hc := bcong (f := msg F i) (g := msg E i) (E 3 i).toNat (fun j a b => e4 j (by omega) (by omega))
  have hfl : bflaw (msg F i) (E 3 i).toNat = bflaw (msg E i) (E 3 i).toNat := bflaw_cong (fun j a b => e4 j (by omega) (by omega))
  unfold repm
  rw [e2, e3, d 1 (by omega) (by omega), d 2 (by omega) (by omega), d 3 (by omega) (by omega), d 4 (by omega) (by omega)]
  refine ⟨⟨l1, fun k a b => ?_, by rw [hfl]; exact l3, fun z k a b c => ?_⟩, h2, ⟨h3, h4, h5⟩, h6, h7⟩
  · rw [l2 k a b]; exact (e4 k a b).symm
  · rw [hc.2.2.2.1]; exact l4 (by rw [← hfl]; exact z) k a b (by have := e4 k a b; show E (10 + i) k = 7 ∨ E (10 + i) k = 8; rw [← this]; exact c)
theorem mfl_E {E F : YS} {i : Int} (e3 : F 3 i = E 3 i) (e4 : ∀ k, 0 ≤ k → k < E 3 i → F (10 + i) k = E (10 + i) k) : mfl F i = mfl E i := by
  unfold mfl mlen
  rw [e3]
  exact bflaw_cong (fun j a b => e4 j (by omega) (by omega))
theorem eGm_E {E F : YS} {i : Int} (h : eGm E i) (e2 : F 2 i = E 2 i) (e3 : F 3 i = E 3 i) (e4 : ∀ k, 0 ≤ k → k < E 3 i → F (10 + i) k = E (10 + i) k) : eGm F i := by
  unfold eGm at h ⊢
  rw [e2, e3]
  exact ⟨h.1, h.2.1, fun k a b => by show 0 ≤ F (10 + i) k ∧ F (10 + i) k ≤ 13; rw [e4 k a b]; exact h.2.2 k a b⟩
theorem dGm_E {E F D C : YS} {i : Int} (h : dGm E D i) (e0 : E 0 0 ≤ F 0 0) (e3 : F 3 i = E 3 i) (e4 : ∀ k, 0 ≤ k → k < E 3 i → F (10 + i) k = E (10 + i) k) (d : ∀ r, 1 ≤ r → r ≤ 4 → C r i = D r i) : dGm F C i := by
  unfold dGm at h ⊢
  rw [mfl_E e3 e4, e3, d 1 (by omega) (by omega), d 2 (by omega) (by omega), d 3 (by omega) (by omega), d 4 (by omega) (by omega)]
  omega
def begE (E : YS) (n : Int) : YS := fun r c => if r = 7 then 0 else yset (yset E 0 0 n) 1 0 0 r c
def begD (D : YS) : YS := fun r c => if r = 0 ∨ (r = 5 ∧ c = 0) then 0 else D r c
def entE (E : YS) (k : Int) : YS := yset (yset (yset E 1 0 (E 1 0 + 1)) 2 (E 1 0) k) 3 (E 1 0) 0
def entD (E D : YS) (c : Int) : YS := yset (yset (yset (yset D 1 (E 1 0) c) 2 (E 1 0) 0) 3 (E 1 0) 0) 4 (E 1 0) 1
/-- man m with another slip, at another place of it -/
def slpE (E : YS) (m : Int) (f : Int → Int) (n : Int) : YS := fun r c => if r = 10 + m then f c else yset E 3 m n r c
def slpD (D : YS) (m p st : Int) : YS := yset (yset D 3 m p) 4 m st
def appE (E : YS) (m sg : Int) : YS := slpE E m (fun k => if k = E 3 m then sg else E (10 + m) k) (E 3 m + 1)
def appD (E D : YS) (m sg : Int) : YS := slpD D m (D 3 m) (if mfl (appE E m sg) m = -1 then 0 else 1)
def empE (E : YS) (m : Int) : YS := slpE E m (E (10 + m)) 0
def empD (D : YS) (m : Int) : YS := slpD D m 0 1
theorem eG_beg {E : YS} {n : Int} (hn : 2 ≤ n ∧ n ≤ 9) : eG (begE E n) := by
  have e0 : begE E n 0 0 = n := by unfold begE; rw [if_neg (by omega), yne (by omega) rfl, yeq]
  have e1 : begE E n 1 0 = 0 := by unfold begE; rw [if_neg (by omega), yeq]
  unfold eG
  rw [e0, e1]
  exact ⟨hn, by omega, fun i a b => by omega⟩
theorem dG_beg {E D : YS} {n : Int} : dG (begE E n) (begD D) := by
  have e1 : begE E n 1 0 = 0 := by unfold begE; rw [if_neg (by omega), yeq]
  unfold dG
  rw [e1]
  exact ⟨fun c a b => by unfold begD; rw [if_pos (by omega)]; omega, fun i a b => by omega⟩
theorem entE_o {E : YS} {k i : Int} (hi : i ≠ E 1 0) : entE E k 2 i = E 2 i ∧ entE E k 3 i = E 3 i := by
  unfold entE
  exact ⟨by rw [yne (by omega) rfl, yne (by omega) rfl, yne (by omega) rfl], by rw [yne (by omega) rfl, yne (by omega) rfl, yne (by omega) rfl]⟩
theorem entE_g {E : YS} {k r c : Int} (hr : r = 0 ∨ 3 < r) : entE E k r c = E r c := by
  unfold entE
  rw [yne (by omega) rfl, yne (by omega) rfl, yne (by omega) rfl]
theorem entE_1 {E : YS} {k : Int} : entE E k 1 0 = E 1 0 + 1 := by
  unfold entE
  rw [yne (by omega) rfl, yne (by omega) rfl, yeq]
theorem entE_m {E : YS} {k : Int} : entE E k 2 (E 1 0) = k ∧ entE E k 3 (E 1 0) = 0 := by
  unfold entE
  exact ⟨by rw [yne (by omega) rfl, yeq], by rw [yeq]⟩
theorem entD_o {E D : YS} {c r i : Int} (hi : i ≠ E 1 0 ∨ r = 0 ∨ 5 ≤ r) : entD E D c r i = D r i := by
  unfold entD
  rw [yne (by omega) rfl, yne (by omega) rfl, yne (by omega) rfl, yne (by omega) rfl]
theorem entD_m {E D : YS} {c : Int} : entD E D c 1 (E 1 0) = c ∧ entD E D c 2 (E 1 0) = 0 ∧ entD E D c 3 (E 1 0) = 0 ∧ entD E D c 4 (E 1 0) = 1 := by
  unfold entD
  exact ⟨by rw [yne (by omega) rfl, yne (by omega) rfl, yne (by omega) rfl, yeq], by rw [yne (by omega) rfl, yne (by omega) rfl, yeq], by rw [yne (by omega) rfl, yeq], by rw [yeq]⟩
theorem eG_ent {E : YS} {k : Int} (h : eG E) (hk : 0 ≤ k ∧ k < 6) (hm : E 1 0 < 3) : eG (entE E k) := by
  unfold eG
  rw [entE_1, entE_g (by omega)]
  refine ⟨h.1, by have := h.2.1; omega, fun i a b => ?_⟩
  by_cases e : i = E 1 0
  · subst e
    unfold eGm
    rw [entE_m.1, entE_m.2]
    exact ⟨by omega, by omega, fun k a b => by omega⟩
  · exact eGm_E (h.2.2 i a (by omega)) (entE_o e).1 (entE_o e).2 (fun k _ _ => entE_g (by omega))
theorem dG_ent {E D : YS} {k c : Int} (h : dG E D) (hc : 0 ≤ c ∧ c < E 0 0) : dG (entE E k) (entD E D c) := by
  unfold dG
  rw [entE_1]
  refine ⟨fun d a b => by rw [entD_o (by omega)]; exact h.1 d a b, fun i a b => ?_⟩
  by_cases e : i = E 1 0
  · subst e
    unfold dGm
    obtain ⟨m1, m2, m3, m4⟩ := entD_m (E := E) (D := D) (c := c)
    have q := (entE_m (E := E) (k := k)).2
    rw [entE_g (by omega), m1, m2, m3, m4]
    omega
  · exact dGm_E (h.2 i a (by omega)) (by rw [entE_g (by omega)]; omega) (entE_o e).2 (fun k _ _ => entE_g (by omega)) (fun r _ _ => entD_o (Or.inl e))
theorem slpE_g {E : YS} {m n r c : Int} {f : Int → Int} (hr : r ≠ 3 ∨ c ≠ m) (hr' : r ≠ 10 + m) : slpE E m f n r c = E r c := by
  unfold slpE
  rw [if_neg hr', yne (by omega) rfl]
theorem slpE_3 {E : YS} {m n : Int} {f : Int → Int} (hm : 0 ≤ m) : slpE E m f n 3 m = n := by
  unfold slpE
  rw [if_neg (by omega), yeq]
theorem slpE_s {E : YS} {m n : Int} {f : Int → Int} : slpE E m f n (10 + m) = f := by
  funext c
  unfold slpE
  rw [if_pos rfl]
theorem slpE_l {E : YS} {m n : Int} {f : Int → Int} (hm : 0 ≤ m) : mfl (slpE E m f n) m = bflaw f n.toNat := by
  show bflaw (slpE E m f n (10 + m)) (slpE E m f n 3 m).toNat = _
  rw [slpE_s, slpE_3 hm]
theorem eG_slp {E : YS} {m n : Int} {f : Int → Int} (h : eG E) (hm : 0 ≤ m ∧ m < E 1 0) (hn : 0 ≤ n ∧ n ≤ 24) (hf : ∀ k, 0 ≤ k → k < n → 0 ≤ f k ∧ f k ≤ 13) : eG (slpE E m f n) := by
  have h1 := h.2.1
  unfold eG
  rw [slpE_g (by omega) (by omega), slpE_g (r := 1) (by omega) (by omega)]
  refine ⟨h.1, h.2.1, fun i a b => ?_⟩
  have hi := h.2.2 i a b
  by_cases e : i = m
  · subst e
    unfold eGm at hi ⊢
    unfold msg
    rw [slpE_g (by omega) (by omega), slpE_3 a, slpE_s]
    exact ⟨hi.1, hn, hf⟩
  · exact eGm_E hi (slpE_g (by omega) (by omega)) (slpE_g (by omega) (by omega)) (fun k _ _ => slpE_g (by omega) (by omega))
theorem dG_slp {E D : YS} {m n p st : Int} {f : Int → Int} (h : dG E D) (he : eG E) (hm : 0 ≤ m ∧ m < E 1 0) (hp : 0 ≤ p ∧ p ≤ n) (hs : st = 0 ∧ 0 < n ∧ bflaw f n.toNat = -1 ∨ st = 1) : dG (slpE E m f n) (slpD D m p st) := by
  have h1 := he.2.1
  unfold dG
  rw [slpE_g (r := 1) (by omega) (by omega)]
  refine ⟨fun d a b => by unfold slpD; rw [yne (by omega) rfl, yne (by omega) rfl]; exact h.1 d a b, fun i a b => ?_⟩
  have hi := h.2 i a b
  by_cases e : i = m
  · subst e
    unfold dGm at hi ⊢
    rw [slpE_l a, slpE_g (by omega) (by omega), slpE_3 a]
    unfold slpD
    rw [yeq, yne (by omega) rfl, yne (by omega) rfl, yne (by omega) rfl, yne (by omega) rfl, yne (by omega) rfl, yeq]
    exact ⟨hi.1, hi.2.1, hp, hs⟩
  · exact dGm_E hi (by rw [slpE_g (by omega) (by omega)]; omega) (slpE_g (by omega) (by omega)) (fun k _ _ => slpE_g (by omega) (by omega)) (fun r _ _ => by unfold slpD; rw [yne (by omega) rfl, yne (by omega) rfl])
theorem rep_slp {σ τ : YS} {s m n : Int} {f : Int → Int} {E D : YS} (hr : rep σ s E D) (hm : 0 ≤ m ∧ m < E 1 0) (h3 : E 1 0 ≤ 3) (h1 : ∀ x y, s ≤ x → x ≤ s + 12 → x ≠ s + 3 + 3 * m → x ≠ s + 3 + 3 * m + 1 → x ≠ s + 3 + 3 * m + 2 → τ x y = σ x y) (hl : lrn τ (s + 3 + 3 * m) f n) (h4 : ∀ y, 4 ≤ y → y ≤ 6 → τ (s + 3 + 3 * m) y = σ (s + 3 + 3 * m) y)
    (h8 : τ (s + 3 + 3 * m) 8 = 0 ∨ τ (s + 3 + 3 * m) 8 = 1) {p st : Int} (hp : τ (s + 3 + 3 * m) 7 = p) (hs : st = 0 ↔ ¬ mst τ (s + 3 + 3 * m)) : rep τ s (slpE E m f n) (slpD D m p st) := by
  obtain ⟨⟨f1, f2, f3, f4⟩, f5, f6, f7, f8⟩ := hr
  have d : ∀ r c, r ≠ 3 ∧ r ≠ 4 ∨ c ≠ m → slpD D m p st r c = D r c := fun r c z => by unfold slpD; rw [yne (by omega) rfl, yne (by omega) rfl]
  unfold rep
  rw [slpE_g (by omega) (by omega), slpE_g (r := 1) (by omega) (by omega), slpE_g (r := 6) (by omega) (by omega), d 5 0 (by omega), d 6 0 (by omega)]
  refine ⟨⟨?_, ?_, ?_, ?_⟩, fun x a b => ?_, fun i a b => ?_, f7, fun j a b => ?_⟩
  · rw [h1 _ _ (by omega) (by omega) (by omega) (by omega) (by omega)]; exact f1
  · rw [h1 _ _ (by omega) (by omega) (by omega) (by omega) (by omega)]; exact f2
  · rw [h1 _ _ (by omega) (by omega) (by omega) (by omega) (by omega)]; exact f3
  · rw [h1 _ _ (by omega) (by omega) (by omega) (by omega) (by omega)]; exact f4
  · rw [d 0 x (by omega), h1 _ _ (by omega) (by omega) (by omega) (by omega) (by omega)]; exact f5 x a b
  · by_cases e : i = m
    · subst e
      obtain ⟨g1, g2, ⟨g3, g4, g5⟩, g6, g7⟩ := f6 i a b
      unfold repm msg
      rw [slpE_3 a, slpE_s, slpE_g (by omega) (by omega), d 1 i (by omega), d 2 i (by omega), h4 4 (by omega) (by omega), h4 5 (by omega) (by omega), h4 6 (by omega) (by omega)]
      refine ⟨hl, g2, ⟨g3, g4, ?_⟩, ?_, h8⟩
      · unfold slpD; rw [yne (by omega) rfl, yeq]; exact hp
      · unfold slpD; rw [yeq]; exact hs
    · exact repm_cong (repm_E (f6 i a b) (slpE_g (by omega) (by omega)) (slpE_g (by omega) (by omega)) (fun k _ _ => slpE_g (by omega) (by omega)) (fun r _ _ => d r i (Or.inr e))) (fun x y hx hy => h1 x y (by omega) (by omega) (by omega) (by omega) (by omega))
  · rw [slpE_g (by omega) (by omega), h1 _ _ (by omega) (by omega) (by omega) (by omega) (by omega)]; exact f8 j a b
theorem eG_app {E : YS} {m sg : Int} (h : eG E) (hm : 0 ≤ m ∧ m < E 1 0) (hl : E 3 m < 24) (hs : 0 ≤ sg ∧ sg < 14) : eG (appE E m sg) := by
  have hi := (h.2.2 m hm.1 hm.2)
  exact eG_slp h hm ⟨by have := hi.2.1; omega, by omega⟩ (fun k a b => by
    split
    · omega
    · exact hi.2.2 k a (by omega))
theorem dG_app {E D : YS} {m sg : Int} (h : dG E D) (he : eG E) (hm : 0 ≤ m ∧ m < E 1 0) : dG (appE E m sg) (appD E D m sg) := by
  have hi := (he.2.2 m hm.1 hm.2).2.1
  have hd := (h.2 m hm.1 hm.2).2.2.1
  refine dG_slp h he hm (by omega) ?_
  have e : mfl (appE E m sg) m = _ := slpE_l hm.1
  rw [e]
  split
  · rename_i z; exact Or.inl ⟨rfl, by omega, z⟩
  · exact Or.inr rfl
theorem eG_emp {E : YS} {m : Int} (h : eG E) (hm : 0 ≤ m ∧ m < E 1 0) : eG (empE E m) := eG_slp h hm (by omega) (fun k a b => by omega)
theorem dG_emp {E D : YS} {m : Int} (h : dG E D) (he : eG E) (hm : 0 ≤ m ∧ m < E 1 0) : dG (empE E m) (empD D m) := dG_slp h he hm (by omega) (Or.inr rfl)
/-- a row tells what steps change -/
def rowci (σ : YS) (r : Int) (E C : YS) (i : Int) : Prop := σ r (9 + 4 * i) = C 1 i ∧ σ r (9 + 4 * i + 1) = C 2 i ∧ σ r (9 + 4 * i + 2) = C 3 i ∧ (σ r (9 + 4 * i + 3) = 0 ∨ σ r (9 + 4 * i + 3) = 1) ∧ (C 4 i = 0 ↔ ¬ (σ r (9 + 4 * i + 3) = 1 ∨ E 3 i = 0 ∨ mfl E i ≠ -1))
def rowc (σ : YS) (r : Int) (E C : YS) : Prop := (∀ c, 0 ≤ c → c < 9 → σ r c = C 0 c) ∧ (∀ i, 0 ≤ i → i < E 1 0 → rowci σ r E C i) ∧ (∀ k, 9 + 4 * E 1 0 ≤ k → k < 21 → σ r k = 0) ∧ σ r 21 = C 5 0
theorem rowci_cong {σ σ' : YS} {r : Int} {E C : YS} {i : Int} (h : rowci σ r E C i) (e : ∀ k, 9 + 4 * i ≤ k → k ≤ 9 + 4 * i + 3 → σ' r k = σ r k) : rowci σ' r E C i := by
  unfold rowci at h ⊢
  rw [e _ (by omega) (by omega), e _ (by omega) (by omega), e _ (by omega) (by omega), e _ (by omega) (by omega)]
  exact h
theorem rowc_cong {σ σ' : YS} {r : Int} {E C : YS} (hm : 0 ≤ E 1 0 ∧ E 1 0 ≤ 3) (h : rowc σ r E C) (e : ∀ k, 0 ≤ k → k < 22 → σ' r k = σ r k) : rowc σ' r E C := by
  obtain ⟨h1, h2, h3, h4⟩ := h
  exact ⟨fun c a b => by rw [e _ (by omega) (by omega)]; exact h1 c a b, fun i a b => rowci_cong (h2 i a b) (fun k x y => e k (by omega) (by omega)), fun k a b => by rw [e _ (by omega) (by omega)]; exact h3 k a b, by rw [e _ (by omega) (by omega)]; exact h4⟩
