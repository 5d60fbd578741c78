/-! What is said, by the figures of a slip's code. -/
theorem mgoal_2 {k c s u n : Int} (h : 2 ≤ s) : mgoal k c s u n = c := by
  unfold mgoal
  split
  · rfl
  · rw [if_neg (by omega), if_neg (by omega)]
theorem mwork_pl {E D : YS} {i sg : Int} (h : 0 ≤ sg ∧ sg ≤ 4) : mwork E D i sg 1 i = mgoal (E 2 i) (D 1 i) sg (D 5 0) (E 0 0) ∧ mwork E D i sg 4 i = D 4 i := by
  unfold mwork
  split
  · rename_i z
    rw [mfetch_k (by omega), mfetch_k (by omega), mgoal_2 (by omega)]
    exact ⟨rfl, rfl⟩
  split
  · rename_i z
    rw [mput_k (by omega), mput_k (by omega), mgoal_2 (by omega)]
    exact ⟨rfl, rfl⟩
  split
  · omega
  · rw [yeq, yne (by omega) rfl]
    exact ⟨rfl, rfl⟩
/-- one man alone -/
theorem mth_one {E : YS} {m n : Int} (h : E 6 0 = yshl 1 m) (hm : 0 ≤ m ∧ m < 3) (hn : 0 ≤ n ∧ n < 3) : mth E n ↔ n = m := by
  unfold mth
  rw [h]
  rcases (by omega : m = 0 ∨ m = 1 ∨ m = 2) with rfl | rfl | rfl <;> rcases (by omega : n = 0 ∨ n = 1 ∨ n = 2) with rfl | rfl | rfl <;> decide
theorem macts_lo {E D : YS} {m : Int} (h : E 6 0 = yshl 1 m) (hm : 0 ≤ m ∧ m < 3) : ∀ n : Nat, (n : Int) ≤ m → macts E D n = D
  | 0, _ => rfl
  | n + 1, hn => by
    have ih := macts_lo (D := D) h hm n (by omega)
    show (if macts E D n 4 n = 0 ∧ mth E n then _ else macts E D n) = D
    rw [if_neg (fun z => by have := (mth_one h hm (by omega)).mp z.2; omega)]
    exact ih
theorem macts_hi {E D : YS} {m : Int} (h : E 6 0 = yshl 1 m) (hm : 0 ≤ m ∧ m < 3) (h4 : D 4 m = 0) : ∀ n : Nat, m < (n : Int) → n ≤ 3 → macts E D n = mact E D m
  | 0, hn, _ => by omega
  | n + 1, hn, hn3 => by
    show (if macts E D n 4 n = 0 ∧ mth E n then mact E (macts E D n) n else macts E D n) = _
    by_cases e : (n : Int) = m
    · rw [macts_lo h hm n (by omega), e, if_pos ⟨h4, (mth_one h hm hm).mpr rfl⟩]
    · rw [if_neg (fun z => e ((mth_one h hm (by omega)).mp z.2))]
      exact macts_hi h hm h4 n (by omega) (by omega)
/-- a step of a man alone whose sign is a plain one -/
theorem mstep_pl {E D : YS} {m : Int} (h : E 6 0 = yshl 1 m) (hm : 0 ≤ m ∧ m < E 1 0) (h3 : E 1 0 ≤ 3) (h4 : D 4 m = 0) (hl : D 3 m < E 3 m) (hs : 0 ≤ msg E m (D 3 m) ∧ msg E m (D 3 m) ≤ 4) : mstep E D 1 m = mgoal (E 2 m) (D 1 m) (msg E m (D 3 m)) (D 5 0) (E 0 0) ∧ mstep E D 3 m = D 3 m + 1 ∧ mstep E D 4 m = 0 := by
  have d6 : ∀ r c, r ≠ 6 → yset D 6 0 0 r c = D r c := fun r c a => yne (by omega) rfl
  have e := macts_hi (D := yset D 6 0 0) h (by omega) (by rw [d6 _ _ (by omega)]; exact h4) (E 1 0).toNat (by omega) (by omega)
  have hw := mwork_pl (E := E) (D := yset D 6 0 0) (i := m) hs
  have a : mact E (yset D 6 0 0) m = yset (mwork E (yset D 6 0 0) m (msg E m (D 3 m))) 3 m (D 3 m + 1) := by
    unfold mact
    rw [d6 3 m (by omega), if_neg (by omega), if_neg (by omega), if_neg (by omega), if_neg (by omega)]
  unfold mstep
  rw [e, a]
  rw [d6 _ _ (by omega), d6 _ _ (by omega)] at hw
  refine ⟨?_, ?_, ?_⟩
  · rw [yne (by omega) rfl, yne (by omega) rfl]; exact hw.1
  · rw [yne (by omega) rfl, yeq]
  · rw [yne (by omega) rfl, yne (by omega) rfl, hw.2, d6 _ _ (by omega)]; exact h4
theorem gd_b {base code : Int} (hb : 0 < base) : ∀ n : Nat, 0 ≤ gd base code n % base ∧ gd base code n % base < base := fun n => ⟨Int.emod_nonneg _ (by omega), Int.emod_lt_of_pos _ hb⟩
theorem sd_k {E D : YS} {m q code : Int} (hm : 0 ≤ m ∧ m < E 1 0) (h3 : E 1 0 ≤ 3) : ∀ k : Nat, (k : Int) ≤ q → msteps (sdE E m q code) (sdD D m) k 3 m = k ∧ msteps (sdE E m q code) (sdD D m) k 4 m = 0 ∧ ((k : Int) < q → msteps (sdE E m q code) (sdD D m) (k + 1) 1 m = mgoal (E 2 m) (msteps (sdE E m q code) (sdD D m) k 1 m) (gdf 5 code q k) (D 5 0 + k) (E 0 0)) := by
  have eg : ∀ r c, r ≠ 3 → r ≠ 6 → r < 10 → sdE E m q code r c = E r c := fun r c a b d => by
    unfold sdE
    rw [slpE_g (Or.inl a) (by omega), yne (by omega) rfl]
  have e6 : sdE E m q code 6 0 = yshl 1 m := by unfold sdE; rw [slpE_g (Or.inl (by omega)) (by omega), yeq]
  have e3 : sdE E m q code 3 m = q := by unfold sdE; exact slpE_3 hm.1
  have es : ∀ j, msg (sdE E m q code) m j = gdf 5 code q j := fun j => by show sdE E m q code (10 + m) j = _; unfold sdE; rw [slpE_s]
  have hz : ∀ j, 0 ≤ gdf 5 code q j ∧ gdf 5 code q j ≤ 4 := fun j => by have := gd_b (code := code) (show (0 : Int) < 5 by decide) (q - 1 - j).toNat; unfold gdf; omega
  have st : ∀ k : Nat, (k : Int) < q → msteps (sdE E m q code) (sdD D m) k 3 m = k → msteps (sdE E m q code) (sdD D m) k 4 m = 0 → _ := fun k a b c => mstep_pl (E := sdE E m q code) (D := msteps (sdE E m q code) (sdD D m) k) (m := m) e6 (by rw [eg 1 0 (by omega) (by omega) (by omega)]; exact hm) (by rw [eg 1 0 (by omega) (by omega) (by omega)]; exact h3) c (by rw [b, e3]; exact a) (by rw [es]; exact hz _)
  have n5 : ∀ k : Nat, msteps (sdE E m q code) (sdD D m) k 5 0 = D 5 0 + k := fun k => by rw [msteps_5]; unfold sdD slpD; rw [yne (by omega) rfl, yne (by omega) rfl]
  have go : ∀ k : Nat, (k : Int) < q → msteps (sdE E m q code) (sdD D m) k 3 m = k → msteps (sdE E m q code) (sdD D m) k 4 m = 0 → msteps (sdE E m q code) (sdD D m) (k + 1) 1 m = mgoal (E 2 m) (msteps (sdE E m q code) (sdD D m) k 1 m) (gdf 5 code q k) (D 5 0 + k) (E 0 0) := fun k a b c => by
    have := (st k a b c).1
    rw [b, es, eg 2 m (by omega) (by omega) (by omega), eg 0 0 (by omega) (by omega) (by omega), n5] at this
    exact this
  intro k
  induction k with
  | zero =>
    intro hk
    have a : msteps (sdE E m q code) (sdD D m) 0 3 m = 0 := by show sdD D m 3 m = 0; unfold sdD slpD; rw [yne (by omega) rfl, yeq]
    have b : msteps (sdE E m q code) (sdD D m) 0 4 m = 0 := by show sdD D m 4 m = 0; unfold sdD slpD; rw [yeq]
    exact ⟨a, b, fun z => go 0 z a b⟩
  | succ k ih =>
    intro hk
    obtain ⟨a, b, c⟩ := ih (by omega)
    have s := st k (by omega) a b
    have a1 : msteps (sdE E m q code) (sdD D m) (k + 1) 3 m = ((k + 1 : Nat) : Int) := by
      have := s.2.1
      rw [a] at this
      exact this
    exact ⟨a1, s.2.2, fun z => go (k + 1) z a1 s.2.2⟩
/-- whether a sign leads from a told cell to the next -/
def pd (E D : YS) (m : Int) (i : Nat) (d : Int) : Int := if mgoal (E 2 m) (msaidc E D m i) d (D 5 0 + i) (E 0 0) = E 7 i then 1 else 0
def fp (E D : YS) (m : Int) (f : Nat → Int) : Nat → Int
  | 0 => 1
  | k + 1 => fp E D m f k * pd E D m k (f k)
theorem pd_r (E D : YS) (m : Int) (i : Nat) (d : Int) : pd E D m i d = 0 ∨ pd E D m i d = 1 := by unfold pd; split <;> omega
theorem fp_r (E D : YS) (m : Int) (f : Nat → Int) : ∀ k, fp E D m f k = 0 ∨ fp E D m f k = 1
  | 0 => Or.inr rfl
  | k + 1 => by
    unfold fp
    rcases fp_r E D m f k with h | h <;> rcases pd_r E D m k (f k) with g | g <;> rw [h, g] <;> decide
theorem fp_cong {E D : YS} {m : Int} {f g : Nat → Int} : ∀ k : Nat, (∀ j, j < k → f j = g j) → fp E D m f k = fp E D m g k
  | 0, _ => rfl
  | k + 1, h => by
    unfold fp
    rw [fp_cong k (fun j a => h j (by omega)), h k (by omega)]
theorem sdk_fp {E D : YS} {m q code : Int} (hm : 0 ≤ m ∧ m < E 1 0) (h3 : E 1 0 ≤ 3) : ∀ k : Nat, (k : Int) ≤ q → sdk E D m q code k = fp E D m (fun j => gdf 5 code q j) k ∧ (sdk E D m q code k = 1 → msteps (sdE E m q code) (sdD D m) k 1 m = msaidc E D m k) := by
  intro k
  induction k with
  | zero =>
    intro _
    refine ⟨rfl, fun _ => ?_⟩
    show sdD D m 1 m = D 1 m
    unfold sdD slpD
    rw [yne (by omega) rfl, yne (by omega) rfl]
  | succ k ih =>
    intro hk
    obtain ⟨a, b⟩ := ih (by omega)
    have s := (sd_k (E := E) (D := D) (q := q) (code := code) hm h3 k (by omega)).2.2 (by omega)
    have e : sdk E D m q code (k + 1) = if sdk E D m q code k = 1 ∧ msteps (sdE E m q code) (sdD D m) (k + 1) 1 m = E 7 k then 1 else 0 := rfl
    have e2 : fp E D m (fun j => gdf 5 code q j) (k + 1) = fp E D m (fun j => gdf 5 code q j) k * pd E D m k (gdf 5 code q k) := rfl
    refine ⟨?_, fun z => ?_⟩
    · rw [e, e2, ← a]
      rcases sdk_r E D m q code k with h | h
      · rw [h, if_neg (fun z => by omega), Int.zero_mul]
      · rw [h, Int.one_mul, s, b h]
        unfold pd
        by_cases c : mgoal (E 2 m) (msaidc E D m k) (gdf 5 code q k) (D 5 0 + k) (E 0 0) = E 7 k
        · rw [if_pos ⟨rfl, c⟩, if_pos c]
        · rw [if_neg (fun z => c z.2), if_neg c]
    · rw [e] at z
      by_cases c : sdk E D m q code k = 1 ∧ msteps (sdE E m q code) (sdD D m) (k + 1) 1 m = E 7 k
      · exact c.2
      · rw [if_neg c] at z; omega
theorem cn_5 {f g h : Int → Int} : ∀ n : Nat, (∀ c : Int, 0 ≤ c → c < n → ∀ d : Int, 0 ≤ d → d < 5 → f (5 * c + d) = g c * h d) → cn f (5 * n) = cn g n * (h 0 + h 1 + h 2 + h 3 + h 4)
  | 0, _ => by show (0 : Int) = 0 * _; rw [Int.zero_mul]
  | n + 1, hf => by
    have ih := cn_5 (f := f) (g := g) (h := h) n (fun c a b => hf c a (by omega))
    have e : cn f (5 * (n + 1)) = cn f (5 * n) + f ((5 * n : Nat) : Int) + f ((5 * n + 1 : Nat) : Int) + f ((5 * n + 2 : Nat) : Int) + f ((5 * n + 3 : Nat) : Int) + f ((5 * n + 4 : Nat) : Int) := rfl
    have k := hf n (by omega) (by omega)
    have k0 := k 0 (by omega) (by omega)
    have k1 := k 1 (by omega) (by omega)
    have k2 := k 2 (by omega) (by omega)
    have k3 := k 3 (by omega) (by omega)
    have k4 := k 4 (by omega) (by omega)
    have e2 : cn g (n + 1) = cn g n + g n := rfl
    rw [e, ih, e2, show ((5 * n : Nat) : Int) = 5 * (n : Int) + 0 by omega, show ((5 * n + 1 : Nat) : Int) = 5 * (n : Int) + 1 by omega, show ((5 * n + 2 : Nat) : Int) = 5 * (n : Int) + 2 by omega, show ((5 * n + 3 : Nat) : Int) = 5 * (n : Int) + 3 by omega, show ((5 * n + 4 : Nat) : Int) = 5 * (n : Int) + 4 by omega, k0, k1, k2, k3, k4, Int.add_mul]
    generalize cn g n * (h 0 + h 1 + h 2 + h 3 + h 4) = x
    rw [Int.mul_add, Int.mul_add, Int.mul_add, Int.mul_add]
    omega
theorem gd_5 {c d : Int} (hd : 0 ≤ d ∧ d < 5) : ∀ n : Nat, gd 5 (5 * c + d) (n + 1) = gd 5 c n
  | 0 => by show (5 * c + d) / 5 = c; omega
  | n + 1 => by
    have ih := gd_5 (c := c) hd n
    show gd 5 (5 * c + d) (n + 1) / 5 = gd 5 c n / 5
    rw [ih]
theorem cn_said {E D : YS} {m : Int} : ∀ q : Nat, cn (fun code => fp E D m (fun j => gdf 5 code q j) q) (m5 q).toNat = msaid E D m q
  | 0 => rfl
  | q + 1 => by
    have ih := cn_said (E := E) (D := D) (m := m) q
    have em : (m5 (q + 1)).toNat = 5 * (m5 q).toNat := by
      have := m5_p q
      show (m5 q * 5).toNat = _
      omega
    rw [em, cn_5 (g := fun code => fp E D m (fun j => gdf 5 code q j) q) (h := fun d => pd E D m q d) (m5 q).toNat (fun c a b d d0 d1 => ?_), ih]
    · show _ = msaid E D m q * mlead (E 2 m) (msaidc E D m q) (E 7 q) (D 5 0 + q) (E 0 0) 5
      congr 1
      show pd E D m q 0 + pd E D m q 1 + pd E D m q 2 + pd E D m q 3 + pd E D m q 4 = 0 + pd E D m q 0 + pd E D m q 1 + pd E D m q 2 + pd E D m q 3 + pd E D m q 4
      rw [Int.zero_add]
    · have e1 : gdf 5 (5 * c + d) ((q + 1 : Nat) : Int) (q : Int) = d := by
        unfold gdf
        rw [show (((q + 1 : Nat) : Int) - 1 - (q : Int)).toNat = 0 by omega]
        show (5 * c + d) % 5 = d
        omega
      have e2 : ∀ j : Nat, j < q → gdf 5 (5 * c + d) ((q + 1 : Nat) : Int) (j : Int) = gdf 5 c (q : Int) (j : Int) := fun j hj => by
        unfold gdf
        rw [show (((q + 1 : Nat) : Int) - 1 - (j : Int)).toNat = ((q : Int) - 1 - (j : Int)).toNat + 1 by omega, gd_5 ⟨d0, d1⟩]
      show fp E D m _ q * pd E D m q (gdf 5 (5 * c + d) ((q + 1 : Nat) : Int) (q : Int)) = _
      rw [e1, fp_cong q (fun j hj => e2 j hj)]
/-- both sides say the same -/
theorem ksaid_M {Z : YZ} {I : Int → YZ} {M : YS} {N m q : Int} (hg : wG Z I M N) : ksaidM Z M m q = ksaid Z M m q := by
  unfold ksaidM ksaid
  split
  · rename_i h
    have e : (fun code => sdk (Z 0) (Z 1) m q code q.toNat) = (fun code => fp (Z 0) (Z 1) m (fun j => gdf 5 code q j) q.toNat) := by
      funext code
      exact (sdk_fp ⟨h.1.1, h.1.2⟩ hg.1.1.2.1.2 q.toNat (by omega)).1
    have k := cn_said (E := Z 0) (D := Z 1) (m := m) q.toNat
    rw [show ((q.toNat : Nat) : Int) = q by omega] at k
    rw [e, k]
  · rfl
