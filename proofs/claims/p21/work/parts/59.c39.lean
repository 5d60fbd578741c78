/-! What a text tells. -/
abbrev YO : Type := Int × YS × YS
/-- the signs of a slip, one by one -/
def obS (T : Int → Int) (a q : Int) (r : YO) : Nat → YO
  | 0 => r
  | k + 1 => if (obS T a q r k).1 = 0 then obS T a q r k else if (0 ≤ a ∧ a < (obS T a q r k).2.1 1 0) ∧ (0 ≤ sgOf (T (q + k)) ∧ sgOf (T (q + k)) < 14) ∧ (obS T a q r k).2.1 3 a < 24 then (1, appE (obS T a q r k).2.1 a (sgOf (T (q + k))), appD (obS T a q r k).2.1 (obS T a q r k).2.2 a (sgOf (T (q + k)))) else (0, (obS T a q r k).2)
def itA (T : Int → Int) (L p : Int) : Int := nmV T L (itE T L p)
def itB (T : Int → Int) (L p : Int) : Int := nmV T L (nmD T L (itE T L p))
def itG (T : Int → Int) (L p : Int) : Int := nmS T L (nmD T L (itE T L p)) + 1
def itM (T : Int → Int) (L p : Int) : Int := sqG T L (nmD T L (itE T L p)) - nmS T L (nmD T L (itE T L p)) - 1
/-- an item obeyed -/
def ob1 (T : Int → Int) (L p : Int) (r : YO) : YO :=
  if lwd T L p = 0 then (if 2 ≤ itA T L p ∧ itA T L p ≤ 9 then (1, begE r.2.1 (itA T L p), begD r.2.2) else (0, r.2))
  else if lwd T L p = 1 then (if (0 ≤ itA T L p ∧ itA T L p < r.2.1 0 0) ∧ (0 ≤ itB T L p ∧ itB T L p ≤ 20) then (1, r.2.1, yset r.2.2 0 (itA T L p) (itB T L p)) else (0, r.2))
  else if lwd T L p = 2 then (if (0 ≤ itA T L p ∧ itA T L p < 6) ∧ (0 ≤ itB T L p ∧ itB T L p < r.2.1 0 0) ∧ r.2.1 1 0 < 3 then (1, entE r.2.1 (itA T L p), entD r.2.1 r.2.2 (itB T L p)) else (0, r.2))
  else obS T (itA T L p) (itG T L p) r (itM T L p).toNat
/-- all before item i obeyed, up to the first that is refused -/
def obs (T : Int → Int) (L : Int) (E D : YS) : Nat → YO
  | 0 => (1, E, D)
  | i + 1 => if (obs T L E D i).1 = 0 then obs T L E D i else ob1 T L (ips T L i) (obs T L E D i)
/-- so many items, all well written, stand ahead of the end or of the first fault -/
def rdn (T : Int → Int) (L : Int) (n : Nat) : Prop := (∀ j : Nat, j < n → ips T L j ≠ L ∧ itF T L j (ips T L j) = -1) ∧ (ips T L n = L ∨ itF T L n (ips T L n) ≠ -1)
theorem rdn_one {T : Int → Int} {L : Int} {n m : Nat} (h : rdn T L n) (h' : rdn T L m) : n = m := by
  rcases (by omega : n < m ∨ n = m ∨ m < n) with z | z | z
  · have := h'.1 n z; rcases h.2 with y | y
    · exact absurd y this.1
    · exact absurd this.2 y
  · exact z
  · have := h.1 m z; rcases h'.2 with y | y
    · exact absurd y this.1
    · exact absurd this.2 y
/-- read's answer, and what there is behind it -/
def kread (Z : YZ) (M : YS) (b : Int) (Z' : YZ) : Prop := ∃ n : Nat, rdn (M 1) (M 2 0) n ∧
  ((ips (M 1) (M 2 0) n = M 2 0 ∧ n = 0 ∧ b = -10 - M 2 0 ∧ Z' = Z) ∨
   (ips (M 1) (M 2 0) n ≠ M 2 0 ∧ b = -10 - itF (M 1) (M 2 0) n (ips (M 1) (M 2 0) n) ∧ Z' = Z) ∨
   (ips (M 1) (M 2 0) n = M 2 0 ∧ 0 < n ∧ (∃ j : Nat, j < n ∧ (obs (M 1) (M 2 0) (Z 0) (Z 1) j).1 ≠ 0 ∧ (obs (M 1) (M 2 0) (Z 0) (Z 1) (j + 1)).1 = 0 ∧ b = -1000 - j) ∧ Z' = Z) ∨
   (ips (M 1) (M 2 0) n = M 2 0 ∧ 0 < n ∧ (obs (M 1) (M 2 0) (Z 0) (Z 1) n).1 ≠ 0 ∧ b = n ∧ Z' = ztell Z (obs (M 1) (M 2 0) (Z 0) (Z 1) n).2.1 (yset (obs (M 1) (M 2 0) (Z 0) (Z 1) n).2.2 6 0 (Z 1 6 0))))
theorem obs_0 {T : Int → Int} {L : Int} {E D : YS} {j : Nat} (h : (obs T L E D j).1 = 0) : ∀ n : Nat, j ≤ n → (obs T L E D n).1 = 0
  | 0, hn => by have : j = 0 := by omega
                subst this; exact h
  | n + 1, hn => by
    by_cases e : j = n + 1
    · subst e; exact h
    · have := obs_0 h n (by omega)
      show (if (obs T L E D n).1 = 0 then obs T L E D n else _).1 = 0
      rw [if_pos this]; exact this
theorem kread_one {Z : YZ} {M : YS} {b b' : Int} {Z' Z'' : YZ} (h : kread Z M b Z') (h' : kread Z M b' Z'') : b = b' ∧ Z' = Z'' := by
  obtain ⟨n, h1, h2⟩ := h
  obtain ⟨m, g1, g2⟩ := h'
  have := rdn_one h1 g1
  subst this
  have two : ∀ i j : Nat, (obs (M 1) (M 2 0) (Z 0) (Z 1) i).1 ≠ 0 → (obs (M 1) (M 2 0) (Z 0) (Z 1) (i + 1)).1 = 0 → (obs (M 1) (M 2 0) (Z 0) (Z 1) j).1 ≠ 0 → (obs (M 1) (M 2 0) (Z 0) (Z 1) (j + 1)).1 = 0 → i = j := fun i j a b c d => by
    rcases (by omega : i < j ∨ i = j ∨ j < i) with z | z | z
    · exact absurd (obs_0 b j (by omega)) c
    · exact z
    · exact absurd (obs_0 d i (by omega)) a
  rcases h2 with ⟨a1, a2, a3, a4⟩ | ⟨a1, a2, a3⟩ | ⟨a1, a2, ⟨j, j1, j2, j3, j4⟩, a4⟩ | ⟨a1, a2, a3, a4, a5⟩ <;> rcases g2 with ⟨b1, b2, b3, b4⟩ | ⟨b1, b2, b3⟩ | ⟨b1, b2, ⟨i, i1, i2, i3, i4⟩, b4⟩ | ⟨b1, b2, b3, b4, b5⟩
  · exact ⟨by omega, a4.trans b4.symm⟩
  · exact absurd a1 b1
  · omega
  · omega
  · exact absurd b1 a1
  · exact ⟨by omega, a3.trans b3.symm⟩
  · exact absurd b1 a1
  · exact absurd b1 a1
  · omega
  · exact absurd a1 b1
  · have := two j i j2 j3 i2 i3; exact ⟨by omega, a4.trans b4.symm⟩
  · exact absurd (obs_0 j3 n (by omega)) b3
  · omega
  · exact absurd a1 b1
  · exact absurd (obs_0 i3 n (by omega)) a3
  · exact ⟨by omega, a5.trans b5.symm⟩
/-- an item takes up five bytes at least -/
theorem mword_lt {c : Int} (h : 0 ≤ c ∧ c < 13358) : mword c = -1 := by
  unfold mword
  rw [if_neg (by omega), if_neg (by omega), if_neg (by omega), if_neg (by omega)]
theorem let_run {T : Int → Int} {L p : Int} : ∀ (n : Nat) (p : Int), ∀ k, p ≤ k → k < rto isLet T L n p → 97 ≤ T k ∧ T k ≤ 122
  | 0, p, k, h1, h2 => by unfold rto at h2; omega
  | n + 1, p, k, h1, h2 => by
    unfold rto at h2
    split at h2
    · rename_i z
      by_cases e : k = p
      · subst e; exact of_decide_eq_true z.2
      · exact let_run (L := L) (p := p) n (p + 1) k (by omega) h2
    · omega
theorem itE_3 {T : Int → Int} {L p : Int} (hp : p ≤ L) (h : lwd T L p ≠ -1) : p + 3 ≤ itE T L p := by
  have r := rend_r (f := isLet) (T := T) hp
  rcases (by omega : p + 3 ≤ rend isLet T L p ∨ rend isLet T L p - p < 3) with z | z
  · exact z
  · exfalso
    apply h
    unfold lwd
    have lr := lcode_r (T := T) (p := p) (min (rend isLet T L p - p) 7).toNat (by omega) (fun k a => let_run (L := L) (p := p) _ p (p + k) (by omega) (by show p + (k : Int) < rend isLet T L p; omega))
    refine mword_lt ⟨lr.1, ?_⟩
    rcases (by omega : (min (rend isLet T L p - p) 7).toNat = 0 ∨ (min (rend isLet T L p - p) 7).toNat = 1 ∨ (min (rend isLet T L p - p) 7).toNat = 2) with y | y | y <;> rw [y] at lr ⊢ <;> omega
theorem itF_no {T : Int → Int} {L it p : Int} (h : itF T L it p = -1) (hp : 0 ≤ p) : ¬ itBad T L it p ∧ nmF T L (itE T L p) = -1 ∧ itF2 T L p = -1 ∧ enF T L (itQ T L p) = -1 := by
  unfold itF at h
  split at h
  · omega
  · split at h
    · omega
    · split at h
      · omega
      · exact ⟨by assumption, by omega, by omega, h⟩
theorem nm_5 {T : Int → Int} {L p : Int} (hp : p ≤ L) (hL : 0 ≤ p) (h : nmF T L p = -1) : p + 1 ≤ nmD T L p := by
  have s := nmS_r (T := T) hp
  have d := nmD_r (T := T) hp
  unfold nmF at h
  split at h
  · omega
  · split at h
    · omega
    · rename_i a b
      unfold nmD at b d ⊢
      rw [if_neg a] at b d ⊢
      have := rend_r (f := isFig) (T := T) s.2
      omega
theorem itQ_r {T : Int → Int} {L it p : Int} (hp : 0 ≤ p ∧ p ≤ L) (h : itF T L it p = -1) : nmD T L (itE T L p) ≤ itQ T L p ∧ itQ T L p ≤ L := by
  obtain ⟨h1, h2, h3, h4⟩ := itF_no h hp.1
  have e := rend_r (f := isLet) (T := T) hp.2
  have e' : itE T L p ≤ L := e.2
  have d := nmD_r (T := T) e'
  have d2 := nmD_r (T := T) d.2
  unfold itQ
  split
  · exact d2
  · split
    · rename_i a b
      have s := nmS_r (T := T) d.2
      unfold itF2 at h3
      rw [if_neg a, if_pos b] at h3
      unfold sqF at h3
      have e0 : p ≤ itE T L p := e.1
      split at h3
      · omega
      · split at h3
        · rename_i ok; have := ok.2.1; have := ok.2.2.2.1; omega
        · omega
    · omega
theorem itN_5 {T : Int → Int} {L it p : Int} (hp : 0 ≤ p ∧ p ≤ L) (h : itF T L it p = -1) : p + 5 ≤ itN T L p ∧ itN T L p ≤ L := by
  obtain ⟨h1, h2, h3, h4⟩ := itF_no h hp.1
  have q := itQ_r hp h
  have e := itE_3 (T := T) hp.2 (fun z => h1 (Or.inl z))
  have e' : itE T L p ≤ L := (rend_r (f := isLet) (T := T) hp.2).2
  have d := nm_5 e' (by omega) h2
  have s := nmS_r (T := T) q.2
  unfold itN
  unfold enF at h4
  split at h4
  · omega
  · rename_i z; omega
theorem obS_0 {T : Int → Int} {a q : Int} {r : YO} {k : Nat} (h : (obS T a q r k).1 = 0) : ∀ n : Nat, k ≤ n → (obS T a q r n).1 = 0
  | 0, hn => by have : k = 0 := by omega
                subst this; exact h
  | n + 1, hn => by
    by_cases e : k = n + 1
    · subst e; exact h
    · have := obS_0 h n (by omega)
      show (if (obS T a q r n).1 = 0 then obS T a q r n else _).1 = 0
      rw [if_pos this]; exact this
theorem obS_s {T : Int → Int} {a q k : Int} {r : YO} (hk : 0 ≤ k) : obS T a q r (k + 1).toNat = if (obS T a q r k.toNat).1 = 0 then obS T a q r k.toNat else if (0 ≤ a ∧ a < (obS T a q r k.toNat).2.1 1 0) ∧ (0 ≤ sgOf (T (q + k)) ∧ sgOf (T (q + k)) < 14) ∧ (obS T a q r k.toNat).2.1 3 a < 24 then (1, appE (obS T a q r k.toNat).2.1 a (sgOf (T (q + k))), appD (obS T a q r k.toNat).2.1 (obS T a q r k.toNat).2.2 a (sgOf (T (q + k)))) else (0, (obS T a q r k.toNat).2) := by
  rw [show (k + 1).toNat = k.toNat + 1 by omega]
  show (if (obS T a q r k.toNat).1 = 0 then obS T a q r k.toNat else if (0 ≤ a ∧ a < (obS T a q r k.toNat).2.1 1 0) ∧ (0 ≤ sgOf (T (q + (k.toNat : Int))) ∧ sgOf (T (q + (k.toNat : Int))) < 14) ∧ (obS T a q r k.toNat).2.1 3 a < 24 then (1, appE (obS T a q r k.toNat).2.1 a (sgOf (T (q + (k.toNat : Int)))), appD (obS T a q r k.toNat).2.1 (obS T a q r k.toNat).2.2 a (sgOf (T (q + (k.toNat : Int))))) else (0, (obS T a q r k.toNat).2)) = _
  rw [show ((k.toNat : Nat) : Int) = k by omega]
theorem lm_tellSlip {g : Launch × XG × va_G} {σ : YS} {T : Int → Int} {L : Int} {p j : Int} {r : YO} (hL : σ 547 3 = L) (hT : ∀ k, 0 ≤ k → k < L → σ 550 k = T k) (hTr : ∀ k, 0 ≤ k → k < L → 0 ≤ T k ∧ T k ≤ 255) (hl : 0 ≤ L ∧ L ≤ 200) (hp : 0 ≤ p ∧ p ≤ L) (hit : itF T L j p = -1) (hj : 0 ≤ j ∧ j < 40) (i0 : σ 552 j = lwd T L p) (i1 : σ 553 (3 * j) = itA T L p) (i2 : lwd T L p = 1 ∨ lwd T L p = 2 → σ 553 (3 * j + 1) = itB T L p) (i3 : lwd T L p = 3 → σ 553 (3 * j + 1) = itG T L p ∧ σ 553 (3 * j + 2) = itM T L p) (hr : lwd T L p = 0 ∨ (mzs σ 1581 r.2.1 r.2.2 ∧ σ 548 1687 = 0)) (he : eG r.2.1) (hd : dG r.2.1 r.2.2) (hr1 : r.1 ≠ 0) (h15 : 0 ≤ σ 548 1581) (w3 : lwd T L p = 3) : ∀ (nn : Nat) (τ : YS) (k : Int) (got : Int), itM T L p - k < (nn : Int) → (0 ≤ k ∧ k ≤ itM T L p) → (((obS T (itA T L p) (itG T L p) r k.toNat).1 ≠ 0 ∧ mzs τ 1581 (obS T (itA T L p) (itG T L p) r k.toNat).2.1 (obS T (itA T L p) (itG T L p) r k.toNat).2.2 ∧ 0 ≤ got ∧ (eG (obS T (itA T L p) (itG T L p) r k.toNat).2.1 ∧ dG (obS T (itA T L p) (itG T L p) r k.toNat).2.1 (obS T (itA T L p) (itG T L p) r k.toNat).2.2) ∧ τ 548 1687 = 0) ∨ ((obS T (itA T L p) (itG T L p) r k.toNat).1 = 0 ∧ got < 0 ∧ True ∧ True)) → (wfr σ τ 1581) → (0 ≤ τ 548 1581) → YW g 126 87 [some (2, 547), some (0, j), some (0, (σ 553 (3 * j))), some (0, (σ 553 ((3 * j) + 1))), some (0, got), some (0, k)] [] τ (fun rv σ' => ∃ b, rv = some (0, b) ∧ (((ob1 T L p r).1 ≠ 0 → 0 ≤ b ∧ mzs σ' 1581 (ob1 T L p r).2.1 (ob1 T L p r).2.2 ∧ σ' 548 1687 = 0) ∧ ((ob1 T L p r).1 = 0 → b < 0) ∧ wfr σ σ' 1581 ∧ 0 ≤ σ' 548 1581)) := by
  intro nn
  induction nn with
  | zero =>
    intro τ k got hn h0 h1 h2 h3
    exfalso
    omega
  | succ nn ih =>
    intro τ k got hn h0 h1 h2 h3
    have ⟨n1, n2, n3, n4⟩ := itF_no hit hp.1
    have ⟨u2, u4⟩ := i3 w3
    have u1 := i1
    have t2 : τ 553 (3 * j + 2) = itM T L p := (h2 _ _ (by omega)).trans u4
    have sqr : 0 ≤ itG T L p ∧ itG T L p + itM T L p < L := by
      have e := rend_r (f := isLet) (T := T) hp.2
      have e0 : p ≤ itE T L p := e.1
      have e1 : itE T L p ≤ L := e.2
      have d := nmD_r (T := T) e1
      have s := nmS_r (T := T) d.2
      unfold itF2 at n3
      rw [if_neg (by omega), if_pos w3] at n3
      unfold sqF at n3
      unfold itG itM
      split at n3
      · omega
      · split at n3
        · rename_i ok; have := ok.2.1; have := ok.2.2.2.1; omega
        · omega
    refine y_iload rfl rfl ?_
    refine y_aload rfl rfl rfl ?_
    refine y_gfr (t := 553) rfl rfl (by decide) rfl (by decide) ?_
    refine y_push rfl ?_
    refine y_iload rfl rfl ?_
    refine y_imul (v := (3 * j)) rfl rfl (by omega) ?_
    refine y_push rfl ?_
    refine y_iadd (v := ((3 * j) + 2)) rfl rfl (by omega) ?_
    refine y_iald (v := (τ 553 ((3 * j) + 2))) (n := 120) rfl rfl (by decide) rfl (by omega) rfl ?_
    refine y_icge rfl (fun q99 => ?_) (fun q99 => ?_)
    · skip
      refine y_iload rfl rfl ?_
      refine y_iret rfl rfl ⟨_, rfl, ?_⟩
      have hO : ob1 T L p r = obS T (itA T L p) (itG T L p) r (itM T L p).toNat := by unfold ob1; rw [if_neg (by omega), if_neg (by omega), if_neg (by omega)]
      rw [hO]
      rcases h1 with ⟨d1, d2, d3, d4, d5⟩ | ⟨d1, d2, d3, d4⟩
      · have hk : k = itM T L p := by omega
        subst hk
        exact ⟨fun _ => ⟨d3, d2, d5⟩, fun q => absurd q d1, h2, h3⟩
      · have := obS_0 d1 (itM T L p).toNat (by omega)
        exact ⟨fun q => absurd this q, fun _ => d2, h2, h3⟩
    · skip
      refine y_iload rfl rfl ?_
      refine y_iflt rfl (fun q104 => ?_) (fun q104 => ?_)
      · skip
        refine y_iload rfl rfl ?_
        refine y_iret rfl rfl ⟨_, rfl, ?_⟩
        have hO : ob1 T L p r = obS T (itA T L p) (itG T L p) r (itM T L p).toNat := by unfold ob1; rw [if_neg (by omega), if_neg (by omega), if_neg (by omega)]
        rw [hO]
        rcases h1 with ⟨d1, d2, d3, d4, d5⟩ | ⟨d1, d2, d3, d4⟩
        · have hk : k = itM T L p := by omega
          subst hk
          exact ⟨fun _ => ⟨d3, d2, d5⟩, fun q => absurd q d1, h2, h3⟩
        · have := obS_0 d1 (itM T L p).toNat (by omega)
          exact ⟨fun q => absurd this q, fun _ => d2, h2, h3⟩
      · skip
        refine y_aload rfl rfl rfl ?_
        refine y_push rfl ?_
        refine y_iload rfl rfl ?_
        have t5 : ∀ x, τ 550 x = σ 550 x := fun x => h2 _ _ (by omega)
        have u3 : sgOf (τ 550 (σ 553 (3 * j + 1) + k)) = sgOf (T (itG T L p + k)) := by rw [t5, u2, hT _ (by omega) (by omega)]
        refine y_aload rfl rfl rfl ?_
        refine y_gfr (t := 550) rfl rfl (by decide) rfl (by decide) ?_
        refine y_iload rfl rfl ?_
        refine y_iload rfl rfl ?_
        refine y_iadd (v := ((σ 553 ((3 * j) + 1)) + k)) rfl rfl (by omega) ?_
        refine y_iald (v := (τ 550 ((σ 553 ((3 * j) + 1)) + k))) (n := 200) rfl rfl (by decide) rfl (by rw [u2]; omega) rfl ?_
        refine y_si (as := [(0, (τ 550 ((σ 553 ((3 * j) + 1)) + k)))]) (S := [(0, (σ 553 (3 * j))), (0, 1581), (2, 547)]) rfl rfl rfl rfl rfl rfl m_signOf ?_
        rintro _ _ ⟨rfl, rfl⟩
        have hal : (obS T (itA T L p) (itG T L p) r k.toNat).1 ≠ 0 ∧ mzs τ 1581 (obS T (itA T L p) (itG T L p) r k.toNat).2.1 (obS T (itA T L p) (itG T L p) r k.toNat).2.2 ∧ eG (obS T (itA T L p) (itG T L p) r k.toNat).2.1 ∧ dG (obS T (itA T L p) (itG T L p) r k.toNat).2.1 (obS T (itA T L p) (itG T L p) r k.toNat).2.2 := by
          rcases h1 with ⟨d1, d2, d3, ⟨d4, d5⟩, _⟩ | ⟨d1, d2, _, _⟩
          · exact ⟨d1, d2, d4, d5⟩
          · exfalso; omega
        have tq : σ 550 (itG T L p + k) = T (itG T L p + k) := hT _ (by omega) (by omega)
        refine y_vi (as := [(2, 547), (0, 1581), (0, (σ 553 (3 * j))), (0, (sgOf (τ 550 ((σ 553 ((3 * j) + 1)) + k))))]) (S := []) rfl rfl rfl rfl rfl rfl (by decide) rfl (m_addSign (Or.inr rfl) hal.2.1 hal.2.2.1 hal.2.2.2) ?_
        rintro b_ s1 (⟨hv, hv2, hv3, rfl, z1, z2, z3⟩ | ⟨hv, rfl, rfl⟩ | ⟨hv, hv2, rfl, rfl⟩)
        · skip
          have hl_ := (hal.2.2.1.2.2 _ hv.1 hv.2).2.1
          rw [u1] at hv hv3
          rw [u3] at hv2
          rw [u1, u3] at z1
          refine y_istore (L' := [some (2, 547), some (0, j), some (0, (σ 553 (3 * j))), some (0, (σ 553 ((3 * j) + 1))), some (0, ((obS T (itA T L p) (itG T L p) r k.toNat).2.1 3 (σ 553 (3 * j)) + 1)), some (0, k)]) rfl rfl rfl rfl ?_
          refine y_iinc (L' := [some (2, 547), some (0, j), some (0, (σ 553 (3 * j))), some (0, (σ 553 ((3 * j) + 1))), some (0, ((obS T (itA T L p) (itG T L p) r k.toNat).2.1 3 (σ 553 (3 * j)) + 1)), some (0, (k + 1))]) rfl rfl rfl rfl rfl (by omega) ?_
          refine y_goto rfl ?_
          have hs : obS T (itA T L p) (itG T L p) r (k + 1).toNat = (1, appE (obS T (itA T L p) (itG T L p) r k.toNat).2.1 (itA T L p) (sgOf (T (itG T L p + k))), appD (obS T (itA T L p) (itG T L p) r k.toNat).2.1 (obS T (itA T L p) (itG T L p) r k.toNat).2.2 (itA T L p) (sgOf (T (itG T L p + k)))) := by rw [obS_s h0.1, if_neg hal.1, if_pos ⟨hv, hv2, hv3⟩]
          refine ih s1 (k + 1) _ (by omega) (by omega) (Or.inl ?_) (fun x y a => by rw [z3 x y a]; exact h2 x y a) ?_
          · rw [hs]
            exact ⟨fun z => absurd z (by decide : ¬ (1 : Int) = 0), z1, by omega, ⟨eG_app hal.2.2.1 hv hv3 hv2, dG_app hal.2.2.2 hal.2.2.1 hv⟩, z2⟩
          · have q : s1 548 1581 = _ := z1.1.1
            have e0 := (eG_app hal.2.2.1 hv hv3 hv2).1
            omega
        · skip
          rw [u1, u3] at hv
          refine y_istore (L' := [some (2, 547), some (0, j), some (0, (σ 553 (3 * j))), some (0, (σ 553 ((3 * j) + 1))), some (0, (-2)), some (0, k)]) rfl rfl rfl rfl ?_
          refine y_iinc (L' := [some (2, 547), some (0, j), some (0, (σ 553 (3 * j))), some (0, (σ 553 ((3 * j) + 1))), some (0, (-2)), some (0, (k + 1))]) rfl rfl rfl rfl rfl (by omega) ?_
          refine y_goto rfl ?_
          have hs : (obS T (itA T L p) (itG T L p) r (k + 1).toNat).1 = 0 := by rw [obS_s h0.1, if_neg hal.1, if_neg (by intro z; first | exact hv ⟨z.1, z.2.1⟩ | (have := z.2.2; omega))]
          exact ih τ (k + 1) _ (by omega) (by omega) (Or.inr ⟨hs, by omega, trivial, trivial⟩) h2 h3
        · skip
          rw [u1, u3] at hv
          rw [u1] at hv2
          refine y_istore (L' := [some (2, 547), some (0, j), some (0, (σ 553 (3 * j))), some (0, (σ 553 ((3 * j) + 1))), some (0, (-4)), some (0, k)]) rfl rfl rfl rfl ?_
          refine y_iinc (L' := [some (2, 547), some (0, j), some (0, (σ 553 (3 * j))), some (0, (σ 553 ((3 * j) + 1))), some (0, (-4)), some (0, (k + 1))]) rfl rfl rfl rfl rfl (by omega) ?_
          refine y_goto rfl ?_
          have hs : (obS T (itA T L p) (itG T L p) r (k + 1).toNat).1 = 0 := by rw [obS_s h0.1, if_neg hal.1, if_neg (by intro z; first | exact hv ⟨z.1, z.2.1⟩ | (have := z.2.2; omega))]
          exact ih τ (k + 1) _ (by omega) (by omega) (Or.inr ⟨hs, by omega, trivial, trivial⟩) h2 h3
theorem m_tellItem {g : Launch × XG × va_G} {σ : YS} {T : Int → Int} {L : Int} {p j : Int} {r : YO} (hL : σ 547 3 = L) (hT : ∀ k, 0 ≤ k → k < L → σ 550 k = T k) (hTr : ∀ k, 0 ≤ k → k < L → 0 ≤ T k ∧ T k ≤ 255) (hl : 0 ≤ L ∧ L ≤ 200) (hp : 0 ≤ p ∧ p ≤ L) (hit : itF T L j p = -1) (hj : 0 ≤ j ∧ j < 40) (i0 : σ 552 j = lwd T L p) (i1 : σ 553 (3 * j) = itA T L p) (i2 : lwd T L p = 1 ∨ lwd T L p = 2 → σ 553 (3 * j + 1) = itB T L p) (i3 : lwd T L p = 3 → σ 553 (3 * j + 1) = itG T L p ∧ σ 553 (3 * j + 2) = itM T L p) (hr : lwd T L p = 0 ∨ (mzs σ 1581 r.2.1 r.2.2 ∧ σ 548 1687 = 0)) (he : eG r.2.1) (hd : dG r.2.1 r.2.2) (hr1 : r.1 ≠ 0) (h15 : 0 ≤ σ 548 1581) : YI g 126 [(2, 547), (0, j)] σ (fun b σ' => ((ob1 T L p r).1 ≠ 0 → 0 ≤ b ∧ mzs σ' 1581 (ob1 T L p r).2.1 (ob1 T L p r).2.2 ∧ σ' 548 1687 = 0) ∧ ((ob1 T L p r).1 = 0 → b < 0) ∧ wfr σ σ' 1581 ∧ 0 ≤ σ' 548 1581) := by
  refine y_start rfl rfl rfl ?_
  have ⟨n1, n2, n3, n4⟩ := itF_no hit hp.1
  have wr : lwd T L p = 0 ∨ lwd T L p = 1 ∨ lwd T L p = 2 ∨ lwd T L p = 3 := by
    have n5 : lwd T L p ≠ -1 := fun z => n1 (Or.inl z)
    revert n5
    unfold lwd mword
    (repeat' split) <;> omega
  refine y_aload rfl rfl rfl ?_
  refine y_gfr (t := 553) rfl rfl (by decide) rfl (by decide) ?_
  refine y_push rfl ?_
  refine y_iload rfl rfl ?_
  refine y_imul (v := (3 * j)) rfl rfl (by omega) ?_
  refine y_iald (v := (σ 553 (3 * j))) (n := 120) rfl rfl (by decide) rfl (by omega) rfl ?_
  refine y_istore (L' := [some (2, 547), some (0, j), some (0, (σ 553 (3 * j))), none, none, none]) rfl rfl rfl rfl ?_
  refine y_aload rfl rfl rfl ?_
  refine y_gfr (t := 553) rfl rfl (by decide) rfl (by decide) ?_
  refine y_push rfl ?_
  refine y_iload rfl rfl ?_
  refine y_imul (v := (3 * j)) rfl rfl (by omega) ?_
  refine y_push rfl ?_
  refine y_iadd (v := ((3 * j) + 1)) rfl rfl (by omega) ?_
  refine y_iald (v := (σ 553 ((3 * j) + 1))) (n := 120) rfl rfl (by decide) rfl (by omega) rfl ?_
  refine y_istore (L' := [some (2, 547), some (0, j), some (0, (σ 553 (3 * j))), some (0, (σ 553 ((3 * j) + 1))), none, none]) rfl rfl rfl rfl ?_
  refine y_aload rfl rfl rfl ?_
  refine y_gfr (t := 552) rfl rfl (by decide) rfl (by decide) ?_
  refine y_iload rfl rfl ?_
  refine y_iald (v := (σ 552 j)) (n := 40) rfl rfl (by decide) rfl (by omega) rfl ?_
  refine y_tsw3 rfl rfl (by decide) rfl rfl rfl rfl (fun q26 => ?_) (fun q26 => ?_) (fun q26 => ?_) (fun q26 => ?_)
  · skip
    refine y_push rfl ?_
    refine y_istore (L' := [some (2, 547), some (0, j), some (0, (σ 553 (3 * j))), some (0, (σ 553 ((3 * j) + 1))), some (0, 0), none]) rfl rfl rfl rfl ?_
    refine y_push rfl ?_
    refine y_istore (L' := [some (2, 547), some (0, j), some (0, (σ 553 (3 * j))), some (0, (σ 553 ((3 * j) + 1))), some (0, 0), some (0, 0)]) rfl rfl rfl rfl ?_
    have w3 : lwd T L p = 3 := by omega
    have ⟨hz, hz6⟩ : mzs σ 1581 r.2.1 r.2.2 ∧ σ 548 1687 = 0 := by rcases hr with z | z; omega; exact z
    have hm0 : 0 ≤ itM T L p := by
      unfold itF2 at n3
      rw [if_neg (by omega), if_pos w3] at n3
      unfold sqF at n3
      unfold itM
      split at n3
      · omega
      · split at n3
        · rename_i ok; have := ok.2.2.2.1; omega
        · have e := rend_r (f := isLet) (T := T) hp.2; have e0 : p ≤ itE T L p := e.1; have e1 : itE T L p ≤ L := e.2; have d := nmD_r (T := T) e1; have s := nmS_r (T := T) d.2; omega
    exact lm_tellSlip hL hT hTr hl hp hit hj i0 i1 i2 i3 hr he hd hr1 h15 w3 ((itM T L p).toNat + 1) σ 0 0 (by omega) (by omega) (Or.inl ⟨hr1, hz, by omega, ⟨he, hd⟩, hz6⟩) (wfr_0 _ _) h15
  · skip
    refine y_aload rfl rfl rfl ?_
    refine y_push rfl ?_
    refine y_iload rfl rfl ?_
    refine y_vi (as := [(2, 547), (0, 1581), (0, (σ 553 (3 * j)))]) (S := []) rfl rfl rfl rfl rfl rfl (by decide) rfl (m_setStreet (E := r.2.1) (D := r.2.2) (Or.inr rfl)) ?_
    rintro b_ σ' (⟨hv, rfl, z1, z2, z3⟩ | ⟨hv, rfl, rfl⟩)
    · skip
      refine y_iret rfl rfl ⟨_, rfl, ?_⟩
      have w0 : lwd T L p = 0 := by omega
      have hO : ob1 T L p r = (1, begE r.2.1 (itA T L p), begD r.2.2) := by unfold ob1; rw [if_pos w0, if_pos (by rw [← i1]; exact hv)]
      rw [hO]
      rw [i1] at z1
      have q : σ' 548 1581 = itA T L p := by
        have q := z1.1.1
        have e0 : begE r.2.1 (itA T L p) 0 0 = itA T L p := by unfold begE; rw [if_neg (by omega), yne (by omega) rfl, yeq]
        rw [e0] at q
        exact q
      exact ⟨fun _ => ⟨h15, z1, z2⟩, fun z => absurd z (by decide : ¬ (1 : Int) = 0), z3, by omega⟩
    · skip
      refine y_iret rfl rfl ⟨_, rfl, ?_⟩
      have w0 : lwd T L p = 0 := by omega
      have hO : (ob1 T L p r).1 = 0 := by unfold ob1; rw [if_pos w0, if_neg (by rw [← i1]; exact hv)]
      exact ⟨fun z => absurd hO z, fun _ => by omega, wfr_0 _ _, h15⟩
  · skip
    refine y_aload rfl rfl rfl ?_
    refine y_push rfl ?_
    refine y_iload rfl rfl ?_
    refine y_iload rfl rfl ?_
    have hz : mzs σ 1581 r.2.1 r.2.2 := by rcases hr with z | z; omega; exact z.1
    refine y_vi (as := [(2, 547), (0, 1581), (0, (σ 553 (3 * j))), (0, (σ 553 ((3 * j) + 1)))]) (S := []) rfl rfl rfl rfl rfl rfl (by decide) rfl (m_setWater (Or.inr rfl) hz he hd) ?_
    rintro b_ σ' (⟨hv, hv2, rfl, z1, z2, z3⟩ | ⟨hv, rfl, rfl⟩)
    · skip
      have hw_ := hd.1 (σ 553 (3 * j)) (by have := he.1; omega) (by have := he.1; omega)
      refine y_iret rfl rfl ⟨_, rfl, ?_⟩
      have w1 : lwd T L p = 1 := by omega
      have i2 := i2 (Or.inl w1)
      have hO : ob1 T L p r = (1, r.2.1, yset r.2.2 0 (itA T L p) (itB T L p)) := by unfold ob1; rw [if_neg (by omega), if_pos w1, if_pos (by rw [← i1, ← i2]; exact ⟨hv, hv2⟩)]
      rw [hO]
      rw [i1, i2] at z1
      exact ⟨fun _ => ⟨by omega, z1, z2⟩, fun z => absurd z (by decide : ¬ (1 : Int) = 0), z3, by have q : σ' 548 1581 = r.2.1 0 0 := z1.1.1; have := he.1; omega⟩
    · skip
      refine y_iret rfl rfl ⟨_, rfl, ?_⟩
      have w1 : lwd T L p = 1 := by omega
      have i2 := i2 (Or.inl w1)
      have hO : (ob1 T L p r).1 = 0 := by unfold ob1; rw [if_neg (by omega), if_pos w1, if_neg (by rw [← i1, ← i2]; exact hv)]
      exact ⟨fun z => absurd hO z, fun _ => by omega, wfr_0 _ _, h15⟩
  · skip
    refine y_aload rfl rfl rfl ?_
    refine y_push rfl ?_
    refine y_iload rfl rfl ?_
    refine y_iload rfl rfl ?_
    have hz : mzs σ 1581 r.2.1 r.2.2 := by rcases hr with z | z; omega; exact z.1
    refine y_vi (as := [(2, 547), (0, 1581), (0, (σ 553 (3 * j))), (0, (σ 553 ((3 * j) + 1)))]) (S := []) rfl rfl rfl rfl rfl rfl (by decide) rfl (m_addMan (Or.inr rfl) hz he hd) ?_
    rintro b_ σ' (⟨hv, hv2, hv3, rfl, z1, z2, z3⟩ | ⟨hv, rfl, rfl⟩ | ⟨hv, hv2, rfl, rfl⟩)
    · skip
      have hm_ := he.2.1
      refine y_iret rfl rfl ⟨_, rfl, ?_⟩
      have w2 : lwd T L p = 2 := by omega
      have i2 := i2 (Or.inr w2)
      have hO : ob1 T L p r = (1, entE r.2.1 (itA T L p), entD r.2.1 r.2.2 (itB T L p)) := by unfold ob1; rw [if_neg (by omega), if_neg (by omega), if_pos w2, if_pos (by rw [← i1, ← i2]; exact ⟨hv, hv2, hv3⟩)]
      rw [hO]
      rw [i1, i2] at z1
      exact ⟨fun _ => ⟨by omega, z1, z2⟩, fun z => absurd z (by decide : ¬ (1 : Int) = 0), z3, by have q : σ' 548 1581 = entE r.2.1 (itA T L p) 0 0 := z1.1.1; rw [entE_g (by omega)] at q; have := he.1; omega⟩
    · skip
      refine y_iret rfl rfl ⟨_, rfl, ?_⟩
      have w2 : lwd T L p = 2 := by omega
      have i2 := i2 (Or.inr w2)
      have hO : (ob1 T L p r).1 = 0 := by unfold ob1; rw [if_neg (by omega), if_neg (by omega), if_pos w2, if_neg (by rw [← i1, ← i2]; intro z; first | exact hv ⟨z.1, z.2.1⟩ | (have := z.2.2; omega))]
      exact ⟨fun z => absurd hO z, fun _ => by omega, wfr_0 _ _, h15⟩
    · skip
      refine y_iret rfl rfl ⟨_, rfl, ?_⟩
      have w2 : lwd T L p = 2 := by omega
      have i2 := i2 (Or.inr w2)
      have hO : (ob1 T L p r).1 = 0 := by unfold ob1; rw [if_neg (by omega), if_neg (by omega), if_pos w2, if_neg (by rw [← i1, ← i2]; intro z; first | exact hv ⟨z.1, z.2.1⟩ | (have := z.2.2; omega))]
      exact ⟨fun z => absurd hO z, fun _ => by omega, wfr_0 _ _, h15⟩
