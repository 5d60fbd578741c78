theorem l_sameRows {g : Launch × XG × va_G} {σ : YS} {x y : Int} (ha : yR x) (hb : yR y) : ∀ (nn : Nat) (k : Int), 21 - k < (nn : Int) → (0 ≤ k ∧ k ≤ 21) → (∀ c, 0 ≤ c → c < k → σ x c = σ y c) → YW g 73 2 [some (2, x), some (2, y), some (0, k)] [] σ (fun rv σ' => ∃ b, rv = some (0, b) ∧ ((σ = σ' ∧ b = 0 ∧ ¬ (∀ k, 0 ≤ k → k < 21 → σ x k = σ y k)) ∨ (σ = σ' ∧ b = 1 ∧ ∀ k, 0 ≤ k → k < 21 → σ x k = σ y k))) := by
  intro nn
  induction nn with
  | zero =>
    intro k hn h0 h1
    exfalso
    omega
  | succ nn ih =>
    intro k hn h0 h1
    refine y_iload rfl rfl ?_
    refine y_push rfl ?_
    refine y_icge rfl (fun q5 => ?_) (fun q5 => ?_)
    · skip
      refine y_push rfl ?_
      refine y_zret rfl rfl (by decide) ⟨_, rfl, ?_⟩
      exact Or.inr ⟨rfl, rfl, fun c x y => h1 c x (by omega)⟩
    · skip
      refine y_aload rfl rfl rfl ?_
      refine y_iload rfl rfl ?_
      refine y_iald (v := (σ x k)) (n := 22) rfl ha.2 ha.1 rfl (by omega) rfl ?_
      refine y_aload rfl rfl rfl ?_
      refine y_iload rfl rfl ?_
      refine y_iald (v := (σ y k)) (n := 22) rfl hb.2 hb.1 rfl (by omega) rfl ?_
      refine y_iceq rfl (fun q14 => ?_) (fun q14 => ?_)
      · skip
        refine y_iinc (L' := [some (2, x), some (2, y), some (0, (k + 1))]) rfl rfl rfl rfl rfl (by omega) ?_
        refine y_goto rfl ?_
        refine ih (k + 1) (by omega) (by omega) (fun c a b => ?_)
        by_cases e : c = k
        · subst e; exact q14
        · exact h1 c a (by omega)
      · skip
        refine y_push rfl ?_
        refine y_zret rfl rfl (by decide) ⟨_, rfl, ?_⟩
        exact Or.inl ⟨rfl, rfl, fun z => q14 (z k (by omega) (by omega))⟩
theorem c_sameRows {g : Launch × XG × va_G} {σ : YS} {x y : Int} (ha : yR x) (hb : yR y) : YI g 73 [(2, x), (2, y)] σ (fun b σ' => (σ = σ' ∧ b = 0 ∧ ¬ (∀ k, 0 ≤ k → k < 21 → σ x k = σ y k)) ∨ (σ = σ' ∧ b = 1 ∧ ∀ k, 0 ≤ k → k < 21 → σ x k = σ y k)) := by
  refine y_start rfl rfl rfl ?_
  refine y_push rfl ?_
  refine y_istore (L' := [some (2, x), some (2, y), some (0, 0)]) rfl rfl rfl rfl ?_
  exact l_sameRows ha hb 22 0 (by omega) (by omega) (fun c a b => by omega)
theorem l_earlier {g : Launch × XG × va_G} {σ : YS} {t : Int} (ht : 1 ≤ t ∧ t ≤ 400) : ∀ (nn : Nat) (s : Int), t + 14 - s < (nn : Int) → (0 ≤ s ∧ s ≤ t + 13) → (s % 14 = t % 14) → (∀ q, 0 ≤ q → q < s → q % 14 = t % 14 → ¬ (∀ k, 0 ≤ k → k < 21 → σ (144 + q) k = σ (144 + t) k)) → YW g 72 5 [some (2, 0), some (0, t), some (0, s)] [] σ (fun rv σ' => ∃ b, rv = some (0, b) ∧ (σ = σ' ∧ ((b = -1 ∧ ∀ q, 0 ≤ q → q < t → q % 14 = t % 14 → ¬ (∀ k, 0 ≤ k → k < 21 → σ (144 + q) k = σ (144 + t) k)) ∨ ((0 ≤ b ∧ b < t) ∧ b % 14 = t % 14 ∧ (∀ k, 0 ≤ k → k < 21 → σ (144 + b) k = σ (144 + t) k) ∧ ∀ q, 0 ≤ q → q < b → q % 14 = t % 14 → ¬ (∀ k, 0 ≤ k → k < 21 → σ (144 + q) k = σ (144 + t) k))))) := by
  intro nn
  induction nn with
  | zero =>
    intro s hn h0 h1 h2
    exfalso
    omega
  | succ nn ih =>
    intro s hn h0 h1 h2
    refine y_iload rfl rfl ?_
    refine y_iload rfl rfl ?_
    refine y_icge rfl (fun q7 => ?_) (fun q7 => ?_)
    · skip
      refine y_push rfl ?_
      refine y_iret rfl rfl ⟨_, rfl, ?_⟩
      exact ⟨rfl, Or.inl ⟨rfl, fun q a b c => h2 q a (by omega) c⟩⟩
    · skip
      refine y_aload rfl rfl rfl ?_
      refine y_gfr (t := 143) rfl rfl (by decide) rfl (by decide) ?_
      refine y_iload rfl rfl ?_
      refine y_aald (ty := 0) (v := (144 + s)) (n := 401) rfl rfl (by decide) rfl (by omega) (yone _ _) ?_
      refine y_aload rfl rfl rfl ?_
      refine y_gfr (t := 143) rfl rfl (by decide) rfl (by decide) ?_
      refine y_iload rfl rfl ?_
      refine y_aald (ty := 0) (v := (144 + t)) (n := 401) rfl rfl (by decide) rfl (by omega) (yone _ _) ?_
      refine y_si (as := [(2, (144 + s)), (2, (144 + t))]) (S := []) rfl rfl rfl rfl rfl rfl (c_sameRows (yB_r (j := s) (by omega)) (yB_r (j := t) (by omega))) ?_
      rintro b_ _ (⟨rfl, rfl, hq⟩ | ⟨rfl, rfl, hq⟩)
      · skip
        refine y_ifeq rfl (fun q25 => ?_) (fun q25 => ?_)
        · skip
          refine y_iinc (L' := [some (2, 0), some (0, t), some (0, (s + 14))]) rfl rfl rfl rfl rfl (by omega) ?_
          refine y_goto rfl ?_
          refine ih (s + 14) (by omega) (by omega) (by omega) (fun q a b c => ?_)
          by_cases e : q = s
          · subst e; exact hq
          · exact h2 q a (by omega) c
        · exfalso; omega
      · skip
        refine y_ifeq rfl (fun q25 => ?_) (fun q25 => ?_)
        · exfalso; omega
        · skip
          refine y_iload rfl rfl ?_
          refine y_iret rfl rfl ⟨_, rfl, ?_⟩
          exact ⟨rfl, Or.inr ⟨by omega, h1, hq, h2⟩⟩
theorem c_earlier {g : Launch × XG × va_G} {σ : YS} {t : Int} (ht : 1 ≤ t ∧ t ≤ 400) : YI g 72 [(2, 0), (0, t)] σ (fun b σ' => σ = σ' ∧ ((b = -1 ∧ ∀ q, 0 ≤ q → q < t → q % 14 = t % 14 → ¬ (∀ k, 0 ≤ k → k < 21 → σ (144 + q) k = σ (144 + t) k)) ∨ ((0 ≤ b ∧ b < t) ∧ b % 14 = t % 14 ∧ (∀ k, 0 ≤ k → k < 21 → σ (144 + b) k = σ (144 + t) k) ∧ ∀ q, 0 ≤ q → q < b → q % 14 = t % 14 → ¬ (∀ k, 0 ≤ k → k < 21 → σ (144 + q) k = σ (144 + t) k)))) := by
  refine y_start rfl rfl rfl ?_
  refine y_iload rfl rfl ?_
  refine y_push rfl ?_
  refine y_irem (v := (t % 14)) rfl rfl (by omega) ?_
  refine y_istore (L' := [some (2, 0), some (0, t), some (0, (t % 14))]) rfl rfl rfl rfl ?_
  exact l_earlier ht (t.toNat + 15) (t % 14) (by omega) (by omega) (by omega) (fun q a b c => by omega)
/-- who waits all the time, as bits -/
def wand (f : Int → Int) (s : Int) : Nat → Int
  | 0 => 7
  | n + 1 => yand (wand f s n) (f (s + n))
theorem l_waiting {g : Launch × XG × va_G} {σ : YS} {s t : Int} (hs : 0 ≤ s ∧ s ≤ t) (ht : t ≤ 400) : ∀ (nn : Nat) (d : Int) (k : Int), t - k < (nn : Int) → (s ≤ k ∧ k ≤ t) → (d = wand (σ 545) s (k - s).toNat) → YW g 74 6 [some (2, 0), some (0, s), some (0, t), some (0, d), some (0, k)] [] σ (fun rv σ' => ∃ b, rv = some (0, b) ∧ (σ = σ' ∧ wand (σ 545) s (t - s).toNat = b)) := by
  intro nn
  induction nn with
  | zero =>
    intro d k hn h0 h1
    exfalso
    omega
  | succ nn ih =>
    intro d k hn h0 h1
    refine y_iload rfl rfl ?_
    refine y_iload rfl rfl ?_
    refine y_icge rfl (fun q9 => ?_) (fun q9 => ?_)
    · skip
      refine y_iload rfl rfl ?_
      refine y_iret rfl rfl ⟨_, rfl, ?_⟩
      exact ⟨rfl, by rw [h1, show k = t by omega]⟩
    · skip
      refine y_iload rfl rfl ?_
      refine y_aload rfl rfl rfl ?_
      refine y_gfr (t := 545) rfl rfl (by decide) rfl (by decide) ?_
      refine y_iload rfl rfl ?_
      refine y_iald (v := (σ 545 k)) (n := 400) rfl rfl (by decide) rfl (by omega) rfl ?_
      refine y_iand (v := (yand d (σ 545 k))) rfl rfl ?_
      refine y_istore (L' := [some (2, 0), some (0, s), some (0, t), some (0, (yand d (σ 545 k))), some (0, k)]) rfl rfl rfl rfl ?_
      refine y_iinc (L' := [some (2, 0), some (0, s), some (0, t), some (0, (yand d (σ 545 k))), some (0, (k + 1))]) rfl rfl rfl rfl rfl (by omega) ?_
      refine y_goto rfl ?_
      refine ih _ (k + 1) (by omega) (by omega) ?_
      rw [show (k + 1 - s).toNat = (k - s).toNat + 1 by omega]
      show _ = yand (wand (σ 545) s (k - s).toNat) (σ 545 (s + ((k - s).toNat : Int)))
      rw [← h1, show s + ((k - s).toNat : Int) = k by omega]
theorem c_waiting {g : Launch × XG × va_G} {σ : YS} {s t : Int} (hs : 0 ≤ s ∧ s ≤ t) (ht : t ≤ 400) : YI g 74 [(2, 0), (0, s), (0, t)] σ (fun b σ' => σ = σ' ∧ wand (σ 545) s (t - s).toNat = b) := by
  refine y_start rfl rfl rfl ?_
  refine y_push rfl ?_
  refine y_istore (L' := [some (2, 0), some (0, s), some (0, t), some (0, 7), none]) rfl rfl rfl rfl ?_
  refine y_iload rfl rfl ?_
  refine y_istore (L' := [some (2, 0), some (0, s), some (0, t), some (0, 7), some (0, s)]) rfl rfl rfl rfl ?_
  exact l_waiting hs ht ((t - s).toNat + 1) 7 s (by omega) (by omega) (by rw [Int.sub_self]; rfl)
theorem l_again {g : Launch × XG × va_G} {σ : YS} {Z : YZ} {I : Int → YZ} {M : YS} {N : Int} {q w : Int} (hx : xW σ Z I M) (hg : wG Z I M N) (hN : N < 100000) (hq : 0 ≤ q ∧ q ≤ 2) : ∀ (nn : Nat) (τ : YS) (t : Int), 401 - t < (nn : Int) → (1 ≤ t ∧ t ≤ 401) → (rep τ 37 (Z 0) (msteps (Z 0) (yset (Z 1) 6 0 w) (t - 1).toNat)) → (sfr σ τ) → YW g 71 42 [some (2, 0), some (0, q), some (0, t), none] [] τ (fun rv σ' => ∃ b, rv = some (0, b) ∧ ((xW σ' Z I (if 0 ≤ q ∧ q ≤ 2 then M else bump M 0)) ∧ mfr σ σ')) := by
  intro nn
  induction nn with
  | zero =>
    intro τ t hn h0 h1 h2
    exfalso
    omega
  | succ nn ih =>
    intro τ t hn h0 h1 h2
    refine y_iload rfl rfl ?_
    refine y_push rfl ?_
    refine y_icgt rfl (fun q46 => ?_) (fun q46 => ?_)
    · skip
      refine y_push rfl ?_
      refine y_iret rfl rfl ⟨_, rfl, ?_⟩
      exact ⟨by rw [if_pos hq]; exact xW_sfr hg hx h2, sfr_m h2⟩
    · skip
      refine y_aload rfl rfl rfl ?_
      refine y_gfr (t := 37) rfl rfl (by decide) rfl (by decide) ?_
      refine y_vi (as := [(2, 37)]) (S := []) rfl rfl rfl rfl rfl rfl (yS_0 yS_37).1 (yS_c yS_37) (c_advance yS_37 h1 hg.1.1 (dG_steps (dG_w6 hg.1.2.1) hg.1.1 _) (by rw [msteps_5, yne (by omega) rfl]; have := hg.1.2.2.1; omega)) ?_
      rintro _ σ1 ⟨y1, rfl, y2⟩
      refine y_pop rfl rfl ?_
      refine y_aload rfl rfl rfl ?_
      refine y_gfr (t := 37) rfl rfl (by decide) rfl (by decide) ?_
      refine y_aload rfl rfl rfl ?_
      refine y_gfr (t := 143) rfl rfl (by decide) rfl (by decide) ?_
      refine y_iload rfl rfl ?_
      refine y_aald (ty := 0) (v := (144 + t)) (n := 401) rfl rfl (by decide) rfl (by omega) (yone _ _) ?_
      refine y_vu (as := [(2, 37), (2, (144 + t))]) (S := []) rfl rfl rfl rfl rfl rfl (yS_0 yS_37).1 (yS_c yS_37) (c_save yS_37 (yB_r (j := t) (by omega)) (by omega) y1 hg.1.1) ?_
      rintro σ2 ⟨z1, z2⟩
      refine y_aload rfl rfl rfl ?_
      refine y_gfr (t := 545) rfl rfl (by decide) rfl (by decide) ?_
      refine y_iload rfl rfl ?_
      refine y_push rfl ?_
      refine y_isub (v := (t - 1)) rfl rfl (by omega) ?_
      refine y_aload rfl rfl rfl ?_
      refine y_gfr (t := 37) rfl rfl (by decide) rfl (by decide) ?_
      refine y_gfi (v := (σ2 37 7)) rfl (yS_c yS_37) (yS_0 yS_37).1 rfl (by decide) rfl rfl ?_
      refine y_iast (n := 400) rfl rfl (by decide) rfl (by omega) ?_
      refine y_aload rfl rfl rfl ?_
      refine y_iload rfl rfl ?_
      refine y_vi (as := [(2, 0), (0, t)]) (S := []) rfl rfl rfl rfl rfl rfl (by decide) rfl (c_earlier (by omega)) ?_
      rintro s _ ⟨rfl, hs⟩
      refine y_istore (L' := [some (2, 0), some (0, q), some (0, t), some (0, s)]) rfl rfl rfl rfl ?_
      refine y_iload rfl rfl ?_
      refine y_push rfl ?_
      refine y_iceq rfl (fun q93 => ?_) (fun q93 => ?_)
      · skip
        refine y_iinc (L' := [some (2, 0), some (0, q), some (0, (t + 1)), some (0, s)]) rfl rfl rfl rfl rfl (by omega) ?_
        refine y_goto rfl ?_
        refine y_forget (M := [some (2, 0), some (0, q), some (0, (t + 1)), none]) ⟨Or.inr rfl, ⟨Or.inr rfl, ⟨Or.inr rfl, ⟨Or.inl rfl, trivial⟩⟩⟩⟩ ?_
        have r2 : rep σ2 37 (Z 0) (msteps (Z 0) (yset (Z 1) 6 0 w) (t + 1 - 1).toNat) := by rw [show (t + 1 - 1).toNat = (t - 1).toNat + 1 by omega]; exact rep_cong hg.1.1.2.1.2 y1 (fun x y a b => z2 x y (by omega))
        exact ih (yset σ2 545 (t - 1) (σ2 37 7)) (t + 1) (by omega) (by omega) (rep_cong hg.1.1.2.1.2 r2 (fun x y a b => yne (by omega) rfl)) (sfr_s (sfr_y (sfr_y h2 y2 (by omega)) z2 (by omega)) (by omega))
      · skip
        refine y_iload rfl rfl ?_
        refine y_ifne rfl (fun q97 => ?_) (fun q97 => ?_)
        · skip
          refine y_iload rfl rfl ?_
          refine y_push rfl ?_
          refine y_icne rfl (fun q106 => ?_) (fun q106 => ?_)
          · skip
            refine y_aload rfl rfl rfl ?_
            refine y_iload rfl rfl ?_
            refine y_iload rfl rfl ?_
            refine y_vi (as := [(2, 0), (0, s), (0, t)]) (S := []) rfl rfl rfl rfl rfl rfl (by decide) rfl (c_waiting (by omega) (by omega)) ?_
            rintro _ _ ⟨rfl, rfl⟩
            refine y_iret rfl rfl ⟨_, rfl, ?_⟩
            exact ⟨by rw [if_pos hq]; exact xW_sfr hg hx (sfr_s (sfr_y (sfr_y h2 y2 (by omega)) z2 (by omega)) (by omega)), sfr_m (sfr_s (sfr_y (sfr_y h2 y2 (by omega)) z2 (by omega)) (by omega))⟩
          · skip
            refine y_iload rfl rfl ?_
            refine y_goto rfl ?_
            refine y_iret rfl rfl ⟨_, rfl, ?_⟩
            exact ⟨by rw [if_pos hq]; exact xW_sfr hg hx (sfr_s (sfr_y (sfr_y h2 y2 (by omega)) z2 (by omega)) (by omega)), sfr_m (sfr_s (sfr_y (sfr_y h2 y2 (by omega)) z2 (by omega)) (by omega))⟩
        · skip
          refine y_iload rfl rfl ?_
          refine y_goto rfl ?_
          refine y_iret rfl rfl ⟨_, rfl, ?_⟩
          exact ⟨by rw [if_pos hq]; exact xW_sfr hg hx (sfr_s (sfr_y (sfr_y h2 y2 (by omega)) z2 (by omega)) (by omega)), sfr_m (sfr_s (sfr_y (sfr_y h2 y2 (by omega)) z2 (by omega)) (by omega))⟩
theorem c_again {g : Launch × XG × va_G} {σ : YS} {Z : YZ} {I : Int → YZ} {M : YS} {N : Int} {q : Int} (hx : xW σ Z I M) (hg : wG Z I M N) (hN : N < 100000) : YI g 71 [(2, 0), (0, q)] σ (fun b σ' => (xW σ' Z I (if 0 ≤ q ∧ q ≤ 2 then M else bump M 0)) ∧ mfr σ σ') := by
  refine y_start rfl rfl rfl ?_
  have ⟨⟨hr, hu⟩, x2, x3, ⟨x4, x5⟩, x6⟩ := hx
  have ⟨⟨he, hd, hn, hu2, h67, hk⟩, g2, g3, g4⟩ := hg
  have ⟨⟨f1, f2, f3, f4⟩, f5, f6, g7, g8⟩ := hr
  have ⟨e1, e2, e3⟩ := he
  have ⟨u1, u2, u3⟩ := hu
  have x60 : σ 0 11 = M 3 0 := x6 0 (by omega) (by omega)
  have x61 : σ 0 12 = M 3 1 := x6 1 (by omega) (by omega)
  have x62 : σ 0 13 = M 3 2 := x6 2 (by omega) (by omega)
  have g40 := g4 0 (by omega) (by omega)
  have g41 := g4 1 (by omega) (by omega)
  have g42 := g4 2 (by omega) (by omega)
  have f5 : ∀ c, 0 ≤ c → c < 9 → σ 2 c = Z 1 0 c := f5
  have f6 : ∀ i, 0 ≤ i → i < Z 0 1 0 → repm σ (4 + 3 * i) (Z 0) (Z 1) i := f6
  refine y_iload rfl rfl ?_
  refine y_iflt rfl (fun q1 => ?_) (fun q1 => ?_)
  · skip
    refine y_aload rfl rfl rfl ?_
    refine y_push rfl ?_
    refine y_vi (as := [(2, 0), (0, (-10))]) (S := []) rfl rfl rfl rfl rfl rfl (by decide) rfl (c_bad (by omega)) ?_
    rintro _ _ ⟨rfl, rfl⟩
    refine y_iret rfl rfl ⟨_, rfl, ?_⟩
    exact ⟨by rw [if_neg (by omega)]; exact xW_bump hg hx (by omega) rfl rfl, mfr_s (mfr_0 _) (by omega)⟩
  · skip
    refine y_iload rfl rfl ?_
    refine y_push rfl ?_
    refine y_icle rfl (fun q6 => ?_) (fun q6 => ?_)
    · skip
      refine y_aload rfl rfl rfl ?_
      refine y_gfr (t := 37) rfl rfl (by decide) rfl (by decide) ?_
      refine y_aload rfl rfl rfl ?_
      refine y_gfr (t := 1) rfl rfl (by decide) rfl (by decide) ?_
      refine y_vu (as := [(2, 37), (2, 1)]) (S := []) rfl rfl rfl rfl rfl rfl (yS_0 yS_37).1 (yS_c yS_37) (c_scopy (s := 37) (z := 1) yS_37 yS_1 (by omega) hr he) ?_
      rintro σ1 ⟨z1, z2⟩
      refine y_aload rfl rfl rfl ?_
      refine y_gfr (t := 37) rfl rfl (by decide) rfl (by decide) ?_
      refine y_aload rfl rfl rfl ?_
      refine y_gfr (t := 143) rfl rfl (by decide) rfl (by decide) ?_
      refine y_push rfl ?_
      refine y_aald (ty := 0) (v := (144 + 0)) (n := 401) rfl rfl (by decide) rfl (by decide) (yone _ _) ?_
      refine y_vu (as := [(2, 37), (2, (144 + 0))]) (S := []) rfl rfl rfl rfl rfl rfl (yS_0 yS_37).1 (yS_c yS_37) (c_save yS_37 (yB_r (j := 0) (by decide)) (by omega) z1 he) ?_
      rintro σ2 ⟨w1, w2⟩
      refine y_push rfl ?_
      refine y_istore (L' := [some (2, 0), some (0, q), some (0, 1), none]) rfl rfl rfl rfl ?_
      exact l_again (w := σ 37 7) hx hg hN (by omega) 401 σ2 1 (by omega) (by omega) (rep_cong e2.2 z1 (fun x y a b => w2 x y (by omega))) (sfr_y (sfr_y (sfr_0 _) z2 (by omega)) w2 (by omega))
    · skip
      refine y_aload rfl rfl rfl ?_
      refine y_push rfl ?_
      refine y_vi (as := [(2, 0), (0, (-10))]) (S := []) rfl rfl rfl rfl rfl rfl (by decide) rfl (c_bad (by omega)) ?_
      rintro _ _ ⟨rfl, rfl⟩
      refine y_iret rfl rfl ⟨_, rfl, ?_⟩
      exact ⟨by rw [if_neg (by omega)]; exact xW_bump hg hx (by omega) rfl rfl, mfr_s (mfr_0 _) (by omega)⟩
