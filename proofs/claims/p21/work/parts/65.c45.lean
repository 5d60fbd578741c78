/-! The class: a slip's signs, one by one. -/
theorem lx_writeSlip {g : Launch × XG × va_G} {σ : YS} {T : Int → Int} {L q0 q1 a N : Int} {r : YO} (hL : σ 140 2 = L) (hT : ∀ k, 0 ≤ k → k < L → σ 141 k = T k) (hTr : ∀ k, 0 ≤ k → k < L → 0 ≤ T k ∧ T k ≤ 255) (hl : 0 ≤ L ∧ L ≤ 200) (ha : σ 142 0 = a) (h8 : σ 140 8 = q0) (h9 : σ 140 9 = q1) (hq : 0 ≤ q0 ∧ q0 < q1 ∧ q1 ≤ L) (ho : oG r N) : ∀ (nn : Nat) (τ : YS) (ans : Int) (k : Int), q1 - k < (nn : Int) → (q0 ≤ k ∧ k ≤ q1) → ((obS T a q0 r (k - q0).toNat).1 ≠ 0) → (rep τ 37 (obS T a q0 r (k - q0).toNat).2.1 (obS T a q0 r (k - q0).toNat).2.2) → (∀ x y, ¬ (37 ≤ x ∧ x ≤ 49) → τ x y = σ x y) → ((k = q0 ∧ ans = -2) ∨ (q0 < k ∧ 0 ≤ ans)) → YW g 155 8 [some (2, 140), some (2, 37), some (0, ans), some (0, k)] [] τ (fun rv σ' => ∃ b, rv = some (0, b) ∧ ((b < 0 ∧ (obS T a q0 r (q1 - q0).toNat).1 = 0 ∧ (∀ x y, ¬ (37 ≤ x ∧ x ≤ 49) → σ' x y = σ x y)) ∨ (0 ≤ b ∧ (obS T a q0 r (q1 - q0).toNat).1 ≠ 0 ∧ rep σ' 37 (obS T a q0 r (q1 - q0).toNat).2.1 (obS T a q0 r (q1 - q0).toNat).2.2 ∧ (∀ x y, ¬ (37 ≤ x ∧ x ≤ 49) → σ' x y = σ x y)))) := by
  intro nn
  induction nn with
  | zero =>
    intro τ ans k hn h0 h1 h2 h3 h4
    exfalso
    omega
  | succ nn ih =>
    intro τ ans k hn h0 h1 h2 h3 h4
    have t8 : τ 140 9 = q1 := (h3 _ _ (by omega)).trans h9
    refine y_iload rfl rfl ?_
    refine y_aload rfl rfl rfl ?_
    refine y_gfi (v := (τ 140 9)) rfl rfl (by decide) rfl (by decide) rfl rfl ?_
    refine y_icge rfl (fun q13 => ?_) (fun q13 => ?_)
    · skip
      refine y_iload rfl rfl ?_
      refine y_iret rfl rfl ⟨_, rfl, ?_⟩
      have kq : k = q1 := by omega
      rw [kq] at h1 h2
      exact Or.inr ⟨by omega, h1, h2, h3⟩
    · skip
      refine y_aload rfl rfl rfl ?_
      refine y_aload rfl rfl rfl ?_
      refine y_gfr (t := 142) rfl rfl (by decide) rfl (by decide) ?_
      refine y_push rfl ?_
      refine y_iald (v := (τ 142 0)) (n := 2) rfl rfl (by decide) rfl (by decide) rfl ?_
      refine y_ldcs (q := 10) rfl rfl ?_
      refine y_aload rfl rfl rfl ?_
      refine y_gfr (t := 141) rfl rfl (by decide) rfl (by decide) ?_
      refine y_iload rfl rfl ?_
      refine y_iald (v := (τ 141 k)) (n := 200) rfl rfl (by decide) rfl (by omega) rfl ?_
      have t1 : τ 141 k = T k := (h3 _ _ (by omega)).trans (hT k (by omega) (by omega))
      have t2 := hTr k (by omega) (by omega)
      refine y_i2c rfl (by omega) ?_
      refine y_sidx (li := 0) (v := (ysix 0 (τ 141 k))) rfl rfl (by decide) rfl (by omega) rfl ?_
      have og := oG_S (T := T) (a := a) (q := q0) ho (k - q0).toNat
      have na : τ 142 0 = a := (h3 _ _ (by omega)).trans ha
      have ek : q0 + (((k - q0).toNat : Nat) : Int) = k := by omega
      have sx : ysix 0 (τ 141 k) = sgOf (T k) := by rw [h3 _ _ (by omega), hT k (by omega) (by omega)]; exact ysix_sg (hTr k (by omega) (by omega))
      refine y_vi (as := [(2, 37), (0, (τ 142 0)), (0, (ysix 0 (τ 141 k)))]) (S := []) rfl rfl rfl rfl rfl rfl (yS_0 yS_37).1 (yS_c yS_37) (c_append (E := (obS T a q0 r (k - q0).toNat).2.1) (D := (obS T a q0 r (k - q0).toNat).2.2) yS_37 h2 og.1 og.2.1) ?_
      rintro b_ s_ (⟨hv, hv2, hv3, rfl, z1, z2⟩ | ⟨hv, rfl, rfl⟩ | ⟨hv, hv2, rfl, rfl⟩)
      · skip
        have hn0 : 0 ≤ (obS T a q0 r (k - q0).toNat).2.1 3 (τ 142 0) := (og.1.2.2 (τ 142 0) (by omega) (by omega)).2.1.1
        refine y_istore (L' := [some (2, 140), some (2, 37), some (0, ((obS T a q0 r (k - q0).toNat).2.1 3 (τ 142 0) + 1)), some (0, k)]) rfl rfl rfl rfl ?_
        refine y_iload rfl rfl ?_
        refine y_ifge rfl (fun q40 => ?_) (fun q40 => ?_)
        · skip
          refine y_iinc (L' := [some (2, 140), some (2, 37), some (0, ((obS T a q0 r (k - q0).toNat).2.1 3 (τ 142 0) + 1)), some (0, (k + 1))]) rfl rfl rfl rfl rfl (by omega) ?_
          refine y_goto rfl ?_
          have good : obS T a q0 r (k + 1 - q0).toNat = (1, appE (obS T a q0 r (k - q0).toNat).2.1 a (sgOf (T k)), appD (obS T a q0 r (k - q0).toNat).2.1 (obS T a q0 r (k - q0).toNat).2.2 a (sgOf (T k))) := by
            rw [show (k + 1 - q0).toNat = (k - q0).toNat + 1 by omega]
            show (if _ then _ else _ : YO) = _
            rw [if_neg h1, ek]
            rw [na] at hv hv3
            rw [sx] at hv2
            rw [if_pos ⟨hv, hv2, hv3⟩]
          rw [na, sx] at z1
          refine ih s_ ((obS T a q0 r (k - q0).toNat).2.1 3 (τ 142 0) + 1) (k + 1) (by omega) (by omega) (by rw [good]; show (1 : Int) ≠ 0; decide) (by rw [good]; exact z1) (fun x y hx => ?_) (by omega)
          rw [z2 x y (by omega)]; exact h3 x y hx
        · skip
          refine y_iload rfl rfl ?_
          refine y_iret rfl rfl ⟨_, rfl, ?_⟩
          exfalso; omega
      · skip
        refine y_istore (L' := [some (2, 140), some (2, 37), some (0, (-2)), some (0, k)]) rfl rfl rfl rfl ?_
        refine y_iload rfl rfl ?_
        refine y_ifge rfl (fun q40 => ?_) (fun q40 => ?_)
        · exfalso; omega
        · skip
          refine y_iload rfl rfl ?_
          refine y_iret rfl rfl ⟨_, rfl, ?_⟩
          have bad : (obS T a q0 r ((k - q0).toNat + 1)).1 = 0 := by
            show (if _ then _ else _ : YO).1 = 0
            rw [if_neg h1, if_neg (fun z => by rw [ek] at z; rw [na, sx] at hv; exact hv ⟨z.1, z.2.1⟩)]
          exact Or.inl ⟨by omega, obS_0 bad _ (by omega), h3⟩
      · skip
        refine y_istore (L' := [some (2, 140), some (2, 37), some (0, (-4)), some (0, k)]) rfl rfl rfl rfl ?_
        refine y_iload rfl rfl ?_
        refine y_ifge rfl (fun q40 => ?_) (fun q40 => ?_)
        · exfalso; omega
        · skip
          refine y_iload rfl rfl ?_
          refine y_iret rfl rfl ⟨_, rfl, ?_⟩
          have bad : (obS T a q0 r ((k - q0).toNat + 1)).1 = 0 := by
            show (if _ then _ else _ : YO).1 = 0
            rw [if_neg h1, if_neg (fun z => by rw [ek] at z; rw [na, sx] at hv; rw [na] at hv2; omega)]
          exact Or.inl ⟨by omega, obS_0 bad _ (by omega), h3⟩
theorem x_writeSlip {g : Launch × XG × va_G} {σ : YS} {T : Int → Int} {L q0 q1 a N : Int} {r : YO} (hL : σ 140 2 = L) (hT : ∀ k, 0 ≤ k → k < L → σ 141 k = T k) (hTr : ∀ k, 0 ≤ k → k < L → 0 ≤ T k ∧ T k ≤ 255) (hl : 0 ≤ L ∧ L ≤ 200) (ha : σ 142 0 = a) (h8 : σ 140 8 = q0) (h9 : σ 140 9 = q1) (hq : 0 ≤ q0 ∧ q0 < q1 ∧ q1 ≤ L) (ho : oG r N) (hr1 : r.1 ≠ 0) (hr2 : rep σ 37 r.2.1 r.2.2) : YI g 155 [(2, 140), (2, 37)] σ (fun b σ' => (b < 0 ∧ (obS T a q0 r (q1 - q0).toNat).1 = 0 ∧ (∀ x y, ¬ (37 ≤ x ∧ x ≤ 49) → σ' x y = σ x y)) ∨ (0 ≤ b ∧ (obS T a q0 r (q1 - q0).toNat).1 ≠ 0 ∧ rep σ' 37 (obS T a q0 r (q1 - q0).toNat).2.1 (obS T a q0 r (q1 - q0).toNat).2.2 ∧ (∀ x y, ¬ (37 ≤ x ∧ x ≤ 49) → σ' x y = σ x y))) := by
  refine y_start rfl rfl rfl ?_
  refine y_push rfl ?_
  refine y_istore (L' := [some (2, 140), some (2, 37), some (0, (-2)), none]) rfl rfl rfl rfl ?_
  refine y_aload rfl rfl rfl ?_
  refine y_gfi (v := (σ 140 8)) rfl rfl (by decide) rfl (by decide) rfl rfl ?_
  refine y_istore (L' := [some (2, 140), some (2, 37), some (0, (-2)), some (0, (σ 140 8))]) rfl rfl rfl rfl ?_
  rw [h8]
  have z0 : (q0 - q0).toNat = 0 := by omega
  exact lx_writeSlip hL hT hTr hl ha h8 h9 hq ho 202 σ (-2) q0 (by omega) (by omega) (by rw [z0]; exact hr1) (by rw [z0]; exact hr2) (fun _ _ _ => rfl) (Or.inl ⟨rfl, rfl⟩)
