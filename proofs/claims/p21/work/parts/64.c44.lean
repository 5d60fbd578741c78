/-! The class: a number's value, what is expected. -/
theorem lx_value {g : Launch × XG × va_G} {σ : YS} {T : Int → Int} {L : Int} {p d : Int} (hL : σ 140 2 = L) (hT : ∀ k, 0 ≤ k → k < L → σ 141 k = T k) (hTr : ∀ k, 0 ≤ k → k < L → 0 ≤ T k ∧ T k ≤ 255) (hl : 0 ≤ L ∧ L ≤ 200) (hs : σ 140 6 = p) (he : σ 140 7 = d) (hp : 0 ≤ p ∧ d ≤ L) (h5 : σ 140 5 = 2) (hd : p ≤ d ∧ d ≤ p + 2) (hd3 : ∀ k, p ≤ k → k < d → 48 ≤ T k ∧ T k ≤ 57) : ∀ (nn : Nat) (v : Int) (k : Int), d - k < (nn : Int) → (p ≤ k ∧ k ≤ d) → (v = nv T p k) → YW g 156 15 [some (2, 140), some (0, v), some (0, k)] [] σ (fun rv σ' => ∃ b, rv = some (0, b) ∧ ((σ 140 5 = 2 ∧ nv T p d = b ∧ σ = σ') ∨ (σ 140 5 ≠ 2 ∧ 0 = b ∧ σ = σ'))) := by
  intro nn
  induction nn with
  | zero =>
    intro v k hn h0 h1
    exfalso
    omega
  | succ nn ih =>
    intro v k hn h0 h1
    refine y_iload rfl rfl ?_
    refine y_aload rfl rfl rfl ?_
    refine y_gfi (v := (σ 140 7)) rfl rfl (by decide) rfl (by decide) rfl rfl ?_
    refine y_icge rfl (fun q20 => ?_) (fun q20 => ?_)
    · skip
      refine y_iload rfl rfl ?_
      refine y_iret rfl rfl ⟨_, rfl, ?_⟩
      have ek : k = d := by omega
      exact Or.inl ⟨h5, by rw [h1, ek], rfl⟩
    · skip
      have dk := hd3 k (by omega) (by omega)
      have tq := hT k (by omega) (by omega)
      have vb : 0 ≤ v ∧ v ≤ 9 := by
        rcases (by omega : k = p ∨ k = p + 1) with z | z
        · rw [h1, z]; unfold nv; rw [if_pos (by omega)]; omega
        · have := hd3 p (by omega) (by omega)
          rw [h1, z]; unfold nv; rw [if_neg (by omega), if_pos rfl]; omega
      refine y_push rfl ?_
      refine y_iload rfl rfl ?_
      refine y_imul (v := (10 * v)) rfl rfl (by omega) ?_
      refine y_aload rfl rfl rfl ?_
      refine y_gfr (t := 141) rfl rfl (by decide) rfl (by decide) ?_
      refine y_iload rfl rfl ?_
      refine y_iald (v := (σ 141 k)) (n := 200) rfl rfl (by decide) rfl (by omega) rfl ?_
      refine y_iadd (v := ((10 * v) + (σ 141 k))) rfl rfl (by omega) ?_
      refine y_push rfl ?_
      refine y_isub (v := (((10 * v) + (σ 141 k)) - 48)) rfl rfl (by omega) ?_
      refine y_istore (L' := [some (2, 140), some (0, (((10 * v) + (σ 141 k)) - 48)), some (0, k)]) rfl rfl rfl rfl ?_
      refine y_iinc (L' := [some (2, 140), some (0, (((10 * v) + (σ 141 k)) - 48)), some (0, (k + 1))]) rfl rfl rfl rfl rfl (by omega) ?_
      refine y_goto rfl ?_
      refine ih (((10 * v) + (σ 141 k)) - 48) (k + 1) (by omega) (by omega) ?_
      rcases (by omega : k = p ∨ k = p + 1) with z | z
      · have e0 : v = 0 := by rw [h1, z]; unfold nv; rw [if_pos (by omega)]
        rw [e0, tq, z]; unfold nv; rw [if_neg (by omega), if_pos rfl]; omega
      · have e0 : v = T p - 48 := by rw [h1, z]; unfold nv; rw [if_neg (by omega), if_pos rfl]
        rw [e0, tq, z]; unfold nv; rw [if_neg (by omega), if_neg (by omega)]
theorem x_value {g : Launch × XG × va_G} {σ : YS} {T : Int → Int} {L : Int} {p d : Int} (hL : σ 140 2 = L) (hT : ∀ k, 0 ≤ k → k < L → σ 141 k = T k) (hTr : ∀ k, 0 ≤ k → k < L → 0 ≤ T k ∧ T k ≤ 255) (hl : 0 ≤ L ∧ L ≤ 200) (hs : σ 140 6 = p) (he : σ 140 7 = d) (hp : 0 ≤ p ∧ d ≤ L) (hv : σ 140 5 = 2 → (p ≤ d ∧ d ≤ p + 2) ∧ ∀ k, p ≤ k → k < d → 48 ≤ T k ∧ T k ≤ 57) : YI g 156 [(2, 140)] σ (fun b σ' => (σ 140 5 = 2 ∧ nv T p d = b ∧ σ = σ') ∨ (σ 140 5 ≠ 2 ∧ 0 = b ∧ σ = σ')) := by
  refine y_start rfl rfl rfl ?_
  refine y_push rfl ?_
  refine y_istore (L' := [some (2, 140), some (0, 0), none]) rfl rfl rfl rfl ?_
  refine y_aload rfl rfl rfl ?_
  refine y_gfi (v := (σ 140 5)) rfl rfl (by decide) rfl (by decide) rfl rfl ?_
  refine y_push rfl ?_
  refine y_icne rfl (fun q7 => ?_) (fun q7 => ?_)
  · skip
    refine y_iload rfl rfl ?_
    refine y_iret rfl rfl ⟨_, rfl, ?_⟩
    exact Or.inr ⟨by omega, rfl, rfl⟩
  · skip
    refine y_aload rfl rfl rfl ?_
    refine y_gfi (v := (σ 140 6)) rfl rfl (by decide) rfl (by decide) rfl rfl ?_
    refine y_istore (L' := [some (2, 140), some (0, 0), some (0, (σ 140 6))]) rfl rfl rfl rfl ?_
    have hv2 := hv (by omega)
    rw [hs]
    exact lx_value hL hT hTr hl hs he hp (by omega) hv2.1 hv2.2 4 0 p (by omega) (by omega) (by unfold nv; rw [if_pos (by omega)])
theorem x_expect0 {g : Launch × XG × va_G} {σ : YS}   : YI g 45 [(2, 140), (0, 0)] σ (fun b σ' => 0 = b ∧ yset σ 140 3 (σ 140 6) = σ') := by
  refine y_start rfl rfl rfl ?_
  refine y_iload rfl rfl ?_
  refine y_ifne rfl (fun q1 => ?_) (fun q1 => ?_)
  · exfalso; omega
  · skip
    refine y_aload rfl rfl rfl ?_
    refine y_aload rfl rfl rfl ?_
    refine y_gfi (v := (σ 140 6)) rfl rfl (by decide) rfl (by decide) rfl rfl ?_
    refine y_pfi (j := 3) rfl rfl (by decide) rfl rfl rfl rfl rfl ?_
    refine y_push rfl ?_
    refine y_zret rfl rfl (by decide) ⟨_, rfl, ?_⟩
    exact ⟨rfl, rfl⟩
theorem x_expect1 {g : Launch × XG × va_G} {σ : YS} {T : Int → Int} {L : Int} {p : Int} (hL : σ 140 2 = L) (hT : ∀ k, 0 ≤ k → k < L → σ 141 k = T k) (hTr : ∀ k, 0 ≤ k → k < L → 0 ≤ T k ∧ T k ≤ 255) (hl : 0 ≤ L ∧ L ≤ 200) (he : σ 140 7 = p) (hp : 0 ≤ p ∧ p ≤ L) : YI g 45 [(2, 140), (0, 1)] σ (fun b σ' => 1 = b ∧ σ' 140 5 = xtok T L (nmS T L p) ∧ σ' 140 6 = nmS T L p ∧ σ' 140 7 = xtend T L (nmS T L p) ∧ ∀ x y, ¬ (x = 140 ∧ 5 ≤ y ∧ y ≤ 7) → σ' x y = σ x y) := by
  refine y_start rfl rfl rfl ?_
  refine y_iload rfl rfl ?_
  refine y_ifne rfl (fun q1 => ?_) (fun q1 => ?_)
  · skip
    refine y_aload rfl rfl rfl ?_
    refine y_vu (as := [(2, 140)]) (S := []) rfl rfl rfl rfl rfl rfl (by decide) rfl (x_advanceToken (T := T) (L := L) (p := p) hL hT hTr hl he hp) ?_
    rintro s_ y_
    refine y_push rfl ?_
    refine y_zret rfl rfl (by decide) ⟨_, rfl, ?_⟩
    exact ⟨rfl, y_⟩
  · exfalso; omega
