/-! The model: which order leaves most. -/
theorem lm_fT {g : Launch × XG × va_G} {σ : YS} {Z : YZ} {I : Int → YZ} {M : YS} {N : Int} {m c i : Int} {n cs most fd code out lf u k q : Int} {C : YS} {P0 : Int → YS → Prop}  (hx : mW σ Z I M) (hg : wG Z I M N) (hN : N < 100000) (hm : (0 ≤ m ∧ m ≤ 60) ∧ (0 ≤ c ∧ c < Z 0 0 0) ∧ -1 ≤ i) (hd2 : dG (Z 0) C) (h5 : 0 ≤ C 5 0 ∧ C 5 0 ≤ N + 200) (hk : ∀ s, mfs σ s → rm s (Z 0) (msteps (Z 0) C m.toNat) → YW g 93 160 [some (2, 547), some (0, m), some (0, c), some (0, i), some (0, n), some (0, cs), some (0, most), some (0, fd), some (0, code), some (0, out), some (0, lf), some (0, u), some (0, k), some (0, q), none] [] s (fun rv σ' => ∃ b, rv = some (0, b) ∧ (P0 b σ'))) : ∀ (nn : Nat) (τ : YS) (t : Int), m - t < (nn : Int) → (0 ≤ t ∧ t ≤ m) → (mfs σ τ) → (rm τ (Z 0) (msteps (Z 0) C t.toNat)) → YW g 93 143 [some (2, 547), some (0, m), some (0, c), some (0, i), some (0, n), some (0, cs), some (0, most), some (0, fd), some (0, code), some (0, out), some (0, lf), some (0, u), some (0, k), some (0, q), some (0, t)] [] τ (fun rv σ' => ∃ b, rv = some (0, b) ∧ (P0 b σ')) := by
  intro nn
  induction nn with
  | zero =>
    intro τ t hn h0 h1 h2
    exfalso
    omega
  | succ nn ih =>
    intro τ t hn h0 h1 h2
    refine y_iload rfl rfl ?_
    refine y_iload rfl rfl ?_
    refine y_icge rfl (fun q146 => ?_) (fun q146 => ?_)
    · skip
      refine y_forget (M := [some (2, 547), some (0, m), some (0, c), some (0, i), some (0, n), some (0, cs), some (0, most), some (0, fd), some (0, code), some (0, out), some (0, lf), some (0, u), some (0, k), some (0, q), none]) ⟨Or.inr rfl, ⟨Or.inr rfl, ⟨Or.inr rfl, ⟨Or.inr rfl, ⟨Or.inr rfl, ⟨Or.inr rfl, ⟨Or.inr rfl, ⟨Or.inr rfl, ⟨Or.inr rfl, ⟨Or.inr rfl, ⟨Or.inr rfl, ⟨Or.inr rfl, ⟨Or.inr rfl, ⟨Or.inr rfl, ⟨Or.inl rfl, trivial⟩⟩⟩⟩⟩⟩⟩⟩⟩⟩⟩⟩⟩⟩⟩ ?_
      exact hk τ h1 (by rw [show m.toNat = t.toNat by omega]; exact h2)
    · skip
      refine y_aload rfl rfl rfl ?_
      refine y_vi (as := [(2, 547)]) (S := []) rfl rfl rfl rfl rfl rfl (by decide) rfl (m_goStep h2 hg.1.1 (dG_steps hd2 hg.1.1 _) (by rw [msteps_5]; omega)) ?_
      rintro _ s1 ⟨y1, rfl, y2⟩
      refine y_pop rfl rfl ?_
      refine y_iinc (L' := [some (2, 547), some (0, m), some (0, c), some (0, i), some (0, n), some (0, cs), some (0, most), some (0, fd), some (0, code), some (0, out), some (0, lf), some (0, u), some (0, k), some (0, q), some (0, (t + 1))]) rfl rfl rfl rfl rfl (by omega) ?_
      refine y_goto rfl ?_
      exact ih s1 (t + 1) (by omega) (by omega) (mfs_t h1 (rfr_m y2)) (by rw [show (t + 1).toNat = t.toNat + 1 by omega]; exact y1)
theorem lm_f0_0 {g : Launch × XG × va_G} {σ : YS} {τ : YS} {Z : YZ} {I : Int → YZ} {M : YS} {N : Int} {m c i : Int} {r : Int × Int} {P0 : Int → YS → Prop}  (hx : mW σ Z I M) (hg : wG Z I M N) (hN : N < 100000) (hm : (0 ≤ m ∧ m ≤ 60) ∧ (0 ≤ c ∧ c < Z 0 0 0) ∧ -1 ≤ i) (hw : Z 0 1 0 = 0) (h1 : mfs σ τ) (hk : ∀ s, mfs σ s → YW g 93 82 [some (2, 547), some (0, m), some (0, c), some (0, i), some (0, 0), some (0, 1), some (0, (mbx r ((Z 1) 0 c) 0).1), some (0, (mbx r ((Z 1) 0 c) 0).2), some (0, 1), none, none, none, none, none, none] [] s (fun rv σ' => ∃ b, rv = some (0, b) ∧ (P0 b σ'))) : YW g 93 82 [some (2, 547), some (0, m), some (0, c), some (0, i), some (0, 0), some (0, 1), some (0, r.1), some (0, r.2), some (0, 0), none, none, none, none, none, none] [] τ (fun rv σ' => ∃ b, rv = some (0, b) ∧ (P0 b σ')) := by
  have e1 := hg.1.1.1
  have hn5 := hg.1.2.2.1
  refine y_iload rfl rfl ?_
  refine y_iload rfl rfl ?_
  refine y_icge rfl (fun q86 => ?_) (fun q86 => ?_)
  · exfalso; omega
  · skip
    refine y_aload rfl rfl rfl ?_
    refine y_vu (as := [(2, 547)]) (S := []) rfl rfl rfl rfl rfl rfl (by decide) rfl (m_layNow (mzs_cong hg.1.1 hx.1.1 (fun y a b => h1 548 y (by omega))) hg.1.1 hg.1.2.1 hg.1.2.2.2.2.1.1) ?_
    rintro s1 ⟨l1, l2⟩
    refine y_push rfl ?_
    refine y_istore (L' := [some (2, 547), some (0, m), some (0, c), some (0, i), some (0, 0), some (0, 1), some (0, r.1), some (0, r.2), some (0, 0), some (0, 0), none, none, none, none, none]) rfl rfl rfl rfl ?_
    refine y_iload rfl rfl ?_
    refine y_istore (L' := [some (2, 547), some (0, m), some (0, c), some (0, i), some (0, 0), some (0, 1), some (0, r.1), some (0, r.2), some (0, 0), some (0, 0), some (0, 0), none, none, none, none]) rfl rfl rfl rfl ?_
    refine y_iload rfl rfl ?_
    refine y_istore (L' := [some (2, 547), some (0, m), some (0, c), some (0, i), some (0, 0), some (0, 1), some (0, r.1), some (0, r.2), some (0, 0), some (0, 0), some (0, 0), some (0, 1), none, none, none]) rfl rfl rfl rfl ?_
    refine y_push rfl ?_
    refine y_istore (L' := [some (2, 547), some (0, m), some (0, c), some (0, i), some (0, 0), some (0, 1), some (0, r.1), some (0, r.2), some (0, 0), some (0, 0), some (0, 0), some (0, 1), some (0, 0), none, none]) rfl rfl rfl rfl ?_
    refine y_iload rfl rfl ?_
    refine y_iload rfl rfl ?_
    refine y_icge rfl (fun q111 => ?_) (fun q111 => ?_)
    · skip
      refine y_iload rfl rfl ?_
      refine y_push rfl ?_
      refine y_iload rfl rfl ?_
      refine y_ishl (v := 1) rfl rfl ?_
      refine y_push rfl ?_
      refine y_isub (v := 0) rfl rfl (by decide) ?_
      refine y_icne rfl (fun q182 => ?_) (fun q182 => ?_)
      · exfalso; omega
      · skip
        refine y_push rfl ?_
        refine y_goto rfl ?_
        refine y_istore (L' := [some (2, 547), some (0, m), some (0, c), some (0, i), some (0, 0), some (0, 1), some (0, r.1), some (0, r.2), some (0, 0), some (0, 0), some (0, 0), some (0, 1), some (0, 1), none, none]) rfl rfl rfl rfl ?_
        have hv : s1 554 c = ((Z 1) 0 c) := l1.2.1 c (by omega) (by omega)
        refine y_iload rfl rfl ?_
        refine y_ifeq rfl (fun q194 => ?_) (fun q194 => ?_)
        · exfalso; omega
        · skip
          refine y_aload rfl rfl rfl ?_
          refine y_gfr (t := 554) rfl rfl (by decide) rfl (by decide) ?_
          refine y_iload rfl rfl ?_
          refine y_iald (v := (s1 554 c)) (n := 9) rfl rfl (by decide) rfl (by omega) rfl ?_
          refine y_iload rfl rfl ?_
          refine y_icle rfl (fun q205 => ?_) (fun q205 => ?_)
          · skip
            refine y_iload rfl rfl ?_
            refine y_istore (L' := [some (2, 547), some (0, m), some (0, c), some (0, i), some (0, 0), some (0, 1), some (0, r.1), some (0, r.2), some (0, 0), some (0, 0), some (0, 0), some (0, 1), some (0, 1), none, none]) rfl rfl rfl rfl ?_
            refine y_iload rfl rfl ?_
            refine y_ifeq rfl (fun q219 => ?_) (fun q219 => ?_)
            · exfalso; omega
            · skip
              refine y_aload rfl rfl rfl ?_
              refine y_gfr (t := 554) rfl rfl (by decide) rfl (by decide) ?_
              refine y_iload rfl rfl ?_
              refine y_iald (v := (s1 554 c)) (n := 9) rfl rfl (by decide) rfl (by omega) rfl ?_
              refine y_iload rfl rfl ?_
              refine y_icle rfl (fun q230 => ?_) (fun q230 => ?_)
              · skip
                refine y_iload rfl rfl ?_
                refine y_istore (L' := [some (2, 547), some (0, m), some (0, c), some (0, i), some (0, 0), some (0, 1), some (0, r.1), some (0, r.2), some (0, 0), some (0, 0), some (0, 0), some (0, 1), some (0, 1), none, none]) rfl rfl rfl rfl ?_
                refine y_iinc (L' := [some (2, 547), some (0, m), some (0, c), some (0, i), some (0, 0), some (0, 1), some (0, r.1), some (0, r.2), some (0, 1), some (0, 0), some (0, 0), some (0, 1), some (0, 1), none, none]) rfl rfl rfl rfl rfl (by decide) ?_
                refine y_goto rfl ?_
                refine y_forget (M := [some (2, 547), some (0, m), some (0, c), some (0, i), some (0, 0), some (0, 1), some (0, r.1), some (0, r.2), some (0, 1), none, none, none, none, none, none]) ⟨Or.inr rfl, ⟨Or.inr rfl, ⟨Or.inr rfl, ⟨Or.inr rfl, ⟨Or.inr rfl, ⟨Or.inr rfl, ⟨Or.inr rfl, ⟨Or.inr rfl, ⟨Or.inr rfl, ⟨Or.inl rfl, ⟨Or.inl rfl, ⟨Or.inl rfl, ⟨Or.inl rfl, ⟨Or.inl rfl, ⟨Or.inl rfl, trivial⟩⟩⟩⟩⟩⟩⟩⟩⟩⟩⟩⟩⟩⟩⟩ ?_
                have e := hk _ (mfs_t h1 l2)
                rw [show mbx r ((Z 1) 0 c) 0 = r from if_neg (by first | omega | (rw [← hv]; omega))] at e
                exact e
              · exfalso; omega
          · skip
            refine y_iload rfl rfl ?_
            refine y_goto rfl ?_
            refine y_istore (L' := [some (2, 547), some (0, m), some (0, c), some (0, i), some (0, 0), some (0, 1), some (0, r.1), some (0, 0), some (0, 0), some (0, 0), some (0, 0), some (0, 1), some (0, 1), none, none]) rfl rfl rfl rfl ?_
            refine y_iload rfl rfl ?_
            refine y_ifeq rfl (fun q219 => ?_) (fun q219 => ?_)
            · exfalso; omega
            · skip
              refine y_aload rfl rfl rfl ?_
              refine y_gfr (t := 554) rfl rfl (by decide) rfl (by decide) ?_
              refine y_iload rfl rfl ?_
              refine y_iald (v := (s1 554 c)) (n := 9) rfl rfl (by decide) rfl (by omega) rfl ?_
              refine y_iload rfl rfl ?_
              refine y_icle rfl (fun q230 => ?_) (fun q230 => ?_)
              · exfalso; omega
              · skip
                refine y_aload rfl rfl rfl ?_
                refine y_gfr (t := 554) rfl rfl (by decide) rfl (by decide) ?_
                refine y_iload rfl rfl ?_
                refine y_iald (v := (s1 554 c)) (n := 9) rfl rfl (by decide) rfl (by omega) rfl ?_
                refine y_goto rfl ?_
                refine y_istore (L' := [some (2, 547), some (0, m), some (0, c), some (0, i), some (0, 0), some (0, 1), some (0, (s1 554 c)), some (0, 0), some (0, 0), some (0, 0), some (0, 0), some (0, 1), some (0, 1), none, none]) rfl rfl rfl rfl ?_
                refine y_iinc (L' := [some (2, 547), some (0, m), some (0, c), some (0, i), some (0, 0), some (0, 1), some (0, (s1 554 c)), some (0, 0), some (0, 1), some (0, 0), some (0, 0), some (0, 1), some (0, 1), none, none]) rfl rfl rfl rfl rfl (by decide) ?_
                refine y_goto rfl ?_
                refine y_forget (M := [some (2, 547), some (0, m), some (0, c), some (0, i), some (0, 0), some (0, 1), some (0, (s1 554 c)), some (0, 0), some (0, 1), none, none, none, none, none, none]) ⟨Or.inr rfl, ⟨Or.inr rfl, ⟨Or.inr rfl, ⟨Or.inr rfl, ⟨Or.inr rfl, ⟨Or.inr rfl, ⟨Or.inr rfl, ⟨Or.inr rfl, ⟨Or.inr rfl, ⟨Or.inl rfl, ⟨Or.inl rfl, ⟨Or.inl rfl, ⟨Or.inl rfl, ⟨Or.inl rfl, ⟨Or.inl rfl, trivial⟩⟩⟩⟩⟩⟩⟩⟩⟩⟩⟩⟩⟩⟩⟩ ?_
                have e := hk _ (mfs_t h1 l2)
                rw [show mbx r ((Z 1) 0 c) 0 = ((s1 554 c), 0) from (if_pos (by first | omega | (rw [← hv]; omega))).trans (by rw [hv])] at e
                exact e
    · exfalso; omega
theorem lm_fE0 {g : Launch × XG × va_G} {σ : YS} {τ : YS} {Z : YZ} {I : Int → YZ} {M : YS} {N : Int} {m c i : Int} {r : Int × Int} {P0 : Int → YS → Prop}  (hx : mW σ Z I M) (hg : wG Z I M N) (hN : N < 100000) (hm : (0 ≤ m ∧ m ≤ 60) ∧ (0 ≤ c ∧ c < Z 0 0 0) ∧ -1 ≤ i) (hr : 0 ≤ r.2) (hk : ∀ b, b = ransw 0 r i → P0 b τ) : YW g 93 82 [some (2, 547), some (0, m), some (0, c), some (0, i), some (0, 0), some (0, 1), some (0, r.1), some (0, r.2), some (0, 1), none, none, none, none, none, none] [] τ (fun rv σ' => ∃ b, rv = some (0, b) ∧ (P0 b σ')) := by
  refine y_iload rfl rfl ?_
  refine y_iload rfl rfl ?_
  refine y_icge rfl (fun q86 => ?_) (fun q86 => ?_)
  · skip
    refine y_push rfl ?_
    refine y_istore (L' := [some (2, 547), some (0, m), some (0, c), some (0, i), some (0, 0), some (0, 1), some (0, r.1), some (0, r.2), some (0, 1), none, none, none, none, none, none]) rfl rfl rfl rfl ?_
    refine y_iload rfl rfl ?_
    refine y_push rfl ?_
    refine y_isub (v := (-1)) rfl rfl (by decide) ?_
    refine y_istore (L' := [some (2, 547), some (0, m), some (0, c), some (0, i), some (0, 0), some (0, 1), some (0, r.1), some (0, r.2), some (0, 1), some (0, (-1)), none, none, none, none, none]) rfl rfl rfl rfl ?_
    refine y_iload rfl rfl ?_
    refine y_iload rfl rfl ?_
    refine y_icle rfl (fun q264 => ?_) (fun q264 => ?_)
    · skip
      refine y_iload rfl rfl ?_
      refine y_push rfl ?_
      refine y_icne rfl (fun q282 => ?_) (fun q282 => ?_)
      · skip
        refine y_iload rfl rfl ?_
        refine y_iload rfl rfl ?_
        refine y_icge rfl (fun q293 => ?_) (fun q293 => ?_)
        · skip
          refine y_push rfl ?_
          refine y_iret rfl rfl ⟨_, rfl, ?_⟩
          exact hk _ (by unfold ransw; (repeat' split) <;> omega)
        · exfalso; omega
      · skip
        refine y_iload rfl rfl ?_
        refine y_goto rfl ?_
        refine y_iret rfl rfl ⟨_, rfl, ?_⟩
        exact hk _ (by unfold ransw; (repeat' split) <;> omega)
    · exfalso; omega
  · exfalso; omega
theorem lm_fA0 {g : Launch × XG × va_G} {σ : YS} {τ : YS} {Z : YZ} {I : Int → YZ} {M : YS} {N : Int} {m c i : Int} {P0 : Int → YS → Prop} (hx : mW σ Z I M) (hg : wG Z I M N) (hN : N < 100000) (hm : (0 ≤ m ∧ m ≤ 60) ∧ (0 ≤ c ∧ c < Z 0 0 0) ∧ -1 ≤ i) (hw : Z 0 1 0 = 0) (h1 : mfs σ τ) (hk : ∀ b s, mfs σ s → b = ransw 0 (mfold (fun l => mch (Z 0) m.toNat (Z 1) l 0 c) (mlist 0) (-1, 0)) i → P0 b s) : YW g 93 82 [some (2, 547), some (0, m), some (0, c), some (0, i), some (0, 0), some (0, 1), some (0, (-1)), some (0, 0), some (0, 0), none, none, none, none, none, none] [] τ (fun rv σ' => ∃ b, rv = some (0, b) ∧ (P0 b σ')) := by
  refine lm_f0_0 (r := ((-1, 0) : Int × Int)) hx hg hN hm hw h1 (fun s0 f0 => ?_)
  exact lm_fE0 (r := (mbx ((-1, 0) : Int × Int) ((Z 1) 0 c) 0)) hx hg hN hm (mbx_0 (by decide) (by decide)) (fun b hb => hk b _ f0 hb)
theorem lm_f1_0 {g : Launch × XG × va_G} {σ : YS} {τ : YS} {Z : YZ} {I : Int → YZ} {M : YS} {N : Int} {m c i : Int} {r : Int × Int} {P0 : Int → YS → Prop}  (hx : mW σ Z I M) (hg : wG Z I M N) (hN : N < 100000) (hm : (0 ≤ m ∧ m ≤ 60) ∧ (0 ≤ c ∧ c < Z 0 0 0) ∧ -1 ≤ i) (hw : Z 0 1 0 = 1) (h1 : mfs σ τ) (hk : ∀ s, mfs σ s → YW g 93 82 [some (2, 547), some (0, m), some (0, c), some (0, i), some (0, 1), some (0, 1), some (0, (mbx r ((mem1 (Z 0) m.toNat (Z 1) 0) 0 c) 0).1), some (0, (mbx r ((mem1 (Z 0) m.toNat (Z 1) 0) 0 c) 0).2), some (0, 1), none, none, none, none, none, none] [] s (fun rv σ' => ∃ b, rv = some (0, b) ∧ (P0 b σ'))) : YW g 93 82 [some (2, 547), some (0, m), some (0, c), some (0, i), some (0, 1), some (0, 1), some (0, r.1), some (0, r.2), some (0, 0), none, none, none, none, none, none] [] τ (fun rv σ' => ∃ b, rv = some (0, b) ∧ (P0 b σ')) := by
  have e1 := hg.1.1.1
  have hn5 := hg.1.2.2.1
  refine y_iload rfl rfl ?_
  refine y_iload rfl rfl ?_
  refine y_icge rfl (fun q86 => ?_) (fun q86 => ?_)
  · exfalso; omega
  · skip
    refine y_aload rfl rfl rfl ?_
    refine y_vu (as := [(2, 547)]) (S := []) rfl rfl rfl rfl rfl rfl (by decide) rfl (m_layNow (mzs_cong hg.1.1 hx.1.1 (fun y a b => h1 548 y (by omega))) hg.1.1 hg.1.2.1 hg.1.2.2.2.2.1.1) ?_
    rintro s1 ⟨l1, l2⟩
    refine y_push rfl ?_
    refine y_istore (L' := [some (2, 547), some (0, m), some (0, c), some (0, i), some (0, 1), some (0, 1), some (0, r.1), some (0, r.2), some (0, 0), some (0, 0), none, none, none, none, none]) rfl rfl rfl rfl ?_
    refine y_iload rfl rfl ?_
    refine y_istore (L' := [some (2, 547), some (0, m), some (0, c), some (0, i), some (0, 1), some (0, 1), some (0, r.1), some (0, r.2), some (0, 0), some (0, 0), some (0, 0), none, none, none, none]) rfl rfl rfl rfl ?_
    refine y_iload rfl rfl ?_
    refine y_istore (L' := [some (2, 547), some (0, m), some (0, c), some (0, i), some (0, 1), some (0, 1), some (0, r.1), some (0, r.2), some (0, 0), some (0, 0), some (0, 0), some (0, 1), none, none, none]) rfl rfl rfl rfl ?_
    refine y_push rfl ?_
    refine y_istore (L' := [some (2, 547), some (0, m), some (0, c), some (0, i), some (0, 1), some (0, 1), some (0, r.1), some (0, r.2), some (0, 0), some (0, 0), some (0, 0), some (0, 1), some (0, 0), none, none]) rfl rfl rfl rfl ?_
    refine y_iload rfl rfl ?_
    refine y_iload rfl rfl ?_
    refine y_icge rfl (fun q111 => ?_) (fun q111 => ?_)
    · exfalso; omega
    · skip
      refine y_iload rfl rfl ?_
      refine y_iload rfl rfl ?_
      refine y_idiv (v := 1) rfl rfl (by omega) ?_
      refine y_istore (L' := [some (2, 547), some (0, m), some (0, c), some (0, i), some (0, 1), some (0, 1), some (0, r.1), some (0, r.2), some (0, 0), some (0, 0), some (0, 0), some (0, 1), some (0, 0), none, none]) rfl rfl rfl rfl ?_
      refine y_iload rfl rfl ?_
      refine y_iload rfl rfl ?_
      refine y_idiv (v := 0) rfl rfl (by omega) ?_
      refine y_iload rfl rfl ?_
      refine y_irem (v := 0) rfl rfl (by omega) ?_
      refine y_istore (L' := [some (2, 547), some (0, m), some (0, c), some (0, i), some (0, 1), some (0, 1), some (0, r.1), some (0, r.2), some (0, 0), some (0, 0), some (0, 0), some (0, 1), some (0, 0), some (0, 0), none]) rfl rfl rfl rfl ?_
      refine y_iload rfl rfl ?_
      refine y_push rfl ?_
      refine y_iload rfl rfl ?_
      refine y_ishl (v := 1) rfl rfl ?_
      refine y_ior (v := 1) rfl rfl ?_
      refine y_istore (L' := [some (2, 547), some (0, m), some (0, c), some (0, i), some (0, 1), some (0, 1), some (0, r.1), some (0, r.2), some (0, 0), some (0, 1), some (0, 0), some (0, 1), some (0, 0), some (0, 0), none]) rfl rfl rfl rfl ?_
      refine y_push rfl ?_
      refine y_istore (L' := [some (2, 547), some (0, m), some (0, c), some (0, i), some (0, 1), some (0, 1), some (0, r.1), some (0, r.2), some (0, 0), some (0, 1), some (0, 0), some (0, 1), some (0, 0), some (0, 0), some (0, 0)]) rfl rfl rfl rfl ?_
      refine lm_fT (C := (Z 1)) hx hg hN hm hg.1.2.1 (by omega) (fun s10 f1 r1 => ?_) 62 s1 0 (by omega) (by omega) (mfs_t h1 l2) l1
      refine y_aload rfl rfl rfl ?_
      refine y_gfr (t := 558) rfl rfl (by decide) rfl (by decide) ?_
      refine y_iload rfl rfl ?_
      refine y_push rfl ?_
      refine y_iast (n := 3) rfl rfl (by decide) rfl (by decide) ?_
      refine y_iinc (L' := [some (2, 547), some (0, m), some (0, c), some (0, i), some (0, 1), some (0, 1), some (0, r.1), some (0, r.2), some (0, 0), some (0, 1), some (0, 0), some (0, 1), some (0, 1), some (0, 0), none]) rfl rfl rfl rfl rfl (by decide) ?_
      refine y_goto rfl ?_
      refine y_iload rfl rfl ?_
      refine y_iload rfl rfl ?_
      refine y_icge rfl (fun q111 => ?_) (fun q111 => ?_)
      · skip
        refine y_iload rfl rfl ?_
        refine y_push rfl ?_
        refine y_iload rfl rfl ?_
        refine y_ishl (v := 2) rfl rfl ?_
        refine y_push rfl ?_
        refine y_isub (v := 1) rfl rfl (by decide) ?_
        refine y_icne rfl (fun q182 => ?_) (fun q182 => ?_)
        · exfalso; omega
        · skip
          refine y_push rfl ?_
          refine y_goto rfl ?_
          refine y_istore (L' := [some (2, 547), some (0, m), some (0, c), some (0, i), some (0, 1), some (0, 1), some (0, r.1), some (0, r.2), some (0, 0), some (0, 1), some (0, 0), some (0, 1), some (0, 1), some (0, 0), none]) rfl rfl rfl rfl ?_
          have hv : s10 554 c = ((mem1 (Z 0) m.toNat (Z 1) 0) 0 c) := (r1.2.1 c (by omega) (by omega)).trans (yne (by omega) rfl).symm
          refine y_iload rfl rfl ?_
          refine y_ifeq rfl (fun q194 => ?_) (fun q194 => ?_)
          · exfalso; omega
          · skip
            refine y_aload rfl rfl rfl ?_
            refine y_gfr (t := 554) rfl rfl (by decide) rfl (by decide) ?_
            refine y_iload rfl rfl ?_
            refine y_iald (v := (s10 554 c)) (n := 9) rfl rfl (by decide) rfl (by omega) (yne (by omega) rfl) ?_
            refine y_iload rfl rfl ?_
            refine y_icle rfl (fun q205 => ?_) (fun q205 => ?_)
            · skip
              refine y_iload rfl rfl ?_
              refine y_istore (L' := [some (2, 547), some (0, m), some (0, c), some (0, i), some (0, 1), some (0, 1), some (0, r.1), some (0, r.2), some (0, 0), some (0, 1), some (0, 0), some (0, 1), some (0, 1), some (0, 0), none]) rfl rfl rfl rfl ?_
              refine y_iload rfl rfl ?_
              refine y_ifeq rfl (fun q219 => ?_) (fun q219 => ?_)
              · exfalso; omega
              · skip
                refine y_aload rfl rfl rfl ?_
                refine y_gfr (t := 554) rfl rfl (by decide) rfl (by decide) ?_
                refine y_iload rfl rfl ?_
                refine y_iald (v := (s10 554 c)) (n := 9) rfl rfl (by decide) rfl (by omega) (yne (by omega) rfl) ?_
                refine y_iload rfl rfl ?_
                refine y_icle rfl (fun q230 => ?_) (fun q230 => ?_)
                · skip
                  refine y_iload rfl rfl ?_
                  refine y_istore (L' := [some (2, 547), some (0, m), some (0, c), some (0, i), some (0, 1), some (0, 1), some (0, r.1), some (0, r.2), some (0, 0), some (0, 1), some (0, 0), some (0, 1), some (0, 1), some (0, 0), none]) rfl rfl rfl rfl ?_
                  refine y_iinc (L' := [some (2, 547), some (0, m), some (0, c), some (0, i), some (0, 1), some (0, 1), some (0, r.1), some (0, r.2), some (0, 1), some (0, 1), some (0, 0), some (0, 1), some (0, 1), some (0, 0), none]) rfl rfl rfl rfl rfl (by decide) ?_
                  refine y_goto rfl ?_
                  refine y_forget (M := [some (2, 547), some (0, m), some (0, c), some (0, i), some (0, 1), some (0, 1), some (0, r.1), some (0, r.2), some (0, 1), none, none, none, none, none, none]) ⟨Or.inr rfl, ⟨Or.inr rfl, ⟨Or.inr rfl, ⟨Or.inr rfl, ⟨Or.inr rfl, ⟨Or.inr rfl, ⟨Or.inr rfl, ⟨Or.inr rfl, ⟨Or.inr rfl, ⟨Or.inl rfl, ⟨Or.inl rfl, ⟨Or.inl rfl, ⟨Or.inl rfl, ⟨Or.inl rfl, ⟨Or.inl rfl, trivial⟩⟩⟩⟩⟩⟩⟩⟩⟩⟩⟩⟩⟩⟩⟩ ?_
                  have e := hk _ (mfs_s (k := 558) (j := 0) (v := 1) f1 (by omega))
                  rw [show mbx r ((mem1 (Z 0) m.toNat (Z 1) 0) 0 c) 0 = r from if_neg (by first | omega | (rw [← hv]; omega))] at e
                  exact e
                · exfalso; omega
            · skip
              refine y_iload rfl rfl ?_
              refine y_goto rfl ?_
              refine y_istore (L' := [some (2, 547), some (0, m), some (0, c), some (0, i), some (0, 1), some (0, 1), some (0, r.1), some (0, 0), some (0, 0), some (0, 1), some (0, 0), some (0, 1), some (0, 1), some (0, 0), none]) rfl rfl rfl rfl ?_
              refine y_iload rfl rfl ?_
              refine y_ifeq rfl (fun q219 => ?_) (fun q219 => ?_)
              · exfalso; omega
              · skip
                refine y_aload rfl rfl rfl ?_
                refine y_gfr (t := 554) rfl rfl (by decide) rfl (by decide) ?_
                refine y_iload rfl rfl ?_
                refine y_iald (v := (s10 554 c)) (n := 9) rfl rfl (by decide) rfl (by omega) (yne (by omega) rfl) ?_
                refine y_iload rfl rfl ?_
                refine y_icle rfl (fun q230 => ?_) (fun q230 => ?_)
                · exfalso; omega
                · skip
                  refine y_aload rfl rfl rfl ?_
                  refine y_gfr (t := 554) rfl rfl (by decide) rfl (by decide) ?_
                  refine y_iload rfl rfl ?_
                  refine y_iald (v := (s10 554 c)) (n := 9) rfl rfl (by decide) rfl (by omega) (yne (by omega) rfl) ?_
                  refine y_goto rfl ?_
                  refine y_istore (L' := [some (2, 547), some (0, m), some (0, c), some (0, i), some (0, 1), some (0, 1), some (0, (s10 554 c)), some (0, 0), some (0, 0), some (0, 1), some (0, 0), some (0, 1), some (0, 1), some (0, 0), none]) rfl rfl rfl rfl ?_
                  refine y_iinc (L' := [some (2, 547), some (0, m), some (0, c), some (0, i), some (0, 1), some (0, 1), some (0, (s10 554 c)), some (0, 0), some (0, 1), some (0, 1), some (0, 0), some (0, 1), some (0, 1), some (0, 0), none]) rfl rfl rfl rfl rfl (by decide) ?_
                  refine y_goto rfl ?_
                  refine y_forget (M := [some (2, 547), some (0, m), some (0, c), some (0, i), some (0, 1), some (0, 1), some (0, (s10 554 c)), some (0, 0), some (0, 1), none, none, none, none, none, none]) ⟨Or.inr rfl, ⟨Or.inr rfl, ⟨Or.inr rfl, ⟨Or.inr rfl, ⟨Or.inr rfl, ⟨Or.inr rfl, ⟨Or.inr rfl, ⟨Or.inr rfl, ⟨Or.inr rfl, ⟨Or.inl rfl, ⟨Or.inl rfl, ⟨Or.inl rfl, ⟨Or.inl rfl, ⟨Or.inl rfl, ⟨Or.inl rfl, trivial⟩⟩⟩⟩⟩⟩⟩⟩⟩⟩⟩⟩⟩⟩⟩ ?_
                  have e := hk _ (mfs_s (k := 558) (j := 0) (v := 1) f1 (by omega))
                  rw [show mbx r ((mem1 (Z 0) m.toNat (Z 1) 0) 0 c) 0 = ((s10 554 c), 0) from (if_pos (by first | omega | (rw [← hv]; omega))).trans (by rw [hv])] at e
                  exact e
      · exfalso; omega
theorem lm_fE1 {g : Launch × XG × va_G} {σ : YS} {τ : YS} {Z : YZ} {I : Int → YZ} {M : YS} {N : Int} {m c i : Int} {r : Int × Int} {P0 : Int → YS → Prop}  (hx : mW σ Z I M) (hg : wG Z I M N) (hN : N < 100000) (hm : (0 ≤ m ∧ m ≤ 60) ∧ (0 ≤ c ∧ c < Z 0 0 0) ∧ -1 ≤ i) (hr : 0 ≤ r.2) (hk : ∀ b, b = ransw 1 r i → P0 b τ) : YW g 93 82 [some (2, 547), some (0, m), some (0, c), some (0, i), some (0, 1), some (0, 1), some (0, r.1), some (0, r.2), some (0, 1), none, none, none, none, none, none] [] τ (fun rv σ' => ∃ b, rv = some (0, b) ∧ (P0 b σ')) := by
  refine y_iload rfl rfl ?_
  refine y_iload rfl rfl ?_
  refine y_icge rfl (fun q86 => ?_) (fun q86 => ?_)
  · skip
    refine y_push rfl ?_
    refine y_istore (L' := [some (2, 547), some (0, m), some (0, c), some (0, i), some (0, 1), some (0, 1), some (0, r.1), some (0, r.2), some (0, 1), none, none, none, none, none, none]) rfl rfl rfl rfl ?_
    refine y_iload rfl rfl ?_
    refine y_push rfl ?_
    refine y_isub (v := 0) rfl rfl (by decide) ?_
    refine y_istore (L' := [some (2, 547), some (0, m), some (0, c), some (0, i), some (0, 1), some (0, 1), some (0, r.1), some (0, r.2), some (0, 1), some (0, 0), none, none, none, none, none]) rfl rfl rfl rfl ?_
    refine y_iload rfl rfl ?_
    refine y_iload rfl rfl ?_
    refine y_icle rfl (fun q264 => ?_) (fun q264 => ?_)
    · skip
      refine y_iload rfl rfl ?_
      refine y_push rfl ?_
      refine y_icne rfl (fun q282 => ?_) (fun q282 => ?_)
      · skip
        refine y_iload rfl rfl ?_
        refine y_iload rfl rfl ?_
        refine y_icge rfl (fun q293 => ?_) (fun q293 => ?_)
        · skip
          refine y_push rfl ?_
          refine y_iret rfl rfl ⟨_, rfl, ?_⟩
          exact hk _ (by unfold ransw; (repeat' split) <;> omega)
        · skip
          refine y_iload rfl rfl ?_
          refine y_iload rfl rfl ?_
          refine y_idiv (v := (r.2 / 1)) rfl rfl (by omega) ?_
          refine y_iload rfl rfl ?_
          refine y_irem (v := ((r.2 / 1) % 1)) rfl rfl (by omega) ?_
          refine y_goto rfl ?_
          refine y_iret rfl rfl ⟨_, rfl, ?_⟩
          exact hk _ (by unfold ransw; (repeat' split) <;> omega)
      · skip
        refine y_iload rfl rfl ?_
        refine y_goto rfl ?_
        refine y_iret rfl rfl ⟨_, rfl, ?_⟩
        exact hk _ (by unfold ransw; (repeat' split) <;> omega)
    · skip
      refine y_iload rfl rfl ?_
      refine y_iload rfl rfl ?_
      refine y_imul (v := 1) rfl rfl (by decide) ?_
      refine y_istore (L' := [some (2, 547), some (0, m), some (0, c), some (0, i), some (0, 1), some (0, 1), some (0, r.1), some (0, r.2), some (0, 1), some (0, 0), none, none, none, none, none]) rfl rfl rfl rfl ?_
      refine y_iinc (L' := [some (2, 547), some (0, m), some (0, c), some (0, i), some (0, 1), some (0, 1), some (0, r.1), some (0, r.2), some (0, 1), some (0, (-1)), none, none, none, none, none]) rfl rfl rfl rfl rfl (by decide) ?_
      refine y_goto rfl ?_
      refine y_iload rfl rfl ?_
      refine y_iload rfl rfl ?_
      refine y_icle rfl (fun q264 => ?_) (fun q264 => ?_)
      · skip
        refine y_iload rfl rfl ?_
        refine y_push rfl ?_
        refine y_icne rfl (fun q282 => ?_) (fun q282 => ?_)
        · skip
          refine y_iload rfl rfl ?_
          refine y_iload rfl rfl ?_
          refine y_icge rfl (fun q293 => ?_) (fun q293 => ?_)
          · skip
            refine y_push rfl ?_
            refine y_iret rfl rfl ⟨_, rfl, ?_⟩
            exact hk _ (by unfold ransw; (repeat' split) <;> omega)
          · skip
            refine y_iload rfl rfl ?_
            refine y_iload rfl rfl ?_
            refine y_idiv (v := (r.2 / 1)) rfl rfl (by omega) ?_
            refine y_iload rfl rfl ?_
            refine y_irem (v := ((r.2 / 1) % 1)) rfl rfl (by omega) ?_
            refine y_goto rfl ?_
            refine y_iret rfl rfl ⟨_, rfl, ?_⟩
            exact hk _ (by unfold ransw; (repeat' split) <;> omega)
        · skip
          refine y_iload rfl rfl ?_
          refine y_goto rfl ?_
          refine y_iret rfl rfl ⟨_, rfl, ?_⟩
          exact hk _ (by unfold ransw; (repeat' split) <;> omega)
      · exfalso; omega
  · exfalso; omega
theorem lm_fA1 {g : Launch × XG × va_G} {σ : YS} {τ : YS} {Z : YZ} {I : Int → YZ} {M : YS} {N : Int} {m c i : Int} {P0 : Int → YS → Prop} (hx : mW σ Z I M) (hg : wG Z I M N) (hN : N < 100000) (hm : (0 ≤ m ∧ m ≤ 60) ∧ (0 ≤ c ∧ c < Z 0 0 0) ∧ -1 ≤ i) (hw : Z 0 1 0 = 1) (h1 : mfs σ τ) (hk : ∀ b s, mfs σ s → b = ransw 1 (mfold (fun l => mch (Z 0) m.toNat (Z 1) l 0 c) (mlist 1) (-1, 0)) i → P0 b s) : YW g 93 82 [some (2, 547), some (0, m), some (0, c), some (0, i), some (0, 1), some (0, 1), some (0, (-1)), some (0, 0), some (0, 0), none, none, none, none, none, none] [] τ (fun rv σ' => ∃ b, rv = some (0, b) ∧ (P0 b σ')) := by
  refine lm_f1_0 (r := ((-1, 0) : Int × Int)) hx hg hN hm hw h1 (fun s0 f0 => ?_)
  exact lm_fE1 (r := (mbx ((-1, 0) : Int × Int) ((mem1 (Z 0) m.toNat (Z 1) 0) 0 c) 0)) hx hg hN hm (mbx_0 (by decide) (by decide)) (fun b hb => hk b _ f0 hb)
theorem lm_f2_0 {g : Launch × XG × va_G} {σ : YS} {τ : YS} {Z : YZ} {I : Int → YZ} {M : YS} {N : Int} {m c i : Int} {r : Int × Int} {P0 : Int → YS → Prop}  (hx : mW σ Z I M) (hg : wG Z I M N) (hN : N < 100000) (hm : (0 ≤ m ∧ m ≤ 60) ∧ (0 ≤ c ∧ c < Z 0 0 0) ∧ -1 ≤ i) (hw : Z 0 1 0 = 2) (h1 : mfs σ τ) (hk : ∀ s, mfs σ s → YW g 93 82 [some (2, 547), some (0, m), some (0, c), some (0, i), some (0, 2), some (0, 4), some (0, r.1), some (0, r.2), some (0, 1), none, none, none, none, none, none] [] s (fun rv σ' => ∃ b, rv = some (0, b) ∧ (P0 b σ'))) : YW g 93 82 [some (2, 547), some (0, m), some (0, c), some (0, i), some (0, 2), some (0, 4), some (0, r.1), some (0, r.2), some (0, 0), none, none, none, none, none, none] [] τ (fun rv σ' => ∃ b, rv = some (0, b) ∧ (P0 b σ')) := by
  have e1 := hg.1.1.1
  have hn5 := hg.1.2.2.1
  refine y_iload rfl rfl ?_
  refine y_iload rfl rfl ?_
  refine y_icge rfl (fun q86 => ?_) (fun q86 => ?_)
  · exfalso; omega
  · skip
    refine y_aload rfl rfl rfl ?_
    refine y_vu (as := [(2, 547)]) (S := []) rfl rfl rfl rfl rfl rfl (by decide) rfl (m_layNow (mzs_cong hg.1.1 hx.1.1 (fun y a b => h1 548 y (by omega))) hg.1.1 hg.1.2.1 hg.1.2.2.2.2.1.1) ?_
    rintro s1 ⟨l1, l2⟩
    refine y_push rfl ?_
    refine y_istore (L' := [some (2, 547), some (0, m), some (0, c), some (0, i), some (0, 2), some (0, 4), some (0, r.1), some (0, r.2), some (0, 0), some (0, 0), none, none, none, none, none]) rfl rfl rfl rfl ?_
    refine y_iload rfl rfl ?_
    refine y_istore (L' := [some (2, 547), some (0, m), some (0, c), some (0, i), some (0, 2), some (0, 4), some (0, r.1), some (0, r.2), some (0, 0), some (0, 0), some (0, 0), none, none, none, none]) rfl rfl rfl rfl ?_
    refine y_iload rfl rfl ?_
    refine y_istore (L' := [some (2, 547), some (0, m), some (0, c), some (0, i), some (0, 2), some (0, 4), some (0, r.1), some (0, r.2), some (0, 0), some (0, 0), some (0, 0), some (0, 4), none, none, none]) rfl rfl rfl rfl ?_
    refine y_push rfl ?_
    refine y_istore (L' := [some (2, 547), some (0, m), some (0, c), some (0, i), some (0, 2), some (0, 4), some (0, r.1), some (0, r.2), some (0, 0), some (0, 0), some (0, 0), some (0, 4), some (0, 0), none, none]) rfl rfl rfl rfl ?_
    refine y_iload rfl rfl ?_
    refine y_iload rfl rfl ?_
    refine y_icge rfl (fun q111 => ?_) (fun q111 => ?_)
    · exfalso; omega
    · skip
      refine y_iload rfl rfl ?_
      refine y_iload rfl rfl ?_
      refine y_idiv (v := 2) rfl rfl (by omega) ?_
      refine y_istore (L' := [some (2, 547), some (0, m), some (0, c), some (0, i), some (0, 2), some (0, 4), some (0, r.1), some (0, r.2), some (0, 0), some (0, 0), some (0, 0), some (0, 2), some (0, 0), none, none]) rfl rfl rfl rfl ?_
      refine y_iload rfl rfl ?_
      refine y_iload rfl rfl ?_
      refine y_idiv (v := 0) rfl rfl (by omega) ?_
      refine y_iload rfl rfl ?_
      refine y_irem (v := 0) rfl rfl (by omega) ?_
      refine y_istore (L' := [some (2, 547), some (0, m), some (0, c), some (0, i), some (0, 2), some (0, 4), some (0, r.1), some (0, r.2), some (0, 0), some (0, 0), some (0, 0), some (0, 2), some (0, 0), some (0, 0), none]) rfl rfl rfl rfl ?_
      refine y_iload rfl rfl ?_
      refine y_push rfl ?_
      refine y_iload rfl rfl ?_
      refine y_ishl (v := 1) rfl rfl ?_
      refine y_ior (v := 1) rfl rfl ?_
      refine y_istore (L' := [some (2, 547), some (0, m), some (0, c), some (0, i), some (0, 2), some (0, 4), some (0, r.1), some (0, r.2), some (0, 0), some (0, 1), some (0, 0), some (0, 2), some (0, 0), some (0, 0), none]) rfl rfl rfl rfl ?_
      refine y_push rfl ?_
      refine y_istore (L' := [some (2, 547), some (0, m), some (0, c), some (0, i), some (0, 2), some (0, 4), some (0, r.1), some (0, r.2), some (0, 0), some (0, 1), some (0, 0), some (0, 2), some (0, 0), some (0, 0), some (0, 0)]) rfl rfl rfl rfl ?_
      refine lm_fT (C := (Z 1)) hx hg hN hm hg.1.2.1 (by omega) (fun s10 f1 r1 => ?_) 62 s1 0 (by omega) (by omega) (mfs_t h1 l2) l1
      refine y_aload rfl rfl rfl ?_
      refine y_gfr (t := 558) rfl rfl (by decide) rfl (by decide) ?_
      refine y_iload rfl rfl ?_
      refine y_push rfl ?_
      refine y_iast (n := 3) rfl rfl (by decide) rfl (by decide) ?_
      refine y_iinc (L' := [some (2, 547), some (0, m), some (0, c), some (0, i), some (0, 2), some (0, 4), some (0, r.1), some (0, r.2), some (0, 0), some (0, 1), some (0, 0), some (0, 2), some (0, 1), some (0, 0), none]) rfl rfl rfl rfl rfl (by decide) ?_
      refine y_goto rfl ?_
      refine y_iload rfl rfl ?_
      refine y_iload rfl rfl ?_
      refine y_icge rfl (fun q111 => ?_) (fun q111 => ?_)
      · exfalso; omega
      · skip
        refine y_iload rfl rfl ?_
        refine y_iload rfl rfl ?_
        refine y_idiv (v := 1) rfl rfl (by omega) ?_
        refine y_istore (L' := [some (2, 547), some (0, m), some (0, c), some (0, i), some (0, 2), some (0, 4), some (0, r.1), some (0, r.2), some (0, 0), some (0, 1), some (0, 0), some (0, 1), some (0, 1), some (0, 0), none]) rfl rfl rfl rfl ?_
        refine y_iload rfl rfl ?_
        refine y_iload rfl rfl ?_
        refine y_idiv (v := 0) rfl rfl (by omega) ?_
        refine y_iload rfl rfl ?_
        refine y_irem (v := 0) rfl rfl (by omega) ?_
        refine y_istore (L' := [some (2, 547), some (0, m), some (0, c), some (0, i), some (0, 2), some (0, 4), some (0, r.1), some (0, r.2), some (0, 0), some (0, 1), some (0, 0), some (0, 1), some (0, 1), some (0, 0), none]) rfl rfl rfl rfl ?_
        refine y_iload rfl rfl ?_
        refine y_push rfl ?_
        refine y_iload rfl rfl ?_
        refine y_ishl (v := 1) rfl rfl ?_
        refine y_ior (v := 1) rfl rfl ?_
        refine y_istore (L' := [some (2, 547), some (0, m), some (0, c), some (0, i), some (0, 2), some (0, 4), some (0, r.1), some (0, r.2), some (0, 0), some (0, 1), some (0, 0), some (0, 1), some (0, 1), some (0, 0), none]) rfl rfl rfl rfl ?_
        refine y_push rfl ?_
        refine y_istore (L' := [some (2, 547), some (0, m), some (0, c), some (0, i), some (0, 2), some (0, 4), some (0, r.1), some (0, r.2), some (0, 0), some (0, 1), some (0, 0), some (0, 1), some (0, 1), some (0, 0), some (0, 0)]) rfl rfl rfl rfl ?_
        have d1 : dG (Z 0) (mem1 (Z 0) m.toNat (Z 1) 0) := dG_mem1 hg.1.1 hg.1.2.1 (by omega)
        have v1 : (mem1 (Z 0) m.toNat (Z 1) 0) 5 0 = (Z 1) 5 0 + m.toNat := mem1_5
        refine lm_fT (C := (mem1 (Z 0) m.toNat (Z 1) 0)) hx hg hN hm d1 (by omega) (fun s11 f2 r2 => ?_) 62 (yset s10 558 0 1) 0 (by omega) (by omega) (mfs_s (k := 558) (j := 0) (v := 1) f1 (by omega)) (rm_m r1 (by omega) (by omega))
        refine y_aload rfl rfl rfl ?_
        refine y_gfr (t := 558) rfl rfl (by decide) rfl (by decide) ?_
        refine y_iload rfl rfl ?_
        refine y_push rfl ?_
        refine y_iast (n := 3) rfl rfl (by decide) rfl (by decide) ?_
        refine y_iinc (L' := [some (2, 547), some (0, m), some (0, c), some (0, i), some (0, 2), some (0, 4), some (0, r.1), some (0, r.2), some (0, 0), some (0, 1), some (0, 0), some (0, 1), some (0, 2), some (0, 0), none]) rfl rfl rfl rfl rfl (by decide) ?_
        refine y_goto rfl ?_
        refine y_iload rfl rfl ?_
        refine y_iload rfl rfl ?_
        refine y_icge rfl (fun q111 => ?_) (fun q111 => ?_)
        · skip
          refine y_iload rfl rfl ?_
          refine y_push rfl ?_
          refine y_iload rfl rfl ?_
          refine y_ishl (v := 4) rfl rfl ?_
          refine y_push rfl ?_
          refine y_isub (v := 3) rfl rfl (by decide) ?_
          refine y_icne rfl (fun q182 => ?_) (fun q182 => ?_)
          · skip
            refine y_push rfl ?_
            refine y_istore (L' := [some (2, 547), some (0, m), some (0, c), some (0, i), some (0, 2), some (0, 4), some (0, r.1), some (0, r.2), some (0, 0), some (0, 1), some (0, 0), some (0, 1), some (0, 0), some (0, 0), none]) rfl rfl rfl rfl ?_
            refine y_iload rfl rfl ?_
            refine y_ifeq rfl (fun q194 => ?_) (fun q194 => ?_)
            · skip
              refine y_iload rfl rfl ?_
              refine y_istore (L' := [some (2, 547), some (0, m), some (0, c), some (0, i), some (0, 2), some (0, 4), some (0, r.1), some (0, r.2), some (0, 0), some (0, 1), some (0, 0), some (0, 1), some (0, 0), some (0, 0), none]) rfl rfl rfl rfl ?_
              refine y_iload rfl rfl ?_
              refine y_ifeq rfl (fun q219 => ?_) (fun q219 => ?_)
              · skip
                refine y_iload rfl rfl ?_
                refine y_istore (L' := [some (2, 547), some (0, m), some (0, c), some (0, i), some (0, 2), some (0, 4), some (0, r.1), some (0, r.2), some (0, 0), some (0, 1), some (0, 0), some (0, 1), some (0, 0), some (0, 0), none]) rfl rfl rfl rfl ?_
                refine y_iinc (L' := [some (2, 547), some (0, m), some (0, c), some (0, i), some (0, 2), some (0, 4), some (0, r.1), some (0, r.2), some (0, 1), some (0, 1), some (0, 0), some (0, 1), some (0, 0), some (0, 0), none]) rfl rfl rfl rfl rfl (by decide) ?_
                refine y_goto rfl ?_
                refine y_forget (M := [some (2, 547), some (0, m), some (0, c), some (0, i), some (0, 2), some (0, 4), some (0, r.1), some (0, r.2), some (0, 1), none, none, none, none, none, none]) ⟨Or.inr rfl, ⟨Or.inr rfl, ⟨Or.inr rfl, ⟨Or.inr rfl, ⟨Or.inr rfl, ⟨Or.inr rfl, ⟨Or.inr rfl, ⟨Or.inr rfl, ⟨Or.inr rfl, ⟨Or.inl rfl, ⟨Or.inl rfl, ⟨Or.inl rfl, ⟨Or.inl rfl, ⟨Or.inl rfl, ⟨Or.inl rfl, trivial⟩⟩⟩⟩⟩⟩⟩⟩⟩⟩⟩⟩⟩⟩⟩ ?_
                exact hk _ (mfs_s (k := 558) (j := 0) (v := 1) f2 (by omega))
              · exfalso; omega
            · exfalso; omega
          · exfalso; omega
        · exfalso; omega
theorem lm_f2_1 {g : Launch × XG × va_G} {σ : YS} {τ : YS} {Z : YZ} {I : Int → YZ} {M : YS} {N : Int} {m c i : Int} {r : Int × Int} {P0 : Int → YS → Prop}  (hx : mW σ Z I M) (hg : wG Z I M N) (hN : N < 100000) (hm : (0 ≤ m ∧ m ≤ 60) ∧ (0 ≤ c ∧ c < Z 0 0 0) ∧ -1 ≤ i) (hw : Z 0 1 0 = 2) (h1 : mfs σ τ) (hk : ∀ s, mfs σ s → YW g 93 82 [some (2, 547), some (0, m), some (0, c), some (0, i), some (0, 2), some (0, 4), some (0, (mbx r ((mem1 (Z 0) m.toNat (mem1 (Z 0) m.toNat (Z 1) 0) 1) 0 c) 1).1), some (0, (mbx r ((mem1 (Z 0) m.toNat (mem1 (Z 0) m.toNat (Z 1) 0) 1) 0 c) 1).2), some (0, 2), none, none, none, none, none, none] [] s (fun rv σ' => ∃ b, rv = some (0, b) ∧ (P0 b σ'))) : YW g 93 82 [some (2, 547), some (0, m), some (0, c), some (0, i), some (0, 2), some (0, 4), some (0, r.1), some (0, r.2), some (0, 1), none, none, none, none, none, none] [] τ (fun rv σ' => ∃ b, rv = some (0, b) ∧ (P0 b σ')) := by
  have e1 := hg.1.1.1
  have hn5 := hg.1.2.2.1
  refine y_iload rfl rfl ?_
  refine y_iload rfl rfl ?_
  refine y_icge rfl (fun q86 => ?_) (fun q86 => ?_)
  · exfalso; omega
  · skip
    refine y_aload rfl rfl rfl ?_
    refine y_vu (as := [(2, 547)]) (S := []) rfl rfl rfl rfl rfl rfl (by decide) rfl (m_layNow (mzs_cong hg.1.1 hx.1.1 (fun y a b => h1 548 y (by omega))) hg.1.1 hg.1.2.1 hg.1.2.2.2.2.1.1) ?_
    rintro s1 ⟨l1, l2⟩
    refine y_push rfl ?_
    refine y_istore (L' := [some (2, 547), some (0, m), some (0, c), some (0, i), some (0, 2), some (0, 4), some (0, r.1), some (0, r.2), some (0, 1), some (0, 0), none, none, none, none, none]) rfl rfl rfl rfl ?_
    refine y_iload rfl rfl ?_
    refine y_istore (L' := [some (2, 547), some (0, m), some (0, c), some (0, i), some (0, 2), some (0, 4), some (0, r.1), some (0, r.2), some (0, 1), some (0, 0), some (0, 1), none, none, none, none]) rfl rfl rfl rfl ?_
    refine y_iload rfl rfl ?_
    refine y_istore (L' := [some (2, 547), some (0, m), some (0, c), some (0, i), some (0, 2), some (0, 4), some (0, r.1), some (0, r.2), some (0, 1), some (0, 0), some (0, 1), some (0, 4), none, none, none]) rfl rfl rfl rfl ?_
    refine y_push rfl ?_
    refine y_istore (L' := [some (2, 547), some (0, m), some (0, c), some (0, i), some (0, 2), some (0, 4), some (0, r.1), some (0, r.2), some (0, 1), some (0, 0), some (0, 1), some (0, 4), some (0, 0), none, none]) rfl rfl rfl rfl ?_
    refine y_iload rfl rfl ?_
    refine y_iload rfl rfl ?_
    refine y_icge rfl (fun q111 => ?_) (fun q111 => ?_)
    · exfalso; omega
    · skip
      refine y_iload rfl rfl ?_
      refine y_iload rfl rfl ?_
      refine y_idiv (v := 2) rfl rfl (by omega) ?_
      refine y_istore (L' := [some (2, 547), some (0, m), some (0, c), some (0, i), some (0, 2), some (0, 4), some (0, r.1), some (0, r.2), some (0, 1), some (0, 0), some (0, 1), some (0, 2), some (0, 0), none, none]) rfl rfl rfl rfl ?_
      refine y_iload rfl rfl ?_
      refine y_iload rfl rfl ?_
      refine y_idiv (v := 0) rfl rfl (by omega) ?_
      refine y_iload rfl rfl ?_
      refine y_irem (v := 0) rfl rfl (by omega) ?_
      refine y_istore (L' := [some (2, 547), some (0, m), some (0, c), some (0, i), some (0, 2), some (0, 4), some (0, r.1), some (0, r.2), some (0, 1), some (0, 0), some (0, 1), some (0, 2), some (0, 0), some (0, 0), none]) rfl rfl rfl rfl ?_
      refine y_iload rfl rfl ?_
      refine y_push rfl ?_
      refine y_iload rfl rfl ?_
      refine y_ishl (v := 1) rfl rfl ?_
      refine y_ior (v := 1) rfl rfl ?_
      refine y_istore (L' := [some (2, 547), some (0, m), some (0, c), some (0, i), some (0, 2), some (0, 4), some (0, r.1), some (0, r.2), some (0, 1), some (0, 1), some (0, 1), some (0, 2), some (0, 0), some (0, 0), none]) rfl rfl rfl rfl ?_
      refine y_push rfl ?_
      refine y_istore (L' := [some (2, 547), some (0, m), some (0, c), some (0, i), some (0, 2), some (0, 4), some (0, r.1), some (0, r.2), some (0, 1), some (0, 1), some (0, 1), some (0, 2), some (0, 0), some (0, 0), some (0, 0)]) rfl rfl rfl rfl ?_
      refine lm_fT (C := (Z 1)) hx hg hN hm hg.1.2.1 (by omega) (fun s10 f1 r1 => ?_) 62 s1 0 (by omega) (by omega) (mfs_t h1 l2) l1
      refine y_aload rfl rfl rfl ?_
      refine y_gfr (t := 558) rfl rfl (by decide) rfl (by decide) ?_
      refine y_iload rfl rfl ?_
      refine y_push rfl ?_
      refine y_iast (n := 3) rfl rfl (by decide) rfl (by decide) ?_
      refine y_iinc (L' := [some (2, 547), some (0, m), some (0, c), some (0, i), some (0, 2), some (0, 4), some (0, r.1), some (0, r.2), some (0, 1), some (0, 1), some (0, 1), some (0, 2), some (0, 1), some (0, 0), none]) rfl rfl rfl rfl rfl (by decide) ?_
      refine y_goto rfl ?_
      refine y_iload rfl rfl ?_
      refine y_iload rfl rfl ?_
      refine y_icge rfl (fun q111 => ?_) (fun q111 => ?_)
      · exfalso; omega
      · skip
        refine y_iload rfl rfl ?_
        refine y_iload rfl rfl ?_
        refine y_idiv (v := 1) rfl rfl (by omega) ?_
        refine y_istore (L' := [some (2, 547), some (0, m), some (0, c), some (0, i), some (0, 2), some (0, 4), some (0, r.1), some (0, r.2), some (0, 1), some (0, 1), some (0, 1), some (0, 1), some (0, 1), some (0, 0), none]) rfl rfl rfl rfl ?_
        refine y_iload rfl rfl ?_
        refine y_iload rfl rfl ?_
        refine y_idiv (v := 1) rfl rfl (by omega) ?_
        refine y_iload rfl rfl ?_
        refine y_irem (v := 1) rfl rfl (by omega) ?_
        refine y_istore (L' := [some (2, 547), some (0, m), some (0, c), some (0, i), some (0, 2), some (0, 4), some (0, r.1), some (0, r.2), some (0, 1), some (0, 1), some (0, 1), some (0, 1), some (0, 1), some (0, 1), none]) rfl rfl rfl rfl ?_
        refine y_iload rfl rfl ?_
        refine y_push rfl ?_
        refine y_iload rfl rfl ?_
        refine y_ishl (v := 2) rfl rfl ?_
        refine y_ior (v := 3) rfl rfl ?_
        refine y_istore (L' := [some (2, 547), some (0, m), some (0, c), some (0, i), some (0, 2), some (0, 4), some (0, r.1), some (0, r.2), some (0, 1), some (0, 3), some (0, 1), some (0, 1), some (0, 1), some (0, 1), none]) rfl rfl rfl rfl ?_
        refine y_push rfl ?_
        refine y_istore (L' := [some (2, 547), some (0, m), some (0, c), some (0, i), some (0, 2), some (0, 4), some (0, r.1), some (0, r.2), some (0, 1), some (0, 3), some (0, 1), some (0, 1), some (0, 1), some (0, 1), some (0, 0)]) rfl rfl rfl rfl ?_
        have d1 : dG (Z 0) (mem1 (Z 0) m.toNat (Z 1) 0) := dG_mem1 hg.1.1 hg.1.2.1 (by omega)
        have v1 : (mem1 (Z 0) m.toNat (Z 1) 0) 5 0 = (Z 1) 5 0 + m.toNat := mem1_5
        refine lm_fT (C := (mem1 (Z 0) m.toNat (Z 1) 0)) hx hg hN hm d1 (by omega) (fun s11 f2 r2 => ?_) 62 (yset s10 558 0 1) 0 (by omega) (by omega) (mfs_s (k := 558) (j := 0) (v := 1) f1 (by omega)) (rm_m r1 (by omega) (by omega))
        refine y_aload rfl rfl rfl ?_
        refine y_gfr (t := 558) rfl rfl (by decide) rfl (by decide) ?_
        refine y_iload rfl rfl ?_
        refine y_push rfl ?_
        refine y_iast (n := 3) rfl rfl (by decide) rfl (by decide) ?_
        refine y_iinc (L' := [some (2, 547), some (0, m), some (0, c), some (0, i), some (0, 2), some (0, 4), some (0, r.1), some (0, r.2), some (0, 1), some (0, 3), some (0, 1), some (0, 1), some (0, 2), some (0, 1), none]) rfl rfl rfl rfl rfl (by decide) ?_
        refine y_goto rfl ?_
        refine y_iload rfl rfl ?_
        refine y_iload rfl rfl ?_
        refine y_icge rfl (fun q111 => ?_) (fun q111 => ?_)
        · skip
          refine y_iload rfl rfl ?_
          refine y_push rfl ?_
          refine y_iload rfl rfl ?_
          refine y_ishl (v := 4) rfl rfl ?_
          refine y_push rfl ?_
          refine y_isub (v := 3) rfl rfl (by decide) ?_
          refine y_icne rfl (fun q182 => ?_) (fun q182 => ?_)
          · exfalso; omega
          · skip
            refine y_push rfl ?_
            refine y_goto rfl ?_
            refine y_istore (L' := [some (2, 547), some (0, m), some (0, c), some (0, i), some (0, 2), some (0, 4), some (0, r.1), some (0, r.2), some (0, 1), some (0, 3), some (0, 1), some (0, 1), some (0, 1), some (0, 1), none]) rfl rfl rfl rfl ?_
            have hv : s11 554 c = ((mem1 (Z 0) m.toNat (mem1 (Z 0) m.toNat (Z 1) 0) 1) 0 c) := (r2.2.1 c (by omega) (by omega)).trans (yne (by omega) rfl).symm
            refine y_iload rfl rfl ?_
            refine y_ifeq rfl (fun q194 => ?_) (fun q194 => ?_)
            · exfalso; omega
            · skip
              refine y_aload rfl rfl rfl ?_
              refine y_gfr (t := 554) rfl rfl (by decide) rfl (by decide) ?_
              refine y_iload rfl rfl ?_
              refine y_iald (v := (s11 554 c)) (n := 9) rfl rfl (by decide) rfl (by omega) (yne (by omega) rfl) ?_
              refine y_iload rfl rfl ?_
              refine y_icle rfl (fun q205 => ?_) (fun q205 => ?_)
              · skip
                refine y_iload rfl rfl ?_
                refine y_istore (L' := [some (2, 547), some (0, m), some (0, c), some (0, i), some (0, 2), some (0, 4), some (0, r.1), some (0, r.2), some (0, 1), some (0, 3), some (0, 1), some (0, 1), some (0, 1), some (0, 1), none]) rfl rfl rfl rfl ?_
                refine y_iload rfl rfl ?_
                refine y_ifeq rfl (fun q219 => ?_) (fun q219 => ?_)
                · exfalso; omega
                · skip
                  refine y_aload rfl rfl rfl ?_
                  refine y_gfr (t := 554) rfl rfl (by decide) rfl (by decide) ?_
                  refine y_iload rfl rfl ?_
                  refine y_iald (v := (s11 554 c)) (n := 9) rfl rfl (by decide) rfl (by omega) (yne (by omega) rfl) ?_
                  refine y_iload rfl rfl ?_
                  refine y_icle rfl (fun q230 => ?_) (fun q230 => ?_)
                  · skip
                    refine y_iload rfl rfl ?_
                    refine y_istore (L' := [some (2, 547), some (0, m), some (0, c), some (0, i), some (0, 2), some (0, 4), some (0, r.1), some (0, r.2), some (0, 1), some (0, 3), some (0, 1), some (0, 1), some (0, 1), some (0, 1), none]) rfl rfl rfl rfl ?_
                    refine y_iinc (L' := [some (2, 547), some (0, m), some (0, c), some (0, i), some (0, 2), some (0, 4), some (0, r.1), some (0, r.2), some (0, 2), some (0, 3), some (0, 1), some (0, 1), some (0, 1), some (0, 1), none]) rfl rfl rfl rfl rfl (by decide) ?_
                    refine y_goto rfl ?_
                    refine y_forget (M := [some (2, 547), some (0, m), some (0, c), some (0, i), some (0, 2), some (0, 4), some (0, r.1), some (0, r.2), some (0, 2), none, none, none, none, none, none]) ⟨Or.inr rfl, ⟨Or.inr rfl, ⟨Or.inr rfl, ⟨Or.inr rfl, ⟨Or.inr rfl, ⟨Or.inr rfl, ⟨Or.inr rfl, ⟨Or.inr rfl, ⟨Or.inr rfl, ⟨Or.inl rfl, ⟨Or.inl rfl, ⟨Or.inl rfl, ⟨Or.inl rfl, ⟨Or.inl rfl, ⟨Or.inl rfl, trivial⟩⟩⟩⟩⟩⟩⟩⟩⟩⟩⟩⟩⟩⟩⟩ ?_
                    have e := hk _ (mfs_s (k := 558) (j := 1) (v := 1) f2 (by omega))
                    rw [show mbx r ((mem1 (Z 0) m.toNat (mem1 (Z 0) m.toNat (Z 1) 0) 1) 0 c) 1 = r from if_neg (by first | omega | (rw [← hv]; omega))] at e
                    exact e
                  · exfalso; omega
              · skip
                refine y_iload rfl rfl ?_
                refine y_goto rfl ?_
                refine y_istore (L' := [some (2, 547), some (0, m), some (0, c), some (0, i), some (0, 2), some (0, 4), some (0, r.1), some (0, 1), some (0, 1), some (0, 3), some (0, 1), some (0, 1), some (0, 1), some (0, 1), none]) rfl rfl rfl rfl ?_
                refine y_iload rfl rfl ?_
                refine y_ifeq rfl (fun q219 => ?_) (fun q219 => ?_)
                · exfalso; omega
                · skip
                  refine y_aload rfl rfl rfl ?_
                  refine y_gfr (t := 554) rfl rfl (by decide) rfl (by decide) ?_
                  refine y_iload rfl rfl ?_
                  refine y_iald (v := (s11 554 c)) (n := 9) rfl rfl (by decide) rfl (by omega) (yne (by omega) rfl) ?_
                  refine y_iload rfl rfl ?_
                  refine y_icle rfl (fun q230 => ?_) (fun q230 => ?_)
                  · exfalso; omega
                  · skip
                    refine y_aload rfl rfl rfl ?_
                    refine y_gfr (t := 554) rfl rfl (by decide) rfl (by decide) ?_
                    refine y_iload rfl rfl ?_
                    refine y_iald (v := (s11 554 c)) (n := 9) rfl rfl (by decide) rfl (by omega) (yne (by omega) rfl) ?_
                    refine y_goto rfl ?_
                    refine y_istore (L' := [some (2, 547), some (0, m), some (0, c), some (0, i), some (0, 2), some (0, 4), some (0, (s11 554 c)), some (0, 1), some (0, 1), some (0, 3), some (0, 1), some (0, 1), some (0, 1), some (0, 1), none]) rfl rfl rfl rfl ?_
                    refine y_iinc (L' := [some (2, 547), some (0, m), some (0, c), some (0, i), some (0, 2), some (0, 4), some (0, (s11 554 c)), some (0, 1), some (0, 2), some (0, 3), some (0, 1), some (0, 1), some (0, 1), some (0, 1), none]) rfl rfl rfl rfl rfl (by decide) ?_
                    refine y_goto rfl ?_
                    refine y_forget (M := [some (2, 547), some (0, m), some (0, c), some (0, i), some (0, 2), some (0, 4), some (0, (s11 554 c)), some (0, 1), some (0, 2), none, none, none, none, none, none]) ⟨Or.inr rfl, ⟨Or.inr rfl, ⟨Or.inr rfl, ⟨Or.inr rfl, ⟨Or.inr rfl, ⟨Or.inr rfl, ⟨Or.inr rfl, ⟨Or.inr rfl, ⟨Or.inr rfl, ⟨Or.inl rfl, ⟨Or.inl rfl, ⟨Or.inl rfl, ⟨Or.inl rfl, ⟨Or.inl rfl, ⟨Or.inl rfl, trivial⟩⟩⟩⟩⟩⟩⟩⟩⟩⟩⟩⟩⟩⟩⟩ ?_
                    have e := hk _ (mfs_s (k := 558) (j := 1) (v := 1) f2 (by omega))
                    rw [show mbx r ((mem1 (Z 0) m.toNat (mem1 (Z 0) m.toNat (Z 1) 0) 1) 0 c) 1 = ((s11 554 c), 1) from (if_pos (by first | omega | (rw [← hv]; omega))).trans (by rw [hv])] at e
                    exact e
        · exfalso; omega
theorem lm_f2_2 {g : Launch × XG × va_G} {σ : YS} {τ : YS} {Z : YZ} {I : Int → YZ} {M : YS} {N : Int} {m c i : Int} {r : Int × Int} {P0 : Int → YS → Prop}  (hx : mW σ Z I M) (hg : wG Z I M N) (hN : N < 100000) (hm : (0 ≤ m ∧ m ≤ 60) ∧ (0 ≤ c ∧ c < Z 0 0 0) ∧ -1 ≤ i) (hw : Z 0 1 0 = 2) (h1 : mfs σ τ) (hk : ∀ s, mfs σ s → YW g 93 82 [some (2, 547), some (0, m), some (0, c), some (0, i), some (0, 2), some (0, 4), some (0, (mbx r ((mem1 (Z 0) m.toNat (mem1 (Z 0) m.toNat (Z 1) 1) 0) 0 c) 2).1), some (0, (mbx r ((mem1 (Z 0) m.toNat (mem1 (Z 0) m.toNat (Z 1) 1) 0) 0 c) 2).2), some (0, 3), none, none, none, none, none, none] [] s (fun rv σ' => ∃ b, rv = some (0, b) ∧ (P0 b σ'))) : YW g 93 82 [some (2, 547), some (0, m), some (0, c), some (0, i), some (0, 2), some (0, 4), some (0, r.1), some (0, r.2), some (0, 2), none, none, none, none, none, none] [] τ (fun rv σ' => ∃ b, rv = some (0, b) ∧ (P0 b σ')) := by
  have e1 := hg.1.1.1
  have hn5 := hg.1.2.2.1
  refine y_iload rfl rfl ?_
  refine y_iload rfl rfl ?_
  refine y_icge rfl (fun q86 => ?_) (fun q86 => ?_)
  · exfalso; omega
  · skip
    refine y_aload rfl rfl rfl ?_
    refine y_vu (as := [(2, 547)]) (S := []) rfl rfl rfl rfl rfl rfl (by decide) rfl (m_layNow (mzs_cong hg.1.1 hx.1.1 (fun y a b => h1 548 y (by omega))) hg.1.1 hg.1.2.1 hg.1.2.2.2.2.1.1) ?_
    rintro s1 ⟨l1, l2⟩
    refine y_push rfl ?_
    refine y_istore (L' := [some (2, 547), some (0, m), some (0, c), some (0, i), some (0, 2), some (0, 4), some (0, r.1), some (0, r.2), some (0, 2), some (0, 0), none, none, none, none, none]) rfl rfl rfl rfl ?_
    refine y_iload rfl rfl ?_
    refine y_istore (L' := [some (2, 547), some (0, m), some (0, c), some (0, i), some (0, 2), some (0, 4), some (0, r.1), some (0, r.2), some (0, 2), some (0, 0), some (0, 2), none, none, none, none]) rfl rfl rfl rfl ?_
    refine y_iload rfl rfl ?_
    refine y_istore (L' := [some (2, 547), some (0, m), some (0, c), some (0, i), some (0, 2), some (0, 4), some (0, r.1), some (0, r.2), some (0, 2), some (0, 0), some (0, 2), some (0, 4), none, none, none]) rfl rfl rfl rfl ?_
    refine y_push rfl ?_
    refine y_istore (L' := [some (2, 547), some (0, m), some (0, c), some (0, i), some (0, 2), some (0, 4), some (0, r.1), some (0, r.2), some (0, 2), some (0, 0), some (0, 2), some (0, 4), some (0, 0), none, none]) rfl rfl rfl rfl ?_
    refine y_iload rfl rfl ?_
    refine y_iload rfl rfl ?_
    refine y_icge rfl (fun q111 => ?_) (fun q111 => ?_)
    · exfalso; omega
    · skip
      refine y_iload rfl rfl ?_
      refine y_iload rfl rfl ?_
      refine y_idiv (v := 2) rfl rfl (by omega) ?_
      refine y_istore (L' := [some (2, 547), some (0, m), some (0, c), some (0, i), some (0, 2), some (0, 4), some (0, r.1), some (0, r.2), some (0, 2), some (0, 0), some (0, 2), some (0, 2), some (0, 0), none, none]) rfl rfl rfl rfl ?_
      refine y_iload rfl rfl ?_
      refine y_iload rfl rfl ?_
      refine y_idiv (v := 1) rfl rfl (by omega) ?_
      refine y_iload rfl rfl ?_
      refine y_irem (v := 1) rfl rfl (by omega) ?_
      refine y_istore (L' := [some (2, 547), some (0, m), some (0, c), some (0, i), some (0, 2), some (0, 4), some (0, r.1), some (0, r.2), some (0, 2), some (0, 0), some (0, 2), some (0, 2), some (0, 0), some (0, 1), none]) rfl rfl rfl rfl ?_
      refine y_iload rfl rfl ?_
      refine y_push rfl ?_
      refine y_iload rfl rfl ?_
      refine y_ishl (v := 2) rfl rfl ?_
      refine y_ior (v := 2) rfl rfl ?_
      refine y_istore (L' := [some (2, 547), some (0, m), some (0, c), some (0, i), some (0, 2), some (0, 4), some (0, r.1), some (0, r.2), some (0, 2), some (0, 2), some (0, 2), some (0, 2), some (0, 0), some (0, 1), none]) rfl rfl rfl rfl ?_
      refine y_push rfl ?_
      refine y_istore (L' := [some (2, 547), some (0, m), some (0, c), some (0, i), some (0, 2), some (0, 4), some (0, r.1), some (0, r.2), some (0, 2), some (0, 2), some (0, 2), some (0, 2), some (0, 0), some (0, 1), some (0, 0)]) rfl rfl rfl rfl ?_
      refine lm_fT (C := (Z 1)) hx hg hN hm hg.1.2.1 (by omega) (fun s10 f1 r1 => ?_) 62 s1 0 (by omega) (by omega) (mfs_t h1 l2) l1
      refine y_aload rfl rfl rfl ?_
      refine y_gfr (t := 558) rfl rfl (by decide) rfl (by decide) ?_
      refine y_iload rfl rfl ?_
      refine y_push rfl ?_
      refine y_iast (n := 3) rfl rfl (by decide) rfl (by decide) ?_
      refine y_iinc (L' := [some (2, 547), some (0, m), some (0, c), some (0, i), some (0, 2), some (0, 4), some (0, r.1), some (0, r.2), some (0, 2), some (0, 2), some (0, 2), some (0, 2), some (0, 1), some (0, 1), none]) rfl rfl rfl rfl rfl (by decide) ?_
      refine y_goto rfl ?_
      refine y_iload rfl rfl ?_
      refine y_iload rfl rfl ?_
      refine y_icge rfl (fun q111 => ?_) (fun q111 => ?_)
      · exfalso; omega
      · skip
        refine y_iload rfl rfl ?_
        refine y_iload rfl rfl ?_
        refine y_idiv (v := 1) rfl rfl (by omega) ?_
        refine y_istore (L' := [some (2, 547), some (0, m), some (0, c), some (0, i), some (0, 2), some (0, 4), some (0, r.1), some (0, r.2), some (0, 2), some (0, 2), some (0, 2), some (0, 1), some (0, 1), some (0, 1), none]) rfl rfl rfl rfl ?_
        refine y_iload rfl rfl ?_
        refine y_iload rfl rfl ?_
        refine y_idiv (v := 2) rfl rfl (by omega) ?_
        refine y_iload rfl rfl ?_
        refine y_irem (v := 0) rfl rfl (by omega) ?_
        refine y_istore (L' := [some (2, 547), some (0, m), some (0, c), some (0, i), some (0, 2), some (0, 4), some (0, r.1), some (0, r.2), some (0, 2), some (0, 2), some (0, 2), some (0, 1), some (0, 1), some (0, 0), none]) rfl rfl rfl rfl ?_
        refine y_iload rfl rfl ?_
        refine y_push rfl ?_
        refine y_iload rfl rfl ?_
        refine y_ishl (v := 1) rfl rfl ?_
        refine y_ior (v := 3) rfl rfl ?_
        refine y_istore (L' := [some (2, 547), some (0, m), some (0, c), some (0, i), some (0, 2), some (0, 4), some (0, r.1), some (0, r.2), some (0, 2), some (0, 3), some (0, 2), some (0, 1), some (0, 1), some (0, 0), none]) rfl rfl rfl rfl ?_
        refine y_push rfl ?_
        refine y_istore (L' := [some (2, 547), some (0, m), some (0, c), some (0, i), some (0, 2), some (0, 4), some (0, r.1), some (0, r.2), some (0, 2), some (0, 3), some (0, 2), some (0, 1), some (0, 1), some (0, 0), some (0, 0)]) rfl rfl rfl rfl ?_
        have d1 : dG (Z 0) (mem1 (Z 0) m.toNat (Z 1) 1) := dG_mem1 hg.1.1 hg.1.2.1 (by omega)
        have v1 : (mem1 (Z 0) m.toNat (Z 1) 1) 5 0 = (Z 1) 5 0 + m.toNat := mem1_5
        refine lm_fT (C := (mem1 (Z 0) m.toNat (Z 1) 1)) hx hg hN hm d1 (by omega) (fun s11 f2 r2 => ?_) 62 (yset s10 558 1 1) 0 (by omega) (by omega) (mfs_s (k := 558) (j := 1) (v := 1) f1 (by omega)) (rm_m r1 (by omega) (by omega))
        refine y_aload rfl rfl rfl ?_
        refine y_gfr (t := 558) rfl rfl (by decide) rfl (by decide) ?_
        refine y_iload rfl rfl ?_
        refine y_push rfl ?_
        refine y_iast (n := 3) rfl rfl (by decide) rfl (by decide) ?_
        refine y_iinc (L' := [some (2, 547), some (0, m), some (0, c), some (0, i), some (0, 2), some (0, 4), some (0, r.1), some (0, r.2), some (0, 2), some (0, 3), some (0, 2), some (0, 1), some (0, 2), some (0, 0), none]) rfl rfl rfl rfl rfl (by decide) ?_
        refine y_goto rfl ?_
        refine y_iload rfl rfl ?_
        refine y_iload rfl rfl ?_
        refine y_icge rfl (fun q111 => ?_) (fun q111 => ?_)
        · skip
          refine y_iload rfl rfl ?_
          refine y_push rfl ?_
          refine y_iload rfl rfl ?_
          refine y_ishl (v := 4) rfl rfl ?_
          refine y_push rfl ?_
          refine y_isub (v := 3) rfl rfl (by decide) ?_
          refine y_icne rfl (fun q182 => ?_) (fun q182 => ?_)
          · exfalso; omega
          · skip
            refine y_push rfl ?_
            refine y_goto rfl ?_
            refine y_istore (L' := [some (2, 547), some (0, m), some (0, c), some (0, i), some (0, 2), some (0, 4), some (0, r.1), some (0, r.2), some (0, 2), some (0, 3), some (0, 2), some (0, 1), some (0, 1), some (0, 0), none]) rfl rfl rfl rfl ?_
            have hv : s11 554 c = ((mem1 (Z 0) m.toNat (mem1 (Z 0) m.toNat (Z 1) 1) 0) 0 c) := (r2.2.1 c (by omega) (by omega)).trans (yne (by omega) rfl).symm
            refine y_iload rfl rfl ?_
            refine y_ifeq rfl (fun q194 => ?_) (fun q194 => ?_)
            · exfalso; omega
            · skip
              refine y_aload rfl rfl rfl ?_
              refine y_gfr (t := 554) rfl rfl (by decide) rfl (by decide) ?_
              refine y_iload rfl rfl ?_
              refine y_iald (v := (s11 554 c)) (n := 9) rfl rfl (by decide) rfl (by omega) (yne (by omega) rfl) ?_
              refine y_iload rfl rfl ?_
              refine y_icle rfl (fun q205 => ?_) (fun q205 => ?_)
              · skip
                refine y_iload rfl rfl ?_
                refine y_istore (L' := [some (2, 547), some (0, m), some (0, c), some (0, i), some (0, 2), some (0, 4), some (0, r.1), some (0, r.2), some (0, 2), some (0, 3), some (0, 2), some (0, 1), some (0, 1), some (0, 0), none]) rfl rfl rfl rfl ?_
                refine y_iload rfl rfl ?_
                refine y_ifeq rfl (fun q219 => ?_) (fun q219 => ?_)
                · exfalso; omega
                · skip
                  refine y_aload rfl rfl rfl ?_
                  refine y_gfr (t := 554) rfl rfl (by decide) rfl (by decide) ?_
                  refine y_iload rfl rfl ?_
                  refine y_iald (v := (s11 554 c)) (n := 9) rfl rfl (by decide) rfl (by omega) (yne (by omega) rfl) ?_
                  refine y_iload rfl rfl ?_
                  refine y_icle rfl (fun q230 => ?_) (fun q230 => ?_)
                  · skip
                    refine y_iload rfl rfl ?_
                    refine y_istore (L' := [some (2, 547), some (0, m), some (0, c), some (0, i), some (0, 2), some (0, 4), some (0, r.1), some (0, r.2), some (0, 2), some (0, 3), some (0, 2), some (0, 1), some (0, 1), some (0, 0), none]) rfl rfl rfl rfl ?_
                    refine y_iinc (L' := [some (2, 547), some (0, m), some (0, c), some (0, i), some (0, 2), some (0, 4), some (0, r.1), some (0, r.2), some (0, 3), some (0, 3), some (0, 2), some (0, 1), some (0, 1), some (0, 0), none]) rfl rfl rfl rfl rfl (by decide) ?_
                    refine y_goto rfl ?_
                    refine y_forget (M := [some (2, 547), some (0, m), some (0, c), some (0, i), some (0, 2), some (0, 4), some (0, r.1), some (0, r.2), some (0, 3), none, none, none, none, none, none]) ⟨Or.inr rfl, ⟨Or.inr rfl, ⟨Or.inr rfl, ⟨Or.inr rfl, ⟨Or.inr rfl, ⟨Or.inr rfl, ⟨Or.inr rfl, ⟨Or.inr rfl, ⟨Or.inr rfl, ⟨Or.inl rfl, ⟨Or.inl rfl, ⟨Or.inl rfl, ⟨Or.inl rfl, ⟨Or.inl rfl, ⟨Or.inl rfl, trivial⟩⟩⟩⟩⟩⟩⟩⟩⟩⟩⟩⟩⟩⟩⟩ ?_
                    have e := hk _ (mfs_s (k := 558) (j := 0) (v := 1) f2 (by omega))
                    rw [show mbx r ((mem1 (Z 0) m.toNat (mem1 (Z 0) m.toNat (Z 1) 1) 0) 0 c) 2 = r from if_neg (by first | omega | (rw [← hv]; omega))] at e
                    exact e
                  · exfalso; omega
              · skip
                refine y_iload rfl rfl ?_
                refine y_goto rfl ?_
                refine y_istore (L' := [some (2, 547), some (0, m), some (0, c), some (0, i), some (0, 2), some (0, 4), some (0, r.1), some (0, 2), some (0, 2), some (0, 3), some (0, 2), some (0, 1), some (0, 1), some (0, 0), none]) rfl rfl rfl rfl ?_
                refine y_iload rfl rfl ?_
                refine y_ifeq rfl (fun q219 => ?_) (fun q219 => ?_)
                · exfalso; omega
                · skip
                  refine y_aload rfl rfl rfl ?_
                  refine y_gfr (t := 554) rfl rfl (by decide) rfl (by decide) ?_
                  refine y_iload rfl rfl ?_
                  refine y_iald (v := (s11 554 c)) (n := 9) rfl rfl (by decide) rfl (by omega) (yne (by omega) rfl) ?_
                  refine y_iload rfl rfl ?_
                  refine y_icle rfl (fun q230 => ?_) (fun q230 => ?_)
                  · exfalso; omega
                  · skip
                    refine y_aload rfl rfl rfl ?_
                    refine y_gfr (t := 554) rfl rfl (by decide) rfl (by decide) ?_
                    refine y_iload rfl rfl ?_
                    refine y_iald (v := (s11 554 c)) (n := 9) rfl rfl (by decide) rfl (by omega) (yne (by omega) rfl) ?_
                    refine y_goto rfl ?_
                    refine y_istore (L' := [some (2, 547), some (0, m), some (0, c), some (0, i), some (0, 2), some (0, 4), some (0, (s11 554 c)), some (0, 2), some (0, 2), some (0, 3), some (0, 2), some (0, 1), some (0, 1), some (0, 0), none]) rfl rfl rfl rfl ?_
                    refine y_iinc (L' := [some (2, 547), some (0, m), some (0, c), some (0, i), some (0, 2), some (0, 4), some (0, (s11 554 c)), some (0, 2), some (0, 3), some (0, 3), some (0, 2), some (0, 1), some (0, 1), some (0, 0), none]) rfl rfl rfl rfl rfl (by decide) ?_
                    refine y_goto rfl ?_
                    refine y_forget (M := [some (2, 547), some (0, m), some (0, c), some (0, i), some (0, 2), some (0, 4), some (0, (s11 554 c)), some (0, 2), some (0, 3), none, none, none, none, none, none]) ⟨Or.inr rfl, ⟨Or.inr rfl, ⟨Or.inr rfl, ⟨Or.inr rfl, ⟨Or.inr rfl, ⟨Or.inr rfl, ⟨Or.inr rfl, ⟨Or.inr rfl, ⟨Or.inr rfl, ⟨Or.inl rfl, ⟨Or.inl rfl, ⟨Or.inl rfl, ⟨Or.inl rfl, ⟨Or.inl rfl, ⟨Or.inl rfl, trivial⟩⟩⟩⟩⟩⟩⟩⟩⟩⟩⟩⟩⟩⟩⟩ ?_
                    have e := hk _ (mfs_s (k := 558) (j := 0) (v := 1) f2 (by omega))
                    rw [show mbx r ((mem1 (Z 0) m.toNat (mem1 (Z 0) m.toNat (Z 1) 1) 0) 0 c) 2 = ((s11 554 c), 2) from (if_pos (by first | omega | (rw [← hv]; omega))).trans (by rw [hv])] at e
                    exact e
        · exfalso; omega
theorem lm_f2_3 {g : Launch × XG × va_G} {σ : YS} {τ : YS} {Z : YZ} {I : Int → YZ} {M : YS} {N : Int} {m c i : Int} {r : Int × Int} {P0 : Int → YS → Prop}  (hx : mW σ Z I M) (hg : wG Z I M N) (hN : N < 100000) (hm : (0 ≤ m ∧ m ≤ 60) ∧ (0 ≤ c ∧ c < Z 0 0 0) ∧ -1 ≤ i) (hw : Z 0 1 0 = 2) (h1 : mfs σ τ) (hk : ∀ s, mfs σ s → YW g 93 82 [some (2, 547), some (0, m), some (0, c), some (0, i), some (0, 2), some (0, 4), some (0, r.1), some (0, r.2), some (0, 4), none, none, none, none, none, none] [] s (fun rv σ' => ∃ b, rv = some (0, b) ∧ (P0 b σ'))) : YW g 93 82 [some (2, 547), some (0, m), some (0, c), some (0, i), some (0, 2), some (0, 4), some (0, r.1), some (0, r.2), some (0, 3), none, none, none, none, none, none] [] τ (fun rv σ' => ∃ b, rv = some (0, b) ∧ (P0 b σ')) := by
  have e1 := hg.1.1.1
  have hn5 := hg.1.2.2.1
  refine y_iload rfl rfl ?_
  refine y_iload rfl rfl ?_
  refine y_icge rfl (fun q86 => ?_) (fun q86 => ?_)
  · exfalso; omega
  · skip
    refine y_aload rfl rfl rfl ?_
    refine y_vu (as := [(2, 547)]) (S := []) rfl rfl rfl rfl rfl rfl (by decide) rfl (m_layNow (mzs_cong hg.1.1 hx.1.1 (fun y a b => h1 548 y (by omega))) hg.1.1 hg.1.2.1 hg.1.2.2.2.2.1.1) ?_
    rintro s1 ⟨l1, l2⟩
    refine y_push rfl ?_
    refine y_istore (L' := [some (2, 547), some (0, m), some (0, c), some (0, i), some (0, 2), some (0, 4), some (0, r.1), some (0, r.2), some (0, 3), some (0, 0), none, none, none, none, none]) rfl rfl rfl rfl ?_
    refine y_iload rfl rfl ?_
    refine y_istore (L' := [some (2, 547), some (0, m), some (0, c), some (0, i), some (0, 2), some (0, 4), some (0, r.1), some (0, r.2), some (0, 3), some (0, 0), some (0, 3), none, none, none, none]) rfl rfl rfl rfl ?_
    refine y_iload rfl rfl ?_
    refine y_istore (L' := [some (2, 547), some (0, m), some (0, c), some (0, i), some (0, 2), some (0, 4), some (0, r.1), some (0, r.2), some (0, 3), some (0, 0), some (0, 3), some (0, 4), none, none, none]) rfl rfl rfl rfl ?_
    refine y_push rfl ?_
    refine y_istore (L' := [some (2, 547), some (0, m), some (0, c), some (0, i), some (0, 2), some (0, 4), some (0, r.1), some (0, r.2), some (0, 3), some (0, 0), some (0, 3), some (0, 4), some (0, 0), none, none]) rfl rfl rfl rfl ?_
    refine y_iload rfl rfl ?_
    refine y_iload rfl rfl ?_
    refine y_icge rfl (fun q111 => ?_) (fun q111 => ?_)
    · exfalso; omega
    · skip
      refine y_iload rfl rfl ?_
      refine y_iload rfl rfl ?_
      refine y_idiv (v := 2) rfl rfl (by omega) ?_
      refine y_istore (L' := [some (2, 547), some (0, m), some (0, c), some (0, i), some (0, 2), some (0, 4), some (0, r.1), some (0, r.2), some (0, 3), some (0, 0), some (0, 3), some (0, 2), some (0, 0), none, none]) rfl rfl rfl rfl ?_
      refine y_iload rfl rfl ?_
      refine y_iload rfl rfl ?_
      refine y_idiv (v := 1) rfl rfl (by omega) ?_
      refine y_iload rfl rfl ?_
      refine y_irem (v := 1) rfl rfl (by omega) ?_
      refine y_istore (L' := [some (2, 547), some (0, m), some (0, c), some (0, i), some (0, 2), some (0, 4), some (0, r.1), some (0, r.2), some (0, 3), some (0, 0), some (0, 3), some (0, 2), some (0, 0), some (0, 1), none]) rfl rfl rfl rfl ?_
      refine y_iload rfl rfl ?_
      refine y_push rfl ?_
      refine y_iload rfl rfl ?_
      refine y_ishl (v := 2) rfl rfl ?_
      refine y_ior (v := 2) rfl rfl ?_
      refine y_istore (L' := [some (2, 547), some (0, m), some (0, c), some (0, i), some (0, 2), some (0, 4), some (0, r.1), some (0, r.2), some (0, 3), some (0, 2), some (0, 3), some (0, 2), some (0, 0), some (0, 1), none]) rfl rfl rfl rfl ?_
      refine y_push rfl ?_
      refine y_istore (L' := [some (2, 547), some (0, m), some (0, c), some (0, i), some (0, 2), some (0, 4), some (0, r.1), some (0, r.2), some (0, 3), some (0, 2), some (0, 3), some (0, 2), some (0, 0), some (0, 1), some (0, 0)]) rfl rfl rfl rfl ?_
      refine lm_fT (C := (Z 1)) hx hg hN hm hg.1.2.1 (by omega) (fun s10 f1 r1 => ?_) 62 s1 0 (by omega) (by omega) (mfs_t h1 l2) l1
      refine y_aload rfl rfl rfl ?_
      refine y_gfr (t := 558) rfl rfl (by decide) rfl (by decide) ?_
      refine y_iload rfl rfl ?_
      refine y_push rfl ?_
      refine y_iast (n := 3) rfl rfl (by decide) rfl (by decide) ?_
      refine y_iinc (L' := [some (2, 547), some (0, m), some (0, c), some (0, i), some (0, 2), some (0, 4), some (0, r.1), some (0, r.2), some (0, 3), some (0, 2), some (0, 3), some (0, 2), some (0, 1), some (0, 1), none]) rfl rfl rfl rfl rfl (by decide) ?_
      refine y_goto rfl ?_
      refine y_iload rfl rfl ?_
      refine y_iload rfl rfl ?_
      refine y_icge rfl (fun q111 => ?_) (fun q111 => ?_)
      · exfalso; omega
      · skip
        refine y_iload rfl rfl ?_
        refine y_iload rfl rfl ?_
        refine y_idiv (v := 1) rfl rfl (by omega) ?_
        refine y_istore (L' := [some (2, 547), some (0, m), some (0, c), some (0, i), some (0, 2), some (0, 4), some (0, r.1), some (0, r.2), some (0, 3), some (0, 2), some (0, 3), some (0, 1), some (0, 1), some (0, 1), none]) rfl rfl rfl rfl ?_
        refine y_iload rfl rfl ?_
        refine y_iload rfl rfl ?_
        refine y_idiv (v := 3) rfl rfl (by omega) ?_
        refine y_iload rfl rfl ?_
        refine y_irem (v := 1) rfl rfl (by omega) ?_
        refine y_istore (L' := [some (2, 547), some (0, m), some (0, c), some (0, i), some (0, 2), some (0, 4), some (0, r.1), some (0, r.2), some (0, 3), some (0, 2), some (0, 3), some (0, 1), some (0, 1), some (0, 1), none]) rfl rfl rfl rfl ?_
        refine y_iload rfl rfl ?_
        refine y_push rfl ?_
        refine y_iload rfl rfl ?_
        refine y_ishl (v := 2) rfl rfl ?_
        refine y_ior (v := 2) rfl rfl ?_
        refine y_istore (L' := [some (2, 547), some (0, m), some (0, c), some (0, i), some (0, 2), some (0, 4), some (0, r.1), some (0, r.2), some (0, 3), some (0, 2), some (0, 3), some (0, 1), some (0, 1), some (0, 1), none]) rfl rfl rfl rfl ?_
        refine y_push rfl ?_
        refine y_istore (L' := [some (2, 547), some (0, m), some (0, c), some (0, i), some (0, 2), some (0, 4), some (0, r.1), some (0, r.2), some (0, 3), some (0, 2), some (0, 3), some (0, 1), some (0, 1), some (0, 1), some (0, 0)]) rfl rfl rfl rfl ?_
        have d1 : dG (Z 0) (mem1 (Z 0) m.toNat (Z 1) 1) := dG_mem1 hg.1.1 hg.1.2.1 (by omega)
        have v1 : (mem1 (Z 0) m.toNat (Z 1) 1) 5 0 = (Z 1) 5 0 + m.toNat := mem1_5
        refine lm_fT (C := (mem1 (Z 0) m.toNat (Z 1) 1)) hx hg hN hm d1 (by omega) (fun s11 f2 r2 => ?_) 62 (yset s10 558 1 1) 0 (by omega) (by omega) (mfs_s (k := 558) (j := 1) (v := 1) f1 (by omega)) (rm_m r1 (by omega) (by omega))
        refine y_aload rfl rfl rfl ?_
        refine y_gfr (t := 558) rfl rfl (by decide) rfl (by decide) ?_
        refine y_iload rfl rfl ?_
        refine y_push rfl ?_
        refine y_iast (n := 3) rfl rfl (by decide) rfl (by decide) ?_
        refine y_iinc (L' := [some (2, 547), some (0, m), some (0, c), some (0, i), some (0, 2), some (0, 4), some (0, r.1), some (0, r.2), some (0, 3), some (0, 2), some (0, 3), some (0, 1), some (0, 2), some (0, 1), none]) rfl rfl rfl rfl rfl (by decide) ?_
        refine y_goto rfl ?_
        refine y_iload rfl rfl ?_
        refine y_iload rfl rfl ?_
        refine y_icge rfl (fun q111 => ?_) (fun q111 => ?_)
        · skip
          refine y_iload rfl rfl ?_
          refine y_push rfl ?_
          refine y_iload rfl rfl ?_
          refine y_ishl (v := 4) rfl rfl ?_
          refine y_push rfl ?_
          refine y_isub (v := 3) rfl rfl (by decide) ?_
          refine y_icne rfl (fun q182 => ?_) (fun q182 => ?_)
          · skip
            refine y_push rfl ?_
            refine y_istore (L' := [some (2, 547), some (0, m), some (0, c), some (0, i), some (0, 2), some (0, 4), some (0, r.1), some (0, r.2), some (0, 3), some (0, 2), some (0, 3), some (0, 1), some (0, 0), some (0, 1), none]) rfl rfl rfl rfl ?_
            refine y_iload rfl rfl ?_
            refine y_ifeq rfl (fun q194 => ?_) (fun q194 => ?_)
            · skip
              refine y_iload rfl rfl ?_
              refine y_istore (L' := [some (2, 547), some (0, m), some (0, c), some (0, i), some (0, 2), some (0, 4), some (0, r.1), some (0, r.2), some (0, 3), some (0, 2), some (0, 3), some (0, 1), some (0, 0), some (0, 1), none]) rfl rfl rfl rfl ?_
              refine y_iload rfl rfl ?_
              refine y_ifeq rfl (fun q219 => ?_) (fun q219 => ?_)
              · skip
                refine y_iload rfl rfl ?_
                refine y_istore (L' := [some (2, 547), some (0, m), some (0, c), some (0, i), some (0, 2), some (0, 4), some (0, r.1), some (0, r.2), some (0, 3), some (0, 2), some (0, 3), some (0, 1), some (0, 0), some (0, 1), none]) rfl rfl rfl rfl ?_
                refine y_iinc (L' := [some (2, 547), some (0, m), some (0, c), some (0, i), some (0, 2), some (0, 4), some (0, r.1), some (0, r.2), some (0, 4), some (0, 2), some (0, 3), some (0, 1), some (0, 0), some (0, 1), none]) rfl rfl rfl rfl rfl (by decide) ?_
                refine y_goto rfl ?_
                refine y_forget (M := [some (2, 547), some (0, m), some (0, c), some (0, i), some (0, 2), some (0, 4), some (0, r.1), some (0, r.2), some (0, 4), none, none, none, none, none, none]) ⟨Or.inr rfl, ⟨Or.inr rfl, ⟨Or.inr rfl, ⟨Or.inr rfl, ⟨Or.inr rfl, ⟨Or.inr rfl, ⟨Or.inr rfl, ⟨Or.inr rfl, ⟨Or.inr rfl, ⟨Or.inl rfl, ⟨Or.inl rfl, ⟨Or.inl rfl, ⟨Or.inl rfl, ⟨Or.inl rfl, ⟨Or.inl rfl, trivial⟩⟩⟩⟩⟩⟩⟩⟩⟩⟩⟩⟩⟩⟩⟩ ?_
                exact hk _ (mfs_s (k := 558) (j := 1) (v := 1) f2 (by omega))
              · exfalso; omega
            · exfalso; omega
          · exfalso; omega
        · exfalso; omega
theorem lm_fE2 {g : Launch × XG × va_G} {σ : YS} {τ : YS} {Z : YZ} {I : Int → YZ} {M : YS} {N : Int} {m c i : Int} {r : Int × Int} {P0 : Int → YS → Prop}  (hx : mW σ Z I M) (hg : wG Z I M N) (hN : N < 100000) (hm : (0 ≤ m ∧ m ≤ 60) ∧ (0 ≤ c ∧ c < Z 0 0 0) ∧ -1 ≤ i) (hr : 0 ≤ r.2) (hk : ∀ b, b = ransw 2 r i → P0 b τ) : YW g 93 82 [some (2, 547), some (0, m), some (0, c), some (0, i), some (0, 2), some (0, 4), some (0, r.1), some (0, r.2), some (0, 4), none, none, none, none, none, none] [] τ (fun rv σ' => ∃ b, rv = some (0, b) ∧ (P0 b σ')) := by
  refine y_iload rfl rfl ?_
  refine y_iload rfl rfl ?_
  refine y_icge rfl (fun q86 => ?_) (fun q86 => ?_)
  · skip
    refine y_push rfl ?_
    refine y_istore (L' := [some (2, 547), some (0, m), some (0, c), some (0, i), some (0, 2), some (0, 4), some (0, r.1), some (0, r.2), some (0, 1), none, none, none, none, none, none]) rfl rfl rfl rfl ?_
    refine y_iload rfl rfl ?_
    refine y_push rfl ?_
    refine y_isub (v := 1) rfl rfl (by decide) ?_
    refine y_istore (L' := [some (2, 547), some (0, m), some (0, c), some (0, i), some (0, 2), some (0, 4), some (0, r.1), some (0, r.2), some (0, 1), some (0, 1), none, none, none, none, none]) rfl rfl rfl rfl ?_
    refine y_iload rfl rfl ?_
    refine y_iload rfl rfl ?_
    refine y_icle rfl (fun q264 => ?_) (fun q264 => ?_)
    · skip
      refine y_iload rfl rfl ?_
      refine y_push rfl ?_
      refine y_icne rfl (fun q282 => ?_) (fun q282 => ?_)
      · skip
        refine y_iload rfl rfl ?_
        refine y_iload rfl rfl ?_
        refine y_icge rfl (fun q293 => ?_) (fun q293 => ?_)
        · skip
          refine y_push rfl ?_
          refine y_iret rfl rfl ⟨_, rfl, ?_⟩
          exact hk _ (by unfold ransw; (repeat' split) <;> omega)
        · skip
          refine y_iload rfl rfl ?_
          refine y_iload rfl rfl ?_
          refine y_idiv (v := (r.2 / 1)) rfl rfl (by omega) ?_
          refine y_iload rfl rfl ?_
          refine y_irem (v := ((r.2 / 1) % 2)) rfl rfl (by omega) ?_
          refine y_goto rfl ?_
          refine y_iret rfl rfl ⟨_, rfl, ?_⟩
          exact hk _ (by unfold ransw; (repeat' split) <;> omega)
      · skip
        refine y_iload rfl rfl ?_
        refine y_goto rfl ?_
        refine y_iret rfl rfl ⟨_, rfl, ?_⟩
        exact hk _ (by unfold ransw; (repeat' split) <;> omega)
    · skip
      refine y_iload rfl rfl ?_
      refine y_iload rfl rfl ?_
      refine y_imul (v := 2) rfl rfl (by decide) ?_
      refine y_istore (L' := [some (2, 547), some (0, m), some (0, c), some (0, i), some (0, 2), some (0, 4), some (0, r.1), some (0, r.2), some (0, 2), some (0, 1), none, none, none, none, none]) rfl rfl rfl rfl ?_
      refine y_iinc (L' := [some (2, 547), some (0, m), some (0, c), some (0, i), some (0, 2), some (0, 4), some (0, r.1), some (0, r.2), some (0, 2), some (0, 0), none, none, none, none, none]) rfl rfl rfl rfl rfl (by decide) ?_
      refine y_goto rfl ?_
      refine y_iload rfl rfl ?_
      refine y_iload rfl rfl ?_
      refine y_icle rfl (fun q264 => ?_) (fun q264 => ?_)
      · skip
        refine y_iload rfl rfl ?_
        refine y_push rfl ?_
        refine y_icne rfl (fun q282 => ?_) (fun q282 => ?_)
        · skip
          refine y_iload rfl rfl ?_
          refine y_iload rfl rfl ?_
          refine y_icge rfl (fun q293 => ?_) (fun q293 => ?_)
          · skip
            refine y_push rfl ?_
            refine y_iret rfl rfl ⟨_, rfl, ?_⟩
            exact hk _ (by unfold ransw; (repeat' split) <;> omega)
          · skip
            refine y_iload rfl rfl ?_
            refine y_iload rfl rfl ?_
            refine y_idiv (v := (r.2 / 2)) rfl rfl (by omega) ?_
            refine y_iload rfl rfl ?_
            refine y_irem (v := ((r.2 / 2) % 2)) rfl rfl (by omega) ?_
            refine y_goto rfl ?_
            refine y_iret rfl rfl ⟨_, rfl, ?_⟩
            exact hk _ (by unfold ransw; (repeat' split) <;> omega)
        · skip
          refine y_iload rfl rfl ?_
          refine y_goto rfl ?_
          refine y_iret rfl rfl ⟨_, rfl, ?_⟩
          exact hk _ (by unfold ransw; (repeat' split) <;> omega)
      · skip
        refine y_iload rfl rfl ?_
        refine y_iload rfl rfl ?_
        refine y_imul (v := 4) rfl rfl (by decide) ?_
        refine y_istore (L' := [some (2, 547), some (0, m), some (0, c), some (0, i), some (0, 2), some (0, 4), some (0, r.1), some (0, r.2), some (0, 4), some (0, 0), none, none, none, none, none]) rfl rfl rfl rfl ?_
        refine y_iinc (L' := [some (2, 547), some (0, m), some (0, c), some (0, i), some (0, 2), some (0, 4), some (0, r.1), some (0, r.2), some (0, 4), some (0, (-1)), none, none, none, none, none]) rfl rfl rfl rfl rfl (by decide) ?_
        refine y_goto rfl ?_
        refine y_iload rfl rfl ?_
        refine y_iload rfl rfl ?_
        refine y_icle rfl (fun q264 => ?_) (fun q264 => ?_)
        · skip
          refine y_iload rfl rfl ?_
          refine y_push rfl ?_
          refine y_icne rfl (fun q282 => ?_) (fun q282 => ?_)
          · skip
            refine y_iload rfl rfl ?_
            refine y_iload rfl rfl ?_
            refine y_icge rfl (fun q293 => ?_) (fun q293 => ?_)
            · skip
              refine y_push rfl ?_
              refine y_iret rfl rfl ⟨_, rfl, ?_⟩
              exact hk _ (by unfold ransw; (repeat' split) <;> omega)
            · skip
              refine y_iload rfl rfl ?_
              refine y_iload rfl rfl ?_
              refine y_idiv (v := (r.2 / 4)) rfl rfl (by omega) ?_
              refine y_iload rfl rfl ?_
              refine y_irem (v := ((r.2 / 4) % 2)) rfl rfl (by omega) ?_
              refine y_goto rfl ?_
              refine y_iret rfl rfl ⟨_, rfl, ?_⟩
              exact hk _ (by unfold ransw; (repeat' split) <;> omega)
          · skip
            refine y_iload rfl rfl ?_
            refine y_goto rfl ?_
            refine y_iret rfl rfl ⟨_, rfl, ?_⟩
            exact hk _ (by unfold ransw; (repeat' split) <;> omega)
        · exfalso; omega
  · exfalso; omega
theorem lm_fA2 {g : Launch × XG × va_G} {σ : YS} {τ : YS} {Z : YZ} {I : Int → YZ} {M : YS} {N : Int} {m c i : Int} {P0 : Int → YS → Prop} (hx : mW σ Z I M) (hg : wG Z I M N) (hN : N < 100000) (hm : (0 ≤ m ∧ m ≤ 60) ∧ (0 ≤ c ∧ c < Z 0 0 0) ∧ -1 ≤ i) (hw : Z 0 1 0 = 2) (h1 : mfs σ τ) (hk : ∀ b s, mfs σ s → b = ransw 2 (mfold (fun l => mch (Z 0) m.toNat (Z 1) l 0 c) (mlist 2) (-1, 0)) i → P0 b s) : YW g 93 82 [some (2, 547), some (0, m), some (0, c), some (0, i), some (0, 2), some (0, 4), some (0, (-1)), some (0, 0), some (0, 0), none, none, none, none, none, none] [] τ (fun rv σ' => ∃ b, rv = some (0, b) ∧ (P0 b σ')) := by
  refine lm_f2_0 (r := ((-1, 0) : Int × Int)) hx hg hN hm hw h1 (fun s0 f0 => ?_)
  refine lm_f2_1 (r := ((-1, 0) : Int × Int)) hx hg hN hm hw f0 (fun s1 f1 => ?_)
  refine lm_f2_2 (r := (mbx ((-1, 0) : Int × Int) ((mem1 (Z 0) m.toNat (mem1 (Z 0) m.toNat (Z 1) 0) 1) 0 c) 1)) hx hg hN hm hw f1 (fun s2 f2 => ?_)
  refine lm_f2_3 (r := (mbx (mbx ((-1, 0) : Int × Int) ((mem1 (Z 0) m.toNat (mem1 (Z 0) m.toNat (Z 1) 0) 1) 0 c) 1) ((mem1 (Z 0) m.toNat (mem1 (Z 0) m.toNat (Z 1) 1) 0) 0 c) 2)) hx hg hN hm hw f2 (fun s3 f3 => ?_)
  exact lm_fE2 (r := (mbx (mbx ((-1, 0) : Int × Int) ((mem1 (Z 0) m.toNat (mem1 (Z 0) m.toNat (Z 1) 0) 1) 0 c) 1) ((mem1 (Z 0) m.toNat (mem1 (Z 0) m.toNat (Z 1) 1) 0) 0 c) 2)) hx hg hN hm (mbx_0 (mbx_0 (by decide) (by decide)) (by decide)) (fun b hb => hk b _ f3 hb)
theorem lm_f3_0 {g : Launch × XG × va_G} {σ : YS} {τ : YS} {Z : YZ} {I : Int → YZ} {M : YS} {N : Int} {m c i : Int} {r : Int × Int} {P0 : Int → YS → Prop}  (hx : mW σ Z I M) (hg : wG Z I M N) (hN : N < 100000) (hm : (0 ≤ m ∧ m ≤ 60) ∧ (0 ≤ c ∧ c < Z 0 0 0) ∧ -1 ≤ i) (hw : Z 0 1 0 = 3) (h1 : mfs σ τ) (hk : ∀ s, mfs σ s → YW g 93 82 [some (2, 547), some (0, m), some (0, c), some (0, i), some (0, 3), some (0, 27), some (0, r.1), some (0, r.2), some (0, 1), none, none, none, none, none, none] [] s (fun rv σ' => ∃ b, rv = some (0, b) ∧ (P0 b σ'))) : YW g 93 82 [some (2, 547), some (0, m), some (0, c), some (0, i), some (0, 3), some (0, 27), some (0, r.1), some (0, r.2), some (0, 0), none, none, none, none, none, none] [] τ (fun rv σ' => ∃ b, rv = some (0, b) ∧ (P0 b σ')) := by
  have e1 := hg.1.1.1
  have hn5 := hg.1.2.2.1
  refine y_iload rfl rfl ?_
  refine y_iload rfl rfl ?_
  refine y_icge rfl (fun q86 => ?_) (fun q86 => ?_)
  · exfalso; omega
  · skip
    refine y_aload rfl rfl rfl ?_
    refine y_vu (as := [(2, 547)]) (S := []) rfl rfl rfl rfl rfl rfl (by decide) rfl (m_layNow (mzs_cong hg.1.1 hx.1.1 (fun y a b => h1 548 y (by omega))) hg.1.1 hg.1.2.1 hg.1.2.2.2.2.1.1) ?_
    rintro s1 ⟨l1, l2⟩
    refine y_push rfl ?_
    refine y_istore (L' := [some (2, 547), some (0, m), some (0, c), some (0, i), some (0, 3), some (0, 27), some (0, r.1), some (0, r.2), some (0, 0), some (0, 0), none, none, none, none, none]) rfl rfl rfl rfl ?_
    refine y_iload rfl rfl ?_
    refine y_istore (L' := [some (2, 547), some (0, m), some (0, c), some (0, i), some (0, 3), some (0, 27), some (0, r.1), some (0, r.2), some (0, 0), some (0, 0), some (0, 0), none, none, none, none]) rfl rfl rfl rfl ?_
    refine y_iload rfl rfl ?_
    refine y_istore (L' := [some (2, 547), some (0, m), some (0, c), some (0, i), some (0, 3), some (0, 27), some (0, r.1), some (0, r.2), some (0, 0), some (0, 0), some (0, 0), some (0, 27), none, none, none]) rfl rfl rfl rfl ?_
    refine y_push rfl ?_
    refine y_istore (L' := [some (2, 547), some (0, m), some (0, c), some (0, i), some (0, 3), some (0, 27), some (0, r.1), some (0, r.2), some (0, 0), some (0, 0), some (0, 0), some (0, 27), some (0, 0), none, none]) rfl rfl rfl rfl ?_
    refine y_iload rfl rfl ?_
    refine y_iload rfl rfl ?_
    refine y_icge rfl (fun q111 => ?_) (fun q111 => ?_)
    · exfalso; omega
    · skip
      refine y_iload rfl rfl ?_
      refine y_iload rfl rfl ?_
      refine y_idiv (v := 9) rfl rfl (by omega) ?_
      refine y_istore (L' := [some (2, 547), some (0, m), some (0, c), some (0, i), some (0, 3), some (0, 27), some (0, r.1), some (0, r.2), some (0, 0), some (0, 0), some (0, 0), some (0, 9), some (0, 0), none, none]) rfl rfl rfl rfl ?_
      refine y_iload rfl rfl ?_
      refine y_iload rfl rfl ?_
      refine y_idiv (v := 0) rfl rfl (by omega) ?_
      refine y_iload rfl rfl ?_
      refine y_irem (v := 0) rfl rfl (by omega) ?_
      refine y_istore (L' := [some (2, 547), some (0, m), some (0, c), some (0, i), some (0, 3), some (0, 27), some (0, r.1), some (0, r.2), some (0, 0), some (0, 0), some (0, 0), some (0, 9), some (0, 0), some (0, 0), none]) rfl rfl rfl rfl ?_
      refine y_iload rfl rfl ?_
      refine y_push rfl ?_
      refine y_iload rfl rfl ?_
      refine y_ishl (v := 1) rfl rfl ?_
      refine y_ior (v := 1) rfl rfl ?_
      refine y_istore (L' := [some (2, 547), some (0, m), some (0, c), some (0, i), some (0, 3), some (0, 27), some (0, r.1), some (0, r.2), some (0, 0), some (0, 1), some (0, 0), some (0, 9), some (0, 0), some (0, 0), none]) rfl rfl rfl rfl ?_
      refine y_push rfl ?_
      refine y_istore (L' := [some (2, 547), some (0, m), some (0, c), some (0, i), some (0, 3), some (0, 27), some (0, r.1), some (0, r.2), some (0, 0), some (0, 1), some (0, 0), some (0, 9), some (0, 0), some (0, 0), some (0, 0)]) rfl rfl rfl rfl ?_
      refine lm_fT (C := (Z 1)) hx hg hN hm hg.1.2.1 (by omega) (fun s10 f1 r1 => ?_) 62 s1 0 (by omega) (by omega) (mfs_t h1 l2) l1
      refine y_aload rfl rfl rfl ?_
      refine y_gfr (t := 558) rfl rfl (by decide) rfl (by decide) ?_
      refine y_iload rfl rfl ?_
      refine y_push rfl ?_
      refine y_iast (n := 3) rfl rfl (by decide) rfl (by decide) ?_
      refine y_iinc (L' := [some (2, 547), some (0, m), some (0, c), some (0, i), some (0, 3), some (0, 27), some (0, r.1), some (0, r.2), some (0, 0), some (0, 1), some (0, 0), some (0, 9), some (0, 1), some (0, 0), none]) rfl rfl rfl rfl rfl (by decide) ?_
      refine y_goto rfl ?_
      refine y_iload rfl rfl ?_
      refine y_iload rfl rfl ?_
      refine y_icge rfl (fun q111 => ?_) (fun q111 => ?_)
      · exfalso; omega
      · skip
        refine y_iload rfl rfl ?_
        refine y_iload rfl rfl ?_
        refine y_idiv (v := 3) rfl rfl (by omega) ?_
        refine y_istore (L' := [some (2, 547), some (0, m), some (0, c), some (0, i), some (0, 3), some (0, 27), some (0, r.1), some (0, r.2), some (0, 0), some (0, 1), some (0, 0), some (0, 3), some (0, 1), some (0, 0), none]) rfl rfl rfl rfl ?_
        refine y_iload rfl rfl ?_
        refine y_iload rfl rfl ?_
        refine y_idiv (v := 0) rfl rfl (by omega) ?_
        refine y_iload rfl rfl ?_
        refine y_irem (v := 0) rfl rfl (by omega) ?_
        refine y_istore (L' := [some (2, 547), some (0, m), some (0, c), some (0, i), some (0, 3), some (0, 27), some (0, r.1), some (0, r.2), some (0, 0), some (0, 1), some (0, 0), some (0, 3), some (0, 1), some (0, 0), none]) rfl rfl rfl rfl ?_
        refine y_iload rfl rfl ?_
        refine y_push rfl ?_
        refine y_iload rfl rfl ?_
        refine y_ishl (v := 1) rfl rfl ?_
        refine y_ior (v := 1) rfl rfl ?_
        refine y_istore (L' := [some (2, 547), some (0, m), some (0, c), some (0, i), some (0, 3), some (0, 27), some (0, r.1), some (0, r.2), some (0, 0), some (0, 1), some (0, 0), some (0, 3), some (0, 1), some (0, 0), none]) rfl rfl rfl rfl ?_
        refine y_push rfl ?_
        refine y_istore (L' := [some (2, 547), some (0, m), some (0, c), some (0, i), some (0, 3), some (0, 27), some (0, r.1), some (0, r.2), some (0, 0), some (0, 1), some (0, 0), some (0, 3), some (0, 1), some (0, 0), some (0, 0)]) rfl rfl rfl rfl ?_
        have d1 : dG (Z 0) (mem1 (Z 0) m.toNat (Z 1) 0) := dG_mem1 hg.1.1 hg.1.2.1 (by omega)
        have v1 : (mem1 (Z 0) m.toNat (Z 1) 0) 5 0 = (Z 1) 5 0 + m.toNat := mem1_5
        refine lm_fT (C := (mem1 (Z 0) m.toNat (Z 1) 0)) hx hg hN hm d1 (by omega) (fun s11 f2 r2 => ?_) 62 (yset s10 558 0 1) 0 (by omega) (by omega) (mfs_s (k := 558) (j := 0) (v := 1) f1 (by omega)) (rm_m r1 (by omega) (by omega))
        refine y_aload rfl rfl rfl ?_
        refine y_gfr (t := 558) rfl rfl (by decide) rfl (by decide) ?_
        refine y_iload rfl rfl ?_
        refine y_push rfl ?_
        refine y_iast (n := 3) rfl rfl (by decide) rfl (by decide) ?_
        refine y_iinc (L' := [some (2, 547), some (0, m), some (0, c), some (0, i), some (0, 3), some (0, 27), some (0, r.1), some (0, r.2), some (0, 0), some (0, 1), some (0, 0), some (0, 3), some (0, 2), some (0, 0), none]) rfl rfl rfl rfl rfl (by decide) ?_
        refine y_goto rfl ?_
        refine y_iload rfl rfl ?_
        refine y_iload rfl rfl ?_
        refine y_icge rfl (fun q111 => ?_) (fun q111 => ?_)
        · exfalso; omega
        · skip
          refine y_iload rfl rfl ?_
          refine y_iload rfl rfl ?_
          refine y_idiv (v := 1) rfl rfl (by omega) ?_
          refine y_istore (L' := [some (2, 547), some (0, m), some (0, c), some (0, i), some (0, 3), some (0, 27), some (0, r.1), some (0, r.2), some (0, 0), some (0, 1), some (0, 0), some (0, 1), some (0, 2), some (0, 0), none]) rfl rfl rfl rfl ?_
          refine y_iload rfl rfl ?_
          refine y_iload rfl rfl ?_
          refine y_idiv (v := 0) rfl rfl (by omega) ?_
          refine y_iload rfl rfl ?_
          refine y_irem (v := 0) rfl rfl (by omega) ?_
          refine y_istore (L' := [some (2, 547), some (0, m), some (0, c), some (0, i), some (0, 3), some (0, 27), some (0, r.1), some (0, r.2), some (0, 0), some (0, 1), some (0, 0), some (0, 1), some (0, 2), some (0, 0), none]) rfl rfl rfl rfl ?_
          refine y_iload rfl rfl ?_
          refine y_push rfl ?_
          refine y_iload rfl rfl ?_
          refine y_ishl (v := 1) rfl rfl ?_
          refine y_ior (v := 1) rfl rfl ?_
          refine y_istore (L' := [some (2, 547), some (0, m), some (0, c), some (0, i), some (0, 3), some (0, 27), some (0, r.1), some (0, r.2), some (0, 0), some (0, 1), some (0, 0), some (0, 1), some (0, 2), some (0, 0), none]) rfl rfl rfl rfl ?_
          refine y_push rfl ?_
          refine y_istore (L' := [some (2, 547), some (0, m), some (0, c), some (0, i), some (0, 3), some (0, 27), some (0, r.1), some (0, r.2), some (0, 0), some (0, 1), some (0, 0), some (0, 1), some (0, 2), some (0, 0), some (0, 0)]) rfl rfl rfl rfl ?_
          have d2 : dG (Z 0) (mem1 (Z 0) m.toNat (mem1 (Z 0) m.toNat (Z 1) 0) 0) := dG_mem1 hg.1.1 d1 (by omega)
          have v2 : (mem1 (Z 0) m.toNat (mem1 (Z 0) m.toNat (Z 1) 0) 0) 5 0 = (mem1 (Z 0) m.toNat (Z 1) 0) 5 0 + m.toNat := mem1_5
          refine lm_fT (C := (mem1 (Z 0) m.toNat (mem1 (Z 0) m.toNat (Z 1) 0) 0)) hx hg hN hm d2 (by omega) (fun s12 f3 r3 => ?_) 62 (yset s11 558 0 1) 0 (by omega) (by omega) (mfs_s (k := 558) (j := 0) (v := 1) f2 (by omega)) (rm_m r2 (by omega) (by omega))
          refine y_aload rfl rfl rfl ?_
          refine y_gfr (t := 558) rfl rfl (by decide) rfl (by decide) ?_
          refine y_iload rfl rfl ?_
          refine y_push rfl ?_
          refine y_iast (n := 3) rfl rfl (by decide) rfl (by decide) ?_
          refine y_iinc (L' := [some (2, 547), some (0, m), some (0, c), some (0, i), some (0, 3), some (0, 27), some (0, r.1), some (0, r.2), some (0, 0), some (0, 1), some (0, 0), some (0, 1), some (0, 3), some (0, 0), none]) rfl rfl rfl rfl rfl (by decide) ?_
          refine y_goto rfl ?_
          refine y_iload rfl rfl ?_
          refine y_iload rfl rfl ?_
          refine y_icge rfl (fun q111 => ?_) (fun q111 => ?_)
          · skip
            refine y_iload rfl rfl ?_
            refine y_push rfl ?_
            refine y_iload rfl rfl ?_
            refine y_ishl (v := 8) rfl rfl ?_
            refine y_push rfl ?_
            refine y_isub (v := 7) rfl rfl (by decide) ?_
            refine y_icne rfl (fun q182 => ?_) (fun q182 => ?_)
            · skip
              refine y_push rfl ?_
              refine y_istore (L' := [some (2, 547), some (0, m), some (0, c), some (0, i), some (0, 3), some (0, 27), some (0, r.1), some (0, r.2), some (0, 0), some (0, 1), some (0, 0), some (0, 1), some (0, 0), some (0, 0), none]) rfl rfl rfl rfl ?_
              refine y_iload rfl rfl ?_
              refine y_ifeq rfl (fun q194 => ?_) (fun q194 => ?_)
              · skip
                refine y_iload rfl rfl ?_
                refine y_istore (L' := [some (2, 547), some (0, m), some (0, c), some (0, i), some (0, 3), some (0, 27), some (0, r.1), some (0, r.2), some (0, 0), some (0, 1), some (0, 0), some (0, 1), some (0, 0), some (0, 0), none]) rfl rfl rfl rfl ?_
                refine y_iload rfl rfl ?_
                refine y_ifeq rfl (fun q219 => ?_) (fun q219 => ?_)
                · skip
                  refine y_iload rfl rfl ?_
                  refine y_istore (L' := [some (2, 547), some (0, m), some (0, c), some (0, i), some (0, 3), some (0, 27), some (0, r.1), some (0, r.2), some (0, 0), some (0, 1), some (0, 0), some (0, 1), some (0, 0), some (0, 0), none]) rfl rfl rfl rfl ?_
                  refine y_iinc (L' := [some (2, 547), some (0, m), some (0, c), some (0, i), some (0, 3), some (0, 27), some (0, r.1), some (0, r.2), some (0, 1), some (0, 1), some (0, 0), some (0, 1), some (0, 0), some (0, 0), none]) rfl rfl rfl rfl rfl (by decide) ?_
                  refine y_goto rfl ?_
                  refine y_forget (M := [some (2, 547), some (0, m), some (0, c), some (0, i), some (0, 3), some (0, 27), some (0, r.1), some (0, r.2), some (0, 1), none, none, none, none, none, none]) ⟨Or.inr rfl, ⟨Or.inr rfl, ⟨Or.inr rfl, ⟨Or.inr rfl, ⟨Or.inr rfl, ⟨Or.inr rfl, ⟨Or.inr rfl, ⟨Or.inr rfl, ⟨Or.inr rfl, ⟨Or.inl rfl, ⟨Or.inl rfl, ⟨Or.inl rfl, ⟨Or.inl rfl, ⟨Or.inl rfl, ⟨Or.inl rfl, trivial⟩⟩⟩⟩⟩⟩⟩⟩⟩⟩⟩⟩⟩⟩⟩ ?_
                  exact hk _ (mfs_s (k := 558) (j := 0) (v := 1) f3 (by omega))
                · exfalso; omega
              · exfalso; omega
            · exfalso; omega
          · exfalso; omega
theorem lm_f3_1 {g : Launch × XG × va_G} {σ : YS} {τ : YS} {Z : YZ} {I : Int → YZ} {M : YS} {N : Int} {m c i : Int} {r : Int × Int} {P0 : Int → YS → Prop}  (hx : mW σ Z I M) (hg : wG Z I M N) (hN : N < 100000) (hm : (0 ≤ m ∧ m ≤ 60) ∧ (0 ≤ c ∧ c < Z 0 0 0) ∧ -1 ≤ i) (hw : Z 0 1 0 = 3) (h1 : mfs σ τ) (hk : ∀ s, mfs σ s → YW g 93 82 [some (2, 547), some (0, m), some (0, c), some (0, i), some (0, 3), some (0, 27), some (0, r.1), some (0, r.2), some (0, 2), none, none, none, none, none, none] [] s (fun rv σ' => ∃ b, rv = some (0, b) ∧ (P0 b σ'))) : YW g 93 82 [some (2, 547), some (0, m), some (0, c), some (0, i), some (0, 3), some (0, 27), some (0, r.1), some (0, r.2), some (0, 1), none, none, none, none, none, none] [] τ (fun rv σ' => ∃ b, rv = some (0, b) ∧ (P0 b σ')) := by
  have e1 := hg.1.1.1
  have hn5 := hg.1.2.2.1
  refine y_iload rfl rfl ?_
  refine y_iload rfl rfl ?_
  refine y_icge rfl (fun q86 => ?_) (fun q86 => ?_)
  · exfalso; omega
  · skip
    refine y_aload rfl rfl rfl ?_
    refine y_vu (as := [(2, 547)]) (S := []) rfl rfl rfl rfl rfl rfl (by decide) rfl (m_layNow (mzs_cong hg.1.1 hx.1.1 (fun y a b => h1 548 y (by omega))) hg.1.1 hg.1.2.1 hg.1.2.2.2.2.1.1) ?_
    rintro s1 ⟨l1, l2⟩
    refine y_push rfl ?_
    refine y_istore (L' := [some (2, 547), some (0, m), some (0, c), some (0, i), some (0, 3), some (0, 27), some (0, r.1), some (0, r.2), some (0, 1), some (0, 0), none, none, none, none, none]) rfl rfl rfl rfl ?_
    refine y_iload rfl rfl ?_
    refine y_istore (L' := [some (2, 547), some (0, m), some (0, c), some (0, i), some (0, 3), some (0, 27), some (0, r.1), some (0, r.2), some (0, 1), some (0, 0), some (0, 1), none, none, none, none]) rfl rfl rfl rfl ?_
    refine y_iload rfl rfl ?_
    refine y_istore (L' := [some (2, 547), some (0, m), some (0, c), some (0, i), some (0, 3), some (0, 27), some (0, r.1), some (0, r.2), some (0, 1), some (0, 0), some (0, 1), some (0, 27), none, none, none]) rfl rfl rfl rfl ?_
    refine y_push rfl ?_
    refine y_istore (L' := [some (2, 547), some (0, m), some (0, c), some (0, i), some (0, 3), some (0, 27), some (0, r.1), some (0, r.2), some (0, 1), some (0, 0), some (0, 1), some (0, 27), some (0, 0), none, none]) rfl rfl rfl rfl ?_
    refine y_iload rfl rfl ?_
    refine y_iload rfl rfl ?_
    refine y_icge rfl (fun q111 => ?_) (fun q111 => ?_)
    · exfalso; omega
    · skip
      refine y_iload rfl rfl ?_
      refine y_iload rfl rfl ?_
      refine y_idiv (v := 9) rfl rfl (by omega) ?_
      refine y_istore (L' := [some (2, 547), some (0, m), some (0, c), some (0, i), some (0, 3), some (0, 27), some (0, r.1), some (0, r.2), some (0, 1), some (0, 0), some (0, 1), some (0, 9), some (0, 0), none, none]) rfl rfl rfl rfl ?_
      refine y_iload rfl rfl ?_
      refine y_iload rfl rfl ?_
      refine y_idiv (v := 0) rfl rfl (by omega) ?_
      refine y_iload rfl rfl ?_
      refine y_irem (v := 0) rfl rfl (by omega) ?_
      refine y_istore (L' := [some (2, 547), some (0, m), some (0, c), some (0, i), some (0, 3), some (0, 27), some (0, r.1), some (0, r.2), some (0, 1), some (0, 0), some (0, 1), some (0, 9), some (0, 0), some (0, 0), none]) rfl rfl rfl rfl ?_
      refine y_iload rfl rfl ?_
      refine y_push rfl ?_
      refine y_iload rfl rfl ?_
      refine y_ishl (v := 1) rfl rfl ?_
      refine y_ior (v := 1) rfl rfl ?_
      refine y_istore (L' := [some (2, 547), some (0, m), some (0, c), some (0, i), some (0, 3), some (0, 27), some (0, r.1), some (0, r.2), some (0, 1), some (0, 1), some (0, 1), some (0, 9), some (0, 0), some (0, 0), none]) rfl rfl rfl rfl ?_
      refine y_push rfl ?_
      refine y_istore (L' := [some (2, 547), some (0, m), some (0, c), some (0, i), some (0, 3), some (0, 27), some (0, r.1), some (0, r.2), some (0, 1), some (0, 1), some (0, 1), some (0, 9), some (0, 0), some (0, 0), some (0, 0)]) rfl rfl rfl rfl ?_
      refine lm_fT (C := (Z 1)) hx hg hN hm hg.1.2.1 (by omega) (fun s10 f1 r1 => ?_) 62 s1 0 (by omega) (by omega) (mfs_t h1 l2) l1
      refine y_aload rfl rfl rfl ?_
      refine y_gfr (t := 558) rfl rfl (by decide) rfl (by decide) ?_
      refine y_iload rfl rfl ?_
      refine y_push rfl ?_
      refine y_iast (n := 3) rfl rfl (by decide) rfl (by decide) ?_
      refine y_iinc (L' := [some (2, 547), some (0, m), some (0, c), some (0, i), some (0, 3), some (0, 27), some (0, r.1), some (0, r.2), some (0, 1), some (0, 1), some (0, 1), some (0, 9), some (0, 1), some (0, 0), none]) rfl rfl rfl rfl rfl (by decide) ?_
      refine y_goto rfl ?_
      refine y_iload rfl rfl ?_
      refine y_iload rfl rfl ?_
      refine y_icge rfl (fun q111 => ?_) (fun q111 => ?_)
      · exfalso; omega
      · skip
        refine y_iload rfl rfl ?_
        refine y_iload rfl rfl ?_
        refine y_idiv (v := 3) rfl rfl (by omega) ?_
        refine y_istore (L' := [some (2, 547), some (0, m), some (0, c), some (0, i), some (0, 3), some (0, 27), some (0, r.1), some (0, r.2), some (0, 1), some (0, 1), some (0, 1), some (0, 3), some (0, 1), some (0, 0), none]) rfl rfl rfl rfl ?_
        refine y_iload rfl rfl ?_
        refine y_iload rfl rfl ?_
        refine y_idiv (v := 0) rfl rfl (by omega) ?_
        refine y_iload rfl rfl ?_
        refine y_irem (v := 0) rfl rfl (by omega) ?_
        refine y_istore (L' := [some (2, 547), some (0, m), some (0, c), some (0, i), some (0, 3), some (0, 27), some (0, r.1), some (0, r.2), some (0, 1), some (0, 1), some (0, 1), some (0, 3), some (0, 1), some (0, 0), none]) rfl rfl rfl rfl ?_
        refine y_iload rfl rfl ?_
        refine y_push rfl ?_
        refine y_iload rfl rfl ?_
        refine y_ishl (v := 1) rfl rfl ?_
        refine y_ior (v := 1) rfl rfl ?_
        refine y_istore (L' := [some (2, 547), some (0, m), some (0, c), some (0, i), some (0, 3), some (0, 27), some (0, r.1), some (0, r.2), some (0, 1), some (0, 1), some (0, 1), some (0, 3), some (0, 1), some (0, 0), none]) rfl rfl rfl rfl ?_
        refine y_push rfl ?_
        refine y_istore (L' := [some (2, 547), some (0, m), some (0, c), some (0, i), some (0, 3), some (0, 27), some (0, r.1), some (0, r.2), some (0, 1), some (0, 1), some (0, 1), some (0, 3), some (0, 1), some (0, 0), some (0, 0)]) rfl rfl rfl rfl ?_
        have d1 : dG (Z 0) (mem1 (Z 0) m.toNat (Z 1) 0) := dG_mem1 hg.1.1 hg.1.2.1 (by omega)
        have v1 : (mem1 (Z 0) m.toNat (Z 1) 0) 5 0 = (Z 1) 5 0 + m.toNat := mem1_5
        refine lm_fT (C := (mem1 (Z 0) m.toNat (Z 1) 0)) hx hg hN hm d1 (by omega) (fun s11 f2 r2 => ?_) 62 (yset s10 558 0 1) 0 (by omega) (by omega) (mfs_s (k := 558) (j := 0) (v := 1) f1 (by omega)) (rm_m r1 (by omega) (by omega))
        refine y_aload rfl rfl rfl ?_
        refine y_gfr (t := 558) rfl rfl (by decide) rfl (by decide) ?_
        refine y_iload rfl rfl ?_
        refine y_push rfl ?_
        refine y_iast (n := 3) rfl rfl (by decide) rfl (by decide) ?_
        refine y_iinc (L' := [some (2, 547), some (0, m), some (0, c), some (0, i), some (0, 3), some (0, 27), some (0, r.1), some (0, r.2), some (0, 1), some (0, 1), some (0, 1), some (0, 3), some (0, 2), some (0, 0), none]) rfl rfl rfl rfl rfl (by decide) ?_
        refine y_goto rfl ?_
        refine y_iload rfl rfl ?_
        refine y_iload rfl rfl ?_
        refine y_icge rfl (fun q111 => ?_) (fun q111 => ?_)
        · exfalso; omega
        · skip
          refine y_iload rfl rfl ?_
          refine y_iload rfl rfl ?_
          refine y_idiv (v := 1) rfl rfl (by omega) ?_
          refine y_istore (L' := [some (2, 547), some (0, m), some (0, c), some (0, i), some (0, 3), some (0, 27), some (0, r.1), some (0, r.2), some (0, 1), some (0, 1), some (0, 1), some (0, 1), some (0, 2), some (0, 0), none]) rfl rfl rfl rfl ?_
          refine y_iload rfl rfl ?_
          refine y_iload rfl rfl ?_
          refine y_idiv (v := 1) rfl rfl (by omega) ?_
          refine y_iload rfl rfl ?_
          refine y_irem (v := 1) rfl rfl (by omega) ?_
          refine y_istore (L' := [some (2, 547), some (0, m), some (0, c), some (0, i), some (0, 3), some (0, 27), some (0, r.1), some (0, r.2), some (0, 1), some (0, 1), some (0, 1), some (0, 1), some (0, 2), some (0, 1), none]) rfl rfl rfl rfl ?_
          refine y_iload rfl rfl ?_
          refine y_push rfl ?_
          refine y_iload rfl rfl ?_
          refine y_ishl (v := 2) rfl rfl ?_
          refine y_ior (v := 3) rfl rfl ?_
          refine y_istore (L' := [some (2, 547), some (0, m), some (0, c), some (0, i), some (0, 3), some (0, 27), some (0, r.1), some (0, r.2), some (0, 1), some (0, 3), some (0, 1), some (0, 1), some (0, 2), some (0, 1), none]) rfl rfl rfl rfl ?_
          refine y_push rfl ?_
          refine y_istore (L' := [some (2, 547), some (0, m), some (0, c), some (0, i), some (0, 3), some (0, 27), some (0, r.1), some (0, r.2), some (0, 1), some (0, 3), some (0, 1), some (0, 1), some (0, 2), some (0, 1), some (0, 0)]) rfl rfl rfl rfl ?_
          have d2 : dG (Z 0) (mem1 (Z 0) m.toNat (mem1 (Z 0) m.toNat (Z 1) 0) 0) := dG_mem1 hg.1.1 d1 (by omega)
          have v2 : (mem1 (Z 0) m.toNat (mem1 (Z 0) m.toNat (Z 1) 0) 0) 5 0 = (mem1 (Z 0) m.toNat (Z 1) 0) 5 0 + m.toNat := mem1_5
          refine lm_fT (C := (mem1 (Z 0) m.toNat (mem1 (Z 0) m.toNat (Z 1) 0) 0)) hx hg hN hm d2 (by omega) (fun s12 f3 r3 => ?_) 62 (yset s11 558 0 1) 0 (by omega) (by omega) (mfs_s (k := 558) (j := 0) (v := 1) f2 (by omega)) (rm_m r2 (by omega) (by omega))
          refine y_aload rfl rfl rfl ?_
          refine y_gfr (t := 558) rfl rfl (by decide) rfl (by decide) ?_
          refine y_iload rfl rfl ?_
          refine y_push rfl ?_
          refine y_iast (n := 3) rfl rfl (by decide) rfl (by decide) ?_
          refine y_iinc (L' := [some (2, 547), some (0, m), some (0, c), some (0, i), some (0, 3), some (0, 27), some (0, r.1), some (0, r.2), some (0, 1), some (0, 3), some (0, 1), some (0, 1), some (0, 3), some (0, 1), none]) rfl rfl rfl rfl rfl (by decide) ?_
          refine y_goto rfl ?_
          refine y_iload rfl rfl ?_
          refine y_iload rfl rfl ?_
          refine y_icge rfl (fun q111 => ?_) (fun q111 => ?_)
          · skip
            refine y_iload rfl rfl ?_
            refine y_push rfl ?_
            refine y_iload rfl rfl ?_
            refine y_ishl (v := 8) rfl rfl ?_
            refine y_push rfl ?_
            refine y_isub (v := 7) rfl rfl (by decide) ?_
            refine y_icne rfl (fun q182 => ?_) (fun q182 => ?_)
            · skip
              refine y_push rfl ?_
              refine y_istore (L' := [some (2, 547), some (0, m), some (0, c), some (0, i), some (0, 3), some (0, 27), some (0, r.1), some (0, r.2), some (0, 1), some (0, 3), some (0, 1), some (0, 1), some (0, 0), some (0, 1), none]) rfl rfl rfl rfl ?_
              refine y_iload rfl rfl ?_
              refine y_ifeq rfl (fun q194 => ?_) (fun q194 => ?_)
              · skip
                refine y_iload rfl rfl ?_
                refine y_istore (L' := [some (2, 547), some (0, m), some (0, c), some (0, i), some (0, 3), some (0, 27), some (0, r.1), some (0, r.2), some (0, 1), some (0, 3), some (0, 1), some (0, 1), some (0, 0), some (0, 1), none]) rfl rfl rfl rfl ?_
                refine y_iload rfl rfl ?_
                refine y_ifeq rfl (fun q219 => ?_) (fun q219 => ?_)
                · skip
                  refine y_iload rfl rfl ?_
                  refine y_istore (L' := [some (2, 547), some (0, m), some (0, c), some (0, i), some (0, 3), some (0, 27), some (0, r.1), some (0, r.2), some (0, 1), some (0, 3), some (0, 1), some (0, 1), some (0, 0), some (0, 1), none]) rfl rfl rfl rfl ?_
                  refine y_iinc (L' := [some (2, 547), some (0, m), some (0, c), some (0, i), some (0, 3), some (0, 27), some (0, r.1), some (0, r.2), some (0, 2), some (0, 3), some (0, 1), some (0, 1), some (0, 0), some (0, 1), none]) rfl rfl rfl rfl rfl (by decide) ?_
                  refine y_goto rfl ?_
                  refine y_forget (M := [some (2, 547), some (0, m), some (0, c), some (0, i), some (0, 3), some (0, 27), some (0, r.1), some (0, r.2), some (0, 2), none, none, none, none, none, none]) ⟨Or.inr rfl, ⟨Or.inr rfl, ⟨Or.inr rfl, ⟨Or.inr rfl, ⟨Or.inr rfl, ⟨Or.inr rfl, ⟨Or.inr rfl, ⟨Or.inr rfl, ⟨Or.inr rfl, ⟨Or.inl rfl, ⟨Or.inl rfl, ⟨Or.inl rfl, ⟨Or.inl rfl, ⟨Or.inl rfl, ⟨Or.inl rfl, trivial⟩⟩⟩⟩⟩⟩⟩⟩⟩⟩⟩⟩⟩⟩⟩ ?_
                  exact hk _ (mfs_s (k := 558) (j := 1) (v := 1) f3 (by omega))
                · exfalso; omega
              · exfalso; omega
            · exfalso; omega
          · exfalso; omega
theorem lm_f3_2 {g : Launch × XG × va_G} {σ : YS} {τ : YS} {Z : YZ} {I : Int → YZ} {M : YS} {N : Int} {m c i : Int} {r : Int × Int} {P0 : Int → YS → Prop}  (hx : mW σ Z I M) (hg : wG Z I M N) (hN : N < 100000) (hm : (0 ≤ m ∧ m ≤ 60) ∧ (0 ≤ c ∧ c < Z 0 0 0) ∧ -1 ≤ i) (hw : Z 0 1 0 = 3) (h1 : mfs σ τ) (hk : ∀ s, mfs σ s → YW g 93 82 [some (2, 547), some (0, m), some (0, c), some (0, i), some (0, 3), some (0, 27), some (0, r.1), some (0, r.2), some (0, 3), none, none, none, none, none, none] [] s (fun rv σ' => ∃ b, rv = some (0, b) ∧ (P0 b σ'))) : YW g 93 82 [some (2, 547), some (0, m), some (0, c), some (0, i), some (0, 3), some (0, 27), some (0, r.1), some (0, r.2), some (0, 2), none, none, none, none, none, none] [] τ (fun rv σ' => ∃ b, rv = some (0, b) ∧ (P0 b σ')) := by
  have e1 := hg.1.1.1
  have hn5 := hg.1.2.2.1
  refine y_iload rfl rfl ?_
  refine y_iload rfl rfl ?_
  refine y_icge rfl (fun q86 => ?_) (fun q86 => ?_)
  · exfalso; omega
  · skip
    refine y_aload rfl rfl rfl ?_
    refine y_vu (as := [(2, 547)]) (S := []) rfl rfl rfl rfl rfl rfl (by decide) rfl (m_layNow (mzs_cong hg.1.1 hx.1.1 (fun y a b => h1 548 y (by omega))) hg.1.1 hg.1.2.1 hg.1.2.2.2.2.1.1) ?_
    rintro s1 ⟨l1, l2⟩
    refine y_push rfl ?_
    refine y_istore (L' := [some (2, 547), some (0, m), some (0, c), some (0, i), some (0, 3), some (0, 27), some (0, r.1), some (0, r.2), some (0, 2), some (0, 0), none, none, none, none, none]) rfl rfl rfl rfl ?_
    refine y_iload rfl rfl ?_
    refine y_istore (L' := [some (2, 547), some (0, m), some (0, c), some (0, i), some (0, 3), some (0, 27), some (0, r.1), some (0, r.2), some (0, 2), some (0, 0), some (0, 2), none, none, none, none]) rfl rfl rfl rfl ?_
    refine y_iload rfl rfl ?_
    refine y_istore (L' := [some (2, 547), some (0, m), some (0, c), some (0, i), some (0, 3), some (0, 27), some (0, r.1), some (0, r.2), some (0, 2), some (0, 0), some (0, 2), some (0, 27), none, none, none]) rfl rfl rfl rfl ?_
    refine y_push rfl ?_
    refine y_istore (L' := [some (2, 547), some (0, m), some (0, c), some (0, i), some (0, 3), some (0, 27), some (0, r.1), some (0, r.2), some (0, 2), some (0, 0), some (0, 2), some (0, 27), some (0, 0), none, none]) rfl rfl rfl rfl ?_
    refine y_iload rfl rfl ?_
    refine y_iload rfl rfl ?_
    refine y_icge rfl (fun q111 => ?_) (fun q111 => ?_)
    · exfalso; omega
    · skip
      refine y_iload rfl rfl ?_
      refine y_iload rfl rfl ?_
      refine y_idiv (v := 9) rfl rfl (by omega) ?_
      refine y_istore (L' := [some (2, 547), some (0, m), some (0, c), some (0, i), some (0, 3), some (0, 27), some (0, r.1), some (0, r.2), some (0, 2), some (0, 0), some (0, 2), some (0, 9), some (0, 0), none, none]) rfl rfl rfl rfl ?_
      refine y_iload rfl rfl ?_
      refine y_iload rfl rfl ?_
      refine y_idiv (v := 0) rfl rfl (by omega) ?_
      refine y_iload rfl rfl ?_
      refine y_irem (v := 0) rfl rfl (by omega) ?_
      refine y_istore (L' := [some (2, 547), some (0, m), some (0, c), some (0, i), some (0, 3), some (0, 27), some (0, r.1), some (0, r.2), some (0, 2), some (0, 0), some (0, 2), some (0, 9), some (0, 0), some (0, 0), none]) rfl rfl rfl rfl ?_
      refine y_iload rfl rfl ?_
      refine y_push rfl ?_
      refine y_iload rfl rfl ?_
      refine y_ishl (v := 1) rfl rfl ?_
      refine y_ior (v := 1) rfl rfl ?_
      refine y_istore (L' := [some (2, 547), some (0, m), some (0, c), some (0, i), some (0, 3), some (0, 27), some (0, r.1), some (0, r.2), some (0, 2), some (0, 1), some (0, 2), some (0, 9), some (0, 0), some (0, 0), none]) rfl rfl rfl rfl ?_
      refine y_push rfl ?_
      refine y_istore (L' := [some (2, 547), some (0, m), some (0, c), some (0, i), some (0, 3), some (0, 27), some (0, r.1), some (0, r.2), some (0, 2), some (0, 1), some (0, 2), some (0, 9), some (0, 0), some (0, 0), some (0, 0)]) rfl rfl rfl rfl ?_
      refine lm_fT (C := (Z 1)) hx hg hN hm hg.1.2.1 (by omega) (fun s10 f1 r1 => ?_) 62 s1 0 (by omega) (by omega) (mfs_t h1 l2) l1
      refine y_aload rfl rfl rfl ?_
      refine y_gfr (t := 558) rfl rfl (by decide) rfl (by decide) ?_
      refine y_iload rfl rfl ?_
      refine y_push rfl ?_
      refine y_iast (n := 3) rfl rfl (by decide) rfl (by decide) ?_
      refine y_iinc (L' := [some (2, 547), some (0, m), some (0, c), some (0, i), some (0, 3), some (0, 27), some (0, r.1), some (0, r.2), some (0, 2), some (0, 1), some (0, 2), some (0, 9), some (0, 1), some (0, 0), none]) rfl rfl rfl rfl rfl (by decide) ?_
      refine y_goto rfl ?_
      refine y_iload rfl rfl ?_
      refine y_iload rfl rfl ?_
      refine y_icge rfl (fun q111 => ?_) (fun q111 => ?_)
      · exfalso; omega
      · skip
        refine y_iload rfl rfl ?_
        refine y_iload rfl rfl ?_
        refine y_idiv (v := 3) rfl rfl (by omega) ?_
        refine y_istore (L' := [some (2, 547), some (0, m), some (0, c), some (0, i), some (0, 3), some (0, 27), some (0, r.1), some (0, r.2), some (0, 2), some (0, 1), some (0, 2), some (0, 3), some (0, 1), some (0, 0), none]) rfl rfl rfl rfl ?_
        refine y_iload rfl rfl ?_
        refine y_iload rfl rfl ?_
        refine y_idiv (v := 0) rfl rfl (by omega) ?_
        refine y_iload rfl rfl ?_
        refine y_irem (v := 0) rfl rfl (by omega) ?_
        refine y_istore (L' := [some (2, 547), some (0, m), some (0, c), some (0, i), some (0, 3), some (0, 27), some (0, r.1), some (0, r.2), some (0, 2), some (0, 1), some (0, 2), some (0, 3), some (0, 1), some (0, 0), none]) rfl rfl rfl rfl ?_
        refine y_iload rfl rfl ?_
        refine y_push rfl ?_
        refine y_iload rfl rfl ?_
        refine y_ishl (v := 1) rfl rfl ?_
        refine y_ior (v := 1) rfl rfl ?_
        refine y_istore (L' := [some (2, 547), some (0, m), some (0, c), some (0, i), some (0, 3), some (0, 27), some (0, r.1), some (0, r.2), some (0, 2), some (0, 1), some (0, 2), some (0, 3), some (0, 1), some (0, 0), none]) rfl rfl rfl rfl ?_
        refine y_push rfl ?_
        refine y_istore (L' := [some (2, 547), some (0, m), some (0, c), some (0, i), some (0, 3), some (0, 27), some (0, r.1), some (0, r.2), some (0, 2), some (0, 1), some (0, 2), some (0, 3), some (0, 1), some (0, 0), some (0, 0)]) rfl rfl rfl rfl ?_
        have d1 : dG (Z 0) (mem1 (Z 0) m.toNat (Z 1) 0) := dG_mem1 hg.1.1 hg.1.2.1 (by omega)
        have v1 : (mem1 (Z 0) m.toNat (Z 1) 0) 5 0 = (Z 1) 5 0 + m.toNat := mem1_5
        refine lm_fT (C := (mem1 (Z 0) m.toNat (Z 1) 0)) hx hg hN hm d1 (by omega) (fun s11 f2 r2 => ?_) 62 (yset s10 558 0 1) 0 (by omega) (by omega) (mfs_s (k := 558) (j := 0) (v := 1) f1 (by omega)) (rm_m r1 (by omega) (by omega))
        refine y_aload rfl rfl rfl ?_
        refine y_gfr (t := 558) rfl rfl (by decide) rfl (by decide) ?_
        refine y_iload rfl rfl ?_
        refine y_push rfl ?_
        refine y_iast (n := 3) rfl rfl (by decide) rfl (by decide) ?_
        refine y_iinc (L' := [some (2, 547), some (0, m), some (0, c), some (0, i), some (0, 3), some (0, 27), some (0, r.1), some (0, r.2), some (0, 2), some (0, 1), some (0, 2), some (0, 3), some (0, 2), some (0, 0), none]) rfl rfl rfl rfl rfl (by decide) ?_
        refine y_goto rfl ?_
        refine y_iload rfl rfl ?_
        refine y_iload rfl rfl ?_
        refine y_icge rfl (fun q111 => ?_) (fun q111 => ?_)
        · exfalso; omega
        · skip
          refine y_iload rfl rfl ?_
          refine y_iload rfl rfl ?_
          refine y_idiv (v := 1) rfl rfl (by omega) ?_
          refine y_istore (L' := [some (2, 547), some (0, m), some (0, c), some (0, i), some (0, 3), some (0, 27), some (0, r.1), some (0, r.2), some (0, 2), some (0, 1), some (0, 2), some (0, 1), some (0, 2), some (0, 0), none]) rfl rfl rfl rfl ?_
          refine y_iload rfl rfl ?_
          refine y_iload rfl rfl ?_
          refine y_idiv (v := 2) rfl rfl (by omega) ?_
          refine y_iload rfl rfl ?_
          refine y_irem (v := 2) rfl rfl (by omega) ?_
          refine y_istore (L' := [some (2, 547), some (0, m), some (0, c), some (0, i), some (0, 3), some (0, 27), some (0, r.1), some (0, r.2), some (0, 2), some (0, 1), some (0, 2), some (0, 1), some (0, 2), some (0, 2), none]) rfl rfl rfl rfl ?_
          refine y_iload rfl rfl ?_
          refine y_push rfl ?_
          refine y_iload rfl rfl ?_
          refine y_ishl (v := 4) rfl rfl ?_
          refine y_ior (v := 5) rfl rfl ?_
          refine y_istore (L' := [some (2, 547), some (0, m), some (0, c), some (0, i), some (0, 3), some (0, 27), some (0, r.1), some (0, r.2), some (0, 2), some (0, 5), some (0, 2), some (0, 1), some (0, 2), some (0, 2), none]) rfl rfl rfl rfl ?_
          refine y_push rfl ?_
          refine y_istore (L' := [some (2, 547), some (0, m), some (0, c), some (0, i), some (0, 3), some (0, 27), some (0, r.1), some (0, r.2), some (0, 2), some (0, 5), some (0, 2), some (0, 1), some (0, 2), some (0, 2), some (0, 0)]) rfl rfl rfl rfl ?_
          have d2 : dG (Z 0) (mem1 (Z 0) m.toNat (mem1 (Z 0) m.toNat (Z 1) 0) 0) := dG_mem1 hg.1.1 d1 (by omega)
          have v2 : (mem1 (Z 0) m.toNat (mem1 (Z 0) m.toNat (Z 1) 0) 0) 5 0 = (mem1 (Z 0) m.toNat (Z 1) 0) 5 0 + m.toNat := mem1_5
          refine lm_fT (C := (mem1 (Z 0) m.toNat (mem1 (Z 0) m.toNat (Z 1) 0) 0)) hx hg hN hm d2 (by omega) (fun s12 f3 r3 => ?_) 62 (yset s11 558 0 1) 0 (by omega) (by omega) (mfs_s (k := 558) (j := 0) (v := 1) f2 (by omega)) (rm_m r2 (by omega) (by omega))
          refine y_aload rfl rfl rfl ?_
          refine y_gfr (t := 558) rfl rfl (by decide) rfl (by decide) ?_
          refine y_iload rfl rfl ?_
          refine y_push rfl ?_
          refine y_iast (n := 3) rfl rfl (by decide) rfl (by decide) ?_
          refine y_iinc (L' := [some (2, 547), some (0, m), some (0, c), some (0, i), some (0, 3), some (0, 27), some (0, r.1), some (0, r.2), some (0, 2), some (0, 5), some (0, 2), some (0, 1), some (0, 3), some (0, 2), none]) rfl rfl rfl rfl rfl (by decide) ?_
          refine y_goto rfl ?_
          refine y_iload rfl rfl ?_
          refine y_iload rfl rfl ?_
          refine y_icge rfl (fun q111 => ?_) (fun q111 => ?_)
          · skip
            refine y_iload rfl rfl ?_
            refine y_push rfl ?_
            refine y_iload rfl rfl ?_
            refine y_ishl (v := 8) rfl rfl ?_
            refine y_push rfl ?_
            refine y_isub (v := 7) rfl rfl (by decide) ?_
            refine y_icne rfl (fun q182 => ?_) (fun q182 => ?_)
            · skip
              refine y_push rfl ?_
              refine y_istore (L' := [some (2, 547), some (0, m), some (0, c), some (0, i), some (0, 3), some (0, 27), some (0, r.1), some (0, r.2), some (0, 2), some (0, 5), some (0, 2), some (0, 1), some (0, 0), some (0, 2), none]) rfl rfl rfl rfl ?_
              refine y_iload rfl rfl ?_
              refine y_ifeq rfl (fun q194 => ?_) (fun q194 => ?_)
              · skip
                refine y_iload rfl rfl ?_
                refine y_istore (L' := [some (2, 547), some (0, m), some (0, c), some (0, i), some (0, 3), some (0, 27), some (0, r.1), some (0, r.2), some (0, 2), some (0, 5), some (0, 2), some (0, 1), some (0, 0), some (0, 2), none]) rfl rfl rfl rfl ?_
                refine y_iload rfl rfl ?_
                refine y_ifeq rfl (fun q219 => ?_) (fun q219 => ?_)
                · skip
                  refine y_iload rfl rfl ?_
                  refine y_istore (L' := [some (2, 547), some (0, m), some (0, c), some (0, i), some (0, 3), some (0, 27), some (0, r.1), some (0, r.2), some (0, 2), some (0, 5), some (0, 2), some (0, 1), some (0, 0), some (0, 2), none]) rfl rfl rfl rfl ?_
                  refine y_iinc (L' := [some (2, 547), some (0, m), some (0, c), some (0, i), some (0, 3), some (0, 27), some (0, r.1), some (0, r.2), some (0, 3), some (0, 5), some (0, 2), some (0, 1), some (0, 0), some (0, 2), none]) rfl rfl rfl rfl rfl (by decide) ?_
                  refine y_goto rfl ?_
                  refine y_forget (M := [some (2, 547), some (0, m), some (0, c), some (0, i), some (0, 3), some (0, 27), some (0, r.1), some (0, r.2), some (0, 3), none, none, none, none, none, none]) ⟨Or.inr rfl, ⟨Or.inr rfl, ⟨Or.inr rfl, ⟨Or.inr rfl, ⟨Or.inr rfl, ⟨Or.inr rfl, ⟨Or.inr rfl, ⟨Or.inr rfl, ⟨Or.inr rfl, ⟨Or.inl rfl, ⟨Or.inl rfl, ⟨Or.inl rfl, ⟨Or.inl rfl, ⟨Or.inl rfl, ⟨Or.inl rfl, trivial⟩⟩⟩⟩⟩⟩⟩⟩⟩⟩⟩⟩⟩⟩⟩ ?_
                  exact hk _ (mfs_s (k := 558) (j := 2) (v := 1) f3 (by omega))
                · exfalso; omega
              · exfalso; omega
            · exfalso; omega
          · exfalso; omega
