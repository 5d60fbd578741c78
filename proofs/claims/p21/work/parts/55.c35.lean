theorem lm_emU0 {g : Launch × XG × va_G} {σ : YS} {Z : YZ} {I : Int → YZ} {M : YS} {N : Int} {m c i : Int}{most fd : Int}  (hx : mW σ Z I M) (hg : wG Z I M N) (hN : N < 100000) (hm : (0 ≤ m ∧ m ≤ 60) ∧ (0 ≤ c ∧ c < Z 0 0 0) ∧ -1 ≤ i) (hw : Z 0 1 0 = 0) (hf : 0 ≤ fd) : ∀ (nn : Nat) (τ : YS) (unit : Int) (k : Int), k + 1 < (nn : Int) → (((k = -1 ∧ unit = 1)) ∧ -1 ≤ k) → (mfs σ τ) → YW g 93 261 [some (2, 547), some (0, m), some (0, c), some (0, i), some (0, 0), some (0, 1), some (0, most), some (0, fd), some (0, unit), some (0, k), none, none, none, none, none] [] τ (fun rv σ' => ∃ b, rv = some (0, b) ∧ ((mW σ' Z I (if (0 ≤ m ∧ m ≤ 60) ∧ (0 ≤ c ∧ c < Z 0 0 0) ∧ -1 ≤ i then M else bump M 0)) ∧ cfr σ σ')) := by
  intro nn
  induction nn with
  | zero =>
    intro τ unit k hn h0 h1
    exfalso
    omega
  | succ nn ih =>
    intro τ unit k hn h0 h1
    refine y_iload rfl rfl ?_
    refine y_iload rfl rfl ?_
    refine y_icle rfl (fun q264 => ?_) (fun q264 => ?_)
    · skip
      refine y_iload rfl rfl ?_
      refine y_push rfl ?_
      refine y_icne rfl (fun q282 => ?_) (fun q282 => ?_)
      · skip
        refine y_iload rfl rfl ?_
        refine y_iload rfl rfl ?_
        refine y_icge rfl (fun q293 => ?_) (fun q293 => ?_)
        · skip
          refine y_push rfl ?_
          refine y_iret rfl rfl ⟨_, rfl, ?_⟩
          exact ⟨by rw [if_pos (by omega)]; exact mW_mfs hg hx h1, fun x y a => h1 x y (by omega)⟩
        · skip
          have fu : 0 ≤ fd / unit := Int.ediv_nonneg hf (by omega)
          refine y_iload rfl rfl ?_
          refine y_iload rfl rfl ?_
          refine y_idiv (v := (fd / unit)) rfl rfl (by omega) ?_
          refine y_iload rfl rfl ?_
          refine y_irem (v := ((fd / unit) % 0)) rfl rfl (by omega) ?_
          refine y_goto rfl ?_
          refine y_iret rfl rfl ⟨_, rfl, ?_⟩
          exact ⟨by rw [if_pos (by omega)]; exact mW_mfs hg hx h1, fun x y a => h1 x y (by omega)⟩
      · skip
        refine y_iload rfl rfl ?_
        refine y_goto rfl ?_
        refine y_iret rfl rfl ⟨_, rfl, ?_⟩
        exact ⟨by rw [if_pos (by omega)]; exact mW_mfs hg hx h1, fun x y a => h1 x y (by omega)⟩
    · skip
      refine y_iload rfl rfl ?_
      refine y_iload rfl rfl ?_
      refine y_imul (v := (unit * 0)) rfl rfl (by omega) ?_
      refine y_istore (L' := [some (2, 547), some (0, m), some (0, c), some (0, i), some (0, 0), some (0, 1), some (0, most), some (0, fd), some (0, (unit * 0)), some (0, k), none, none, none, none, none]) rfl rfl rfl rfl ?_
      refine y_iinc (L' := [some (2, 547), some (0, m), some (0, c), some (0, i), some (0, 0), some (0, 1), some (0, most), some (0, fd), some (0, (unit * 0)), some (0, (k + (-1))), none, none, none, none, none]) rfl rfl rfl rfl rfl (by omega) ?_
      refine y_goto rfl ?_
      exact ih τ _ (k + -1) (by omega) (by omega) h1
theorem lm_emK0 {g : Launch × XG × va_G} {σ : YS} {Z : YZ} {I : Int → YZ} {M : YS} {N : Int} {m c i : Int} {code most fd : Int} {nn0 : Nat} (ihO : ∀ (τ : YS) (code most fd : Int), 1 - code < (nn0 : Int) → (0 ≤ code ∧ code ≤ 1) → mfs σ τ → 0 ≤ fd → YW g 93 82 [some (2, 547), some (0, m), some (0, c), some (0, i), some (0, 0), some (0, 1), some (0, most), some (0, fd), some (0, code), none, none, none, none, none, none] [] τ (fun rv σ' => ∃ b, rv = some (0, b) ∧ ((mW σ' Z I (if (0 ≤ m ∧ m ≤ 60) ∧ (0 ≤ c ∧ c < Z 0 0 0) ∧ -1 ≤ i then M else bump M 0)) ∧ cfr σ σ'))) (hx : mW σ Z I M) (hg : wG Z I M N) (hN : N < 100000) (hm : (0 ≤ m ∧ m ≤ 60) ∧ (0 ≤ c ∧ c < Z 0 0 0) ∧ -1 ≤ i) (hw : Z 0 1 0 = 0) (hc : 0 ≤ code ∧ code < 1) (hf : 0 ≤ fd) (hnn : 1 - code < (nn0 : Int) + 1) : ∀ (nn : Nat) (τ : YS) (C : YS) (k : Int) (unit : Int) (out : Int), 0 - k < (nn : Int) → (((k = 0 ∧ unit = 1)) ∧ 0 ≤ k ∧ k ≤ 0) → (mfs σ τ) → (rm τ (Z 0) C) → (dG (Z 0) C) → (0 ≤ C 5 0 ∧ C 5 0 ≤ N + 60 * k) → YW g 93 107 [some (2, 547), some (0, m), some (0, c), some (0, i), some (0, 0), some (0, 1), some (0, most), some (0, fd), some (0, code), some (0, out), some (0, code), some (0, unit), some (0, k), none, none] [] τ (fun rv σ' => ∃ b, rv = some (0, b) ∧ ((mW σ' Z I (if (0 ≤ m ∧ m ≤ 60) ∧ (0 ≤ c ∧ c < Z 0 0 0) ∧ -1 ≤ i then M else bump M 0)) ∧ cfr σ σ')) := by
  intro nn
  induction nn with
  | zero =>
    intro τ C k unit out hn h0 h1 h2 h3 h4
    exfalso
    omega
  | succ nn ih =>
    intro τ C k unit out hn h0 h1 h2 h3 h4
    have e1 := hg.1.1.1
    have hn5 := hg.1.2.2.1
    refine y_iload rfl rfl ?_
    refine y_iload rfl rfl ?_
    refine y_icge rfl (fun q111 => ?_) (fun q111 => ?_)
    · skip
      refine y_iload rfl rfl ?_
      refine y_push rfl ?_
      refine y_iload rfl rfl ?_
      refine y_ishl (v := 1) rfl rfl ?_
      refine y_push rfl ?_
      refine y_isub (v := 0) rfl rfl (by decide) ?_
      refine y_icne rfl (fun q182 => ?_) (fun q182 => ?_)
      · skip
        refine y_push rfl ?_
        refine y_istore (L' := [some (2, 547), some (0, m), some (0, c), some (0, i), some (0, 0), some (0, 1), some (0, most), some (0, fd), some (0, code), some (0, out), some (0, code), some (0, unit), some (0, 0), none, none]) rfl rfl rfl rfl ?_
        refine y_iload rfl rfl ?_
        refine y_ifeq rfl (fun q194 => ?_) (fun q194 => ?_)
        · skip
          refine y_iload rfl rfl ?_
          refine y_istore (L' := [some (2, 547), some (0, m), some (0, c), some (0, i), some (0, 0), some (0, 1), some (0, most), some (0, fd), some (0, code), some (0, out), some (0, code), some (0, unit), some (0, 0), none, none]) rfl rfl rfl rfl ?_
          refine y_iload rfl rfl ?_
          refine y_ifeq rfl (fun q219 => ?_) (fun q219 => ?_)
          · skip
            refine y_iload rfl rfl ?_
            refine y_istore (L' := [some (2, 547), some (0, m), some (0, c), some (0, i), some (0, 0), some (0, 1), some (0, most), some (0, fd), some (0, code), some (0, out), some (0, code), some (0, unit), some (0, 0), none, none]) rfl rfl rfl rfl ?_
            refine y_iinc (L' := [some (2, 547), some (0, m), some (0, c), some (0, i), some (0, 0), some (0, 1), some (0, most), some (0, fd), some (0, (code + 1)), some (0, out), some (0, code), some (0, unit), some (0, 0), none, none]) rfl rfl rfl rfl rfl (by omega) ?_
            refine y_goto rfl ?_
            refine y_forget (M := [some (2, 547), some (0, m), some (0, c), some (0, i), some (0, 0), some (0, 1), some (0, most), some (0, fd), some (0, (code + 1)), none, none, none, none, none, none]) ⟨Or.inr rfl, Or.inr rfl, Or.inr rfl, Or.inr rfl, Or.inr rfl, Or.inr rfl, Or.inr rfl, Or.inr rfl, Or.inr rfl, Or.inl rfl, Or.inl rfl, Or.inl rfl, Or.inl rfl, Or.inl rfl, Or.inl rfl, trivial⟩ ?_
            exact ihO τ (code + 1) _ _ (by omega) (by omega) h1 (by omega)
          · exfalso; omega
        · exfalso; omega
      · skip
        refine y_push rfl ?_
        refine y_goto rfl ?_
        refine y_istore (L' := [some (2, 547), some (0, m), some (0, c), some (0, i), some (0, 0), some (0, 1), some (0, most), some (0, fd), some (0, code), some (0, out), some (0, code), some (0, unit), some (0, 1), none, none]) rfl rfl rfl rfl ?_
        refine y_iload rfl rfl ?_
        refine y_ifeq rfl (fun q194 => ?_) (fun q194 => ?_)
        · exfalso; omega
        · skip
          refine y_aload rfl rfl rfl ?_
          refine y_gfr (t := 554) rfl rfl (by decide) rfl (by decide) ?_
          refine y_iload rfl rfl ?_
          refine y_iald (v := (τ 554 c)) (n := 9) rfl rfl (by decide) rfl (by omega) rfl ?_
          refine y_iload rfl rfl ?_
          refine y_icle rfl (fun q205 => ?_) (fun q205 => ?_)
          · skip
            refine y_iload rfl rfl ?_
            refine y_istore (L' := [some (2, 547), some (0, m), some (0, c), some (0, i), some (0, 0), some (0, 1), some (0, most), some (0, fd), some (0, code), some (0, out), some (0, code), some (0, unit), some (0, 1), none, none]) rfl rfl rfl rfl ?_
            refine y_iload rfl rfl ?_
            refine y_ifeq rfl (fun q219 => ?_) (fun q219 => ?_)
            · exfalso; omega
            · skip
              refine y_aload rfl rfl rfl ?_
              refine y_gfr (t := 554) rfl rfl (by decide) rfl (by decide) ?_
              refine y_iload rfl rfl ?_
              refine y_iald (v := (τ 554 c)) (n := 9) rfl rfl (by decide) rfl (by omega) rfl ?_
              refine y_iload rfl rfl ?_
              refine y_icle rfl (fun q230 => ?_) (fun q230 => ?_)
              · skip
                refine y_iload rfl rfl ?_
                refine y_istore (L' := [some (2, 547), some (0, m), some (0, c), some (0, i), some (0, 0), some (0, 1), some (0, most), some (0, fd), some (0, code), some (0, out), some (0, code), some (0, unit), some (0, 1), none, none]) rfl rfl rfl rfl ?_
                refine y_iinc (L' := [some (2, 547), some (0, m), some (0, c), some (0, i), some (0, 0), some (0, 1), some (0, most), some (0, fd), some (0, (code + 1)), some (0, out), some (0, code), some (0, unit), some (0, 1), none, none]) rfl rfl rfl rfl rfl (by omega) ?_
                refine y_goto rfl ?_
                refine y_forget (M := [some (2, 547), some (0, m), some (0, c), some (0, i), some (0, 0), some (0, 1), some (0, most), some (0, fd), some (0, (code + 1)), none, none, none, none, none, none]) ⟨Or.inr rfl, Or.inr rfl, Or.inr rfl, Or.inr rfl, Or.inr rfl, Or.inr rfl, Or.inr rfl, Or.inr rfl, Or.inr rfl, Or.inl rfl, Or.inl rfl, Or.inl rfl, Or.inl rfl, Or.inl rfl, Or.inl rfl, trivial⟩ ?_
                exact ihO τ (code + 1) _ _ (by omega) (by omega) h1 (by omega)
              · skip
                refine y_aload rfl rfl rfl ?_
                refine y_gfr (t := 554) rfl rfl (by decide) rfl (by decide) ?_
                refine y_iload rfl rfl ?_
                refine y_iald (v := (τ 554 c)) (n := 9) rfl rfl (by decide) rfl (by omega) rfl ?_
                refine y_goto rfl ?_
                refine y_istore (L' := [some (2, 547), some (0, m), some (0, c), some (0, i), some (0, 0), some (0, 1), some (0, (τ 554 c)), some (0, fd), some (0, code), some (0, out), some (0, code), some (0, unit), some (0, 1), none, none]) rfl rfl rfl rfl ?_
                refine y_iinc (L' := [some (2, 547), some (0, m), some (0, c), some (0, i), some (0, 0), some (0, 1), some (0, (τ 554 c)), some (0, fd), some (0, (code + 1)), some (0, out), some (0, code), some (0, unit), some (0, 1), none, none]) rfl rfl rfl rfl rfl (by omega) ?_
                refine y_goto rfl ?_
                refine y_forget (M := [some (2, 547), some (0, m), some (0, c), some (0, i), some (0, 0), some (0, 1), some (0, (τ 554 c)), some (0, fd), some (0, (code + 1)), none, none, none, none, none, none]) ⟨Or.inr rfl, Or.inr rfl, Or.inr rfl, Or.inr rfl, Or.inr rfl, Or.inr rfl, Or.inr rfl, Or.inr rfl, Or.inr rfl, Or.inl rfl, Or.inl rfl, Or.inl rfl, Or.inl rfl, Or.inl rfl, Or.inl rfl, trivial⟩ ?_
                exact ihO τ (code + 1) _ _ (by omega) (by omega) h1 (by omega)
          · skip
            refine y_iload rfl rfl ?_
            refine y_goto rfl ?_
            refine y_istore (L' := [some (2, 547), some (0, m), some (0, c), some (0, i), some (0, 0), some (0, 1), some (0, most), some (0, code), some (0, code), some (0, out), some (0, code), some (0, unit), some (0, 1), none, none]) rfl rfl rfl rfl ?_
            refine y_iload rfl rfl ?_
            refine y_ifeq rfl (fun q219 => ?_) (fun q219 => ?_)
            · exfalso; omega
            · skip
              refine y_aload rfl rfl rfl ?_
              refine y_gfr (t := 554) rfl rfl (by decide) rfl (by decide) ?_
              refine y_iload rfl rfl ?_
              refine y_iald (v := (τ 554 c)) (n := 9) rfl rfl (by decide) rfl (by omega) rfl ?_
              refine y_iload rfl rfl ?_
              refine y_icle rfl (fun q230 => ?_) (fun q230 => ?_)
              · skip
                refine y_iload rfl rfl ?_
                refine y_istore (L' := [some (2, 547), some (0, m), some (0, c), some (0, i), some (0, 0), some (0, 1), some (0, most), some (0, code), some (0, code), some (0, out), some (0, code), some (0, unit), some (0, 1), none, none]) rfl rfl rfl rfl ?_
                refine y_iinc (L' := [some (2, 547), some (0, m), some (0, c), some (0, i), some (0, 0), some (0, 1), some (0, most), some (0, code), some (0, (code + 1)), some (0, out), some (0, code), some (0, unit), some (0, 1), none, none]) rfl rfl rfl rfl rfl (by omega) ?_
                refine y_goto rfl ?_
                refine y_forget (M := [some (2, 547), some (0, m), some (0, c), some (0, i), some (0, 0), some (0, 1), some (0, most), some (0, code), some (0, (code + 1)), none, none, none, none, none, none]) ⟨Or.inr rfl, Or.inr rfl, Or.inr rfl, Or.inr rfl, Or.inr rfl, Or.inr rfl, Or.inr rfl, Or.inr rfl, Or.inr rfl, Or.inl rfl, Or.inl rfl, Or.inl rfl, Or.inl rfl, Or.inl rfl, Or.inl rfl, trivial⟩ ?_
                exact ihO τ (code + 1) _ _ (by omega) (by omega) h1 (by omega)
              · skip
                refine y_aload rfl rfl rfl ?_
                refine y_gfr (t := 554) rfl rfl (by decide) rfl (by decide) ?_
                refine y_iload rfl rfl ?_
                refine y_iald (v := (τ 554 c)) (n := 9) rfl rfl (by decide) rfl (by omega) rfl ?_
                refine y_goto rfl ?_
                refine y_istore (L' := [some (2, 547), some (0, m), some (0, c), some (0, i), some (0, 0), some (0, 1), some (0, (τ 554 c)), some (0, code), some (0, code), some (0, out), some (0, code), some (0, unit), some (0, 1), none, none]) rfl rfl rfl rfl ?_
                refine y_iinc (L' := [some (2, 547), some (0, m), some (0, c), some (0, i), some (0, 0), some (0, 1), some (0, (τ 554 c)), some (0, code), some (0, (code + 1)), some (0, out), some (0, code), some (0, unit), some (0, 1), none, none]) rfl rfl rfl rfl rfl (by omega) ?_
                refine y_goto rfl ?_
                refine y_forget (M := [some (2, 547), some (0, m), some (0, c), some (0, i), some (0, 0), some (0, 1), some (0, (τ 554 c)), some (0, code), some (0, (code + 1)), none, none, none, none, none, none]) ⟨Or.inr rfl, Or.inr rfl, Or.inr rfl, Or.inr rfl, Or.inr rfl, Or.inr rfl, Or.inr rfl, Or.inr rfl, Or.inr rfl, Or.inl rfl, Or.inl rfl, Or.inl rfl, Or.inl rfl, Or.inl rfl, Or.inl rfl, trivial⟩ ?_
                exact ihO τ (code + 1) _ _ (by omega) (by omega) h1 (by omega)
    · skip
      refine y_iload rfl rfl ?_
      refine y_iload rfl rfl ?_
      refine y_idiv (v := (unit / 0)) rfl rfl (by omega) ?_
      refine y_istore (L' := [some (2, 547), some (0, m), some (0, c), some (0, i), some (0, 0), some (0, 1), some (0, most), some (0, fd), some (0, code), some (0, out), some (0, code), some (0, (unit / 0)), some (0, k), none, none]) rfl rfl rfl rfl ?_
      refine y_iload rfl rfl ?_
      refine y_iload rfl rfl ?_
      refine y_idiv (v := (code / (unit / 0))) rfl rfl (by omega) ?_
      refine y_iload rfl rfl ?_
      refine y_irem (v := ((code / (unit / 0)) % 0)) rfl rfl (by omega) ?_
      refine y_istore (L' := [some (2, 547), some (0, m), some (0, c), some (0, i), some (0, 0), some (0, 1), some (0, most), some (0, fd), some (0, code), some (0, out), some (0, code), some (0, (unit / 0)), some (0, k), some (0, ((code / (unit / 0)) % 0)), none]) rfl rfl rfl rfl ?_
      refine y_iload rfl rfl ?_
      refine y_push rfl ?_
      refine y_iload rfl rfl ?_
      refine y_ishl (v := (yshl 1 ((code / (unit / 0)) % 0))) rfl rfl ?_
      refine y_ior (v := (yor out (yshl 1 ((code / (unit / 0)) % 0)))) rfl rfl ?_
      refine y_istore (L' := [some (2, 547), some (0, m), some (0, c), some (0, i), some (0, 0), some (0, 1), some (0, most), some (0, fd), some (0, code), some (0, (yor out (yshl 1 ((code / (unit / 0)) % 0)))), some (0, code), some (0, (unit / 0)), some (0, k), some (0, ((code / (unit / 0)) % 0)), none]) rfl rfl rfl rfl ?_
      refine y_push rfl ?_
      refine y_istore (L' := [some (2, 547), some (0, m), some (0, c), some (0, i), some (0, 0), some (0, 1), some (0, most), some (0, fd), some (0, code), some (0, (yor out (yshl 1 ((code / (unit / 0)) % 0)))), some (0, code), some (0, (unit / 0)), some (0, k), some (0, ((code / (unit / 0)) % 0)), some (0, 0)]) rfl rfl rfl rfl ?_
      exfalso
      omega
theorem lm_emC0 {g : Launch × XG × va_G} {σ : YS} {Z : YZ} {I : Int → YZ} {M : YS} {N : Int} {m c i : Int} (hx : mW σ Z I M) (hg : wG Z I M N) (hN : N < 100000) (hm : (0 ≤ m ∧ m ≤ 60) ∧ (0 ≤ c ∧ c < Z 0 0 0) ∧ -1 ≤ i) (hw : Z 0 1 0 = 0) : ∀ (nn : Nat) (τ : YS) (code : Int) (most : Int) (fd : Int), 1 - code < (nn : Int) → (0 ≤ code ∧ code ≤ 1) → (mfs σ τ) → (0 ≤ fd) → YW g 93 82 [some (2, 547), some (0, m), some (0, c), some (0, i), some (0, 0), some (0, 1), some (0, most), some (0, fd), some (0, code), none, none, none, none, none, none] [] τ (fun rv σ' => ∃ b, rv = some (0, b) ∧ ((mW σ' Z I (if (0 ≤ m ∧ m ≤ 60) ∧ (0 ≤ c ∧ c < Z 0 0 0) ∧ -1 ≤ i then M else bump M 0)) ∧ cfr σ σ')) := by
  intro nn
  induction nn with
  | zero =>
    intro τ code most fd hn h0 h1 h2
    exfalso
    omega
  | succ nn ih =>
    intro τ code most fd hn h0 h1 h2
    have e1 := hg.1.1.1
    have hn5 := hg.1.2.2.1
    refine y_iload rfl rfl ?_
    refine y_iload rfl rfl ?_
    refine y_icge rfl (fun q86 => ?_) (fun q86 => ?_)
    · skip
      refine y_push rfl ?_
      refine y_istore (L' := [some (2, 547), some (0, m), some (0, c), some (0, i), some (0, 0), some (0, 1), some (0, most), some (0, fd), some (0, 1), none, none, none, none, none, none]) rfl rfl rfl rfl ?_
      refine y_iload rfl rfl ?_
      refine y_push rfl ?_
      refine y_isub (v := (-1)) rfl rfl (by decide) ?_
      refine y_istore (L' := [some (2, 547), some (0, m), some (0, c), some (0, i), some (0, 0), some (0, 1), some (0, most), some (0, fd), some (0, 1), some (0, (-1)), none, none, none, none, none]) rfl rfl rfl rfl ?_
      exact lm_emU0 hx hg hN hm hw h2 5 τ 1 (-1) (by omega) (by omega) h1
    · skip
      refine y_aload rfl rfl rfl ?_
      refine y_vu (as := [(2, 547)]) (S := []) rfl rfl rfl rfl rfl rfl (by decide) rfl (m_layNow (mzs_cong hg.1.1 hx.1.1 (fun y a b => h1 548 y (by omega))) hg.1.1 hg.1.2.1 hg.1.2.2.2.2.1.1) ?_
      rintro s1 ⟨l1, l2⟩
      refine y_push rfl ?_
      refine y_istore (L' := [some (2, 547), some (0, m), some (0, c), some (0, i), some (0, 0), some (0, 1), some (0, most), some (0, fd), some (0, code), some (0, 0), none, none, none, none, none]) rfl rfl rfl rfl ?_
      refine y_iload rfl rfl ?_
      refine y_istore (L' := [some (2, 547), some (0, m), some (0, c), some (0, i), some (0, 0), some (0, 1), some (0, most), some (0, fd), some (0, code), some (0, 0), some (0, code), none, none, none, none]) rfl rfl rfl rfl ?_
      refine y_iload rfl rfl ?_
      refine y_istore (L' := [some (2, 547), some (0, m), some (0, c), some (0, i), some (0, 0), some (0, 1), some (0, most), some (0, fd), some (0, code), some (0, 0), some (0, code), some (0, 1), none, none, none]) rfl rfl rfl rfl ?_
      refine y_push rfl ?_
      refine y_istore (L' := [some (2, 547), some (0, m), some (0, c), some (0, i), some (0, 0), some (0, 1), some (0, most), some (0, fd), some (0, code), some (0, 0), some (0, code), some (0, 1), some (0, 0), none, none]) rfl rfl rfl rfl ?_
      exact lm_emK0 (nn0 := nn) (fun τ code most fd => ih τ code most fd) hx hg hN hm hw (by omega) h2 (by omega) 1 s1 (Z 1) 0 1 0 (by omega) (by omega) (mfs_t h1 l2) l1 hg.1.2.1 (by omega)
theorem lm_emU1 {g : Launch × XG × va_G} {σ : YS} {Z : YZ} {I : Int → YZ} {M : YS} {N : Int} {m c i : Int}{most fd : Int}  (hx : mW σ Z I M) (hg : wG Z I M N) (hN : N < 100000) (hm : (0 ≤ m ∧ m ≤ 60) ∧ (0 ≤ c ∧ c < Z 0 0 0) ∧ -1 ≤ i) (hw : Z 0 1 0 = 1) (hf : 0 ≤ fd) : ∀ (nn : Nat) (τ : YS) (unit : Int) (k : Int), k + 1 < (nn : Int) → (((k = 0 ∧ unit = 1) ∨ (k = -1 ∧ unit = 1)) ∧ -1 ≤ k) → (mfs σ τ) → YW g 93 261 [some (2, 547), some (0, m), some (0, c), some (0, i), some (0, 1), some (0, 1), some (0, most), some (0, fd), some (0, unit), some (0, k), none, none, none, none, none] [] τ (fun rv σ' => ∃ b, rv = some (0, b) ∧ ((mW σ' Z I (if (0 ≤ m ∧ m ≤ 60) ∧ (0 ≤ c ∧ c < Z 0 0 0) ∧ -1 ≤ i then M else bump M 0)) ∧ cfr σ σ')) := by
  intro nn
  induction nn with
  | zero =>
    intro τ unit k hn h0 h1
    exfalso
    omega
  | succ nn ih =>
    intro τ unit k hn h0 h1
    refine y_iload rfl rfl ?_
    refine y_iload rfl rfl ?_
    refine y_icle rfl (fun q264 => ?_) (fun q264 => ?_)
    · skip
      refine y_iload rfl rfl ?_
      refine y_push rfl ?_
      refine y_icne rfl (fun q282 => ?_) (fun q282 => ?_)
      · skip
        refine y_iload rfl rfl ?_
        refine y_iload rfl rfl ?_
        refine y_icge rfl (fun q293 => ?_) (fun q293 => ?_)
        · skip
          refine y_push rfl ?_
          refine y_iret rfl rfl ⟨_, rfl, ?_⟩
          exact ⟨by rw [if_pos (by omega)]; exact mW_mfs hg hx h1, fun x y a => h1 x y (by omega)⟩
        · skip
          have fu : 0 ≤ fd / unit := Int.ediv_nonneg hf (by omega)
          refine y_iload rfl rfl ?_
          refine y_iload rfl rfl ?_
          refine y_idiv (v := (fd / unit)) rfl rfl (by omega) ?_
          refine y_iload rfl rfl ?_
          refine y_irem (v := ((fd / unit) % 1)) rfl rfl (by omega) ?_
          refine y_goto rfl ?_
          refine y_iret rfl rfl ⟨_, rfl, ?_⟩
          exact ⟨by rw [if_pos (by omega)]; exact mW_mfs hg hx h1, fun x y a => h1 x y (by omega)⟩
      · skip
        refine y_iload rfl rfl ?_
        refine y_goto rfl ?_
        refine y_iret rfl rfl ⟨_, rfl, ?_⟩
        exact ⟨by rw [if_pos (by omega)]; exact mW_mfs hg hx h1, fun x y a => h1 x y (by omega)⟩
    · skip
      refine y_iload rfl rfl ?_
      refine y_iload rfl rfl ?_
      refine y_imul (v := (unit * 1)) rfl rfl (by omega) ?_
      refine y_istore (L' := [some (2, 547), some (0, m), some (0, c), some (0, i), some (0, 1), some (0, 1), some (0, most), some (0, fd), some (0, (unit * 1)), some (0, k), none, none, none, none, none]) rfl rfl rfl rfl ?_
      refine y_iinc (L' := [some (2, 547), some (0, m), some (0, c), some (0, i), some (0, 1), some (0, 1), some (0, most), some (0, fd), some (0, (unit * 1)), some (0, (k + (-1))), none, none, none, none, none]) rfl rfl rfl rfl rfl (by omega) ?_
      refine y_goto rfl ?_
      exact ih τ _ (k + -1) (by omega) (by omega) h1
theorem lm_emT1 {g : Launch × XG × va_G} {σ : YS} {Z : YZ} {I : Int → YZ} {M : YS} {N : Int} {m c i : Int}{code most fd : Int} {q unit k out : Int} {C : YS} {nn1 : Nat} (ihK : ∀ (τ : YS) (C : YS) (k unit out : Int), 1 - k < (nn1 : Int) → (((k = 0 ∧ unit = 1) ∨ (k = 1 ∧ unit = 1)) ∧ 0 ≤ k ∧ k ≤ 1) → mfs σ τ → rm τ (Z 0) C → dG (Z 0) C → (0 ≤ C 5 0 ∧ C 5 0 ≤ N + 60 * k) → YW g 93 107 [some (2, 547), some (0, m), some (0, c), some (0, i), some (0, 1), some (0, 1), some (0, most), some (0, fd), some (0, code), some (0, out), some (0, code), some (0, unit), some (0, k), none, none] [] τ (fun rv σ' => ∃ b, rv = some (0, b) ∧ ((mW σ' Z I (if (0 ≤ m ∧ m ≤ 60) ∧ (0 ≤ c ∧ c < Z 0 0 0) ∧ -1 ≤ i then M else bump M 0)) ∧ cfr σ σ'))) (hx : mW σ Z I M) (hg : wG Z I M N) (hN : N < 100000) (hm : (0 ≤ m ∧ m ≤ 60) ∧ (0 ≤ c ∧ c < Z 0 0 0) ∧ -1 ≤ i) (hw : Z 0 1 0 = 1) (hc : 0 ≤ code ∧ code < 1) (hf : 0 ≤ fd) (hk : ((k = 0 ∧ unit = 1)) ∧ 0 ≤ k ∧ k ≤ 1) (hkn : 1 - k < (nn1 : Int) + 1) (hq : 0 ≤ q ∧ q < 1) (hkw : k < 1) (hd2 : dG (Z 0) C) (h5 : 0 ≤ C 5 0 ∧ C 5 0 ≤ N + 60 * k) : ∀ (nn : Nat) (τ : YS) (t : Int), m - t < (nn : Int) → (0 ≤ t ∧ t ≤ m) → (mfs σ τ) → (rm τ (Z 0) (msteps (Z 0) C t.toNat)) → YW g 93 143 [some (2, 547), some (0, m), some (0, c), some (0, i), some (0, 1), some (0, 1), some (0, most), some (0, fd), some (0, code), some (0, out), some (0, code), some (0, unit), some (0, k), some (0, q), some (0, t)] [] τ (fun rv σ' => ∃ b, rv = some (0, b) ∧ ((mW σ' Z I (if (0 ≤ m ∧ m ≤ 60) ∧ (0 ≤ c ∧ c < Z 0 0 0) ∧ -1 ≤ i then M else bump M 0)) ∧ cfr σ σ')) := by
  intro nn
  induction nn with
  | zero =>
    intro τ t hn h0 h1 h2
    exfalso
    omega
  | succ nn ih =>
    intro τ t hn h0 h1 h2
    refine y_iload rfl rfl ?_
    refine y_iload rfl rfl ?_
    refine y_icge rfl (fun q146 => ?_) (fun q146 => ?_)
    · skip
      refine y_aload rfl rfl rfl ?_
      refine y_gfr (t := 558) rfl rfl (by decide) rfl (by decide) ?_
      refine y_iload rfl rfl ?_
      refine y_push rfl ?_
      refine y_iast (n := 3) rfl rfl (by decide) rfl (by omega) ?_
      refine y_iinc (L' := [some (2, 547), some (0, m), some (0, c), some (0, i), some (0, 1), some (0, 1), some (0, most), some (0, fd), some (0, code), some (0, out), some (0, code), some (0, unit), some (0, (k + 1)), some (0, q), some (0, t)]) rfl rfl rfl rfl rfl (by omega) ?_
      refine y_goto rfl ?_
      refine y_forget (M := [some (2, 547), some (0, m), some (0, c), some (0, i), some (0, 1), some (0, 1), some (0, most), some (0, fd), some (0, code), some (0, out), some (0, code), some (0, unit), some (0, (k + 1)), none, none]) ⟨Or.inr rfl, Or.inr rfl, Or.inr rfl, Or.inr rfl, Or.inr rfl, Or.inr rfl, Or.inr rfl, Or.inr rfl, Or.inr rfl, Or.inr rfl, Or.inr rfl, Or.inr rfl, Or.inr rfl, Or.inl rfl, Or.inl rfl, trivial⟩ ?_
      refine ihK (yset τ 558 q 1) (yset (msteps (Z 0) C t.toNat) 4 q 1) (k + 1) unit out (by omega) (by omega) (mfs_s h1 (by omega)) (rm_m h2 (by omega) (by omega)) (dG_m (dG_steps hd2 hg.1.1 _) (by omega) (Or.inr (Or.inr (Or.inr (Or.inl ⟨rfl, rfl⟩))))) ?_
      rw [yne (by omega) rfl, msteps_5]
      omega
    · skip
      refine y_aload rfl rfl rfl ?_
      refine y_vi (as := [(2, 547)]) (S := []) rfl rfl rfl rfl rfl rfl (by decide) rfl (m_goStep h2 hg.1.1 (dG_steps hd2 hg.1.1 _) (by rw [msteps_5]; omega)) ?_
      rintro _ s1 ⟨y1, rfl, y2⟩
      refine y_pop rfl rfl ?_
      refine y_iinc (L' := [some (2, 547), some (0, m), some (0, c), some (0, i), some (0, 1), some (0, 1), some (0, most), some (0, fd), some (0, code), some (0, out), some (0, code), some (0, unit), some (0, k), some (0, q), some (0, (t + 1))]) rfl rfl rfl rfl rfl (by omega) ?_
      refine y_goto rfl ?_
      exact ih s1 (t + 1) (by omega) (by omega) (mfs_t h1 (rfr_m y2)) (by rw [show (t + 1).toNat = t.toNat + 1 by omega]; exact y1)
theorem lm_emK1 {g : Launch × XG × va_G} {σ : YS} {Z : YZ} {I : Int → YZ} {M : YS} {N : Int} {m c i : Int} {code most fd : Int} {nn0 : Nat} (ihO : ∀ (τ : YS) (code most fd : Int), 1 - code < (nn0 : Int) → (0 ≤ code ∧ code ≤ 1) → mfs σ τ → 0 ≤ fd → YW g 93 82 [some (2, 547), some (0, m), some (0, c), some (0, i), some (0, 1), some (0, 1), some (0, most), some (0, fd), some (0, code), none, none, none, none, none, none] [] τ (fun rv σ' => ∃ b, rv = some (0, b) ∧ ((mW σ' Z I (if (0 ≤ m ∧ m ≤ 60) ∧ (0 ≤ c ∧ c < Z 0 0 0) ∧ -1 ≤ i then M else bump M 0)) ∧ cfr σ σ'))) (hx : mW σ Z I M) (hg : wG Z I M N) (hN : N < 100000) (hm : (0 ≤ m ∧ m ≤ 60) ∧ (0 ≤ c ∧ c < Z 0 0 0) ∧ -1 ≤ i) (hw : Z 0 1 0 = 1) (hc : 0 ≤ code ∧ code < 1) (hf : 0 ≤ fd) (hnn : 1 - code < (nn0 : Int) + 1) : ∀ (nn : Nat) (τ : YS) (C : YS) (k : Int) (unit : Int) (out : Int), 1 - k < (nn : Int) → (((k = 0 ∧ unit = 1) ∨ (k = 1 ∧ unit = 1)) ∧ 0 ≤ k ∧ k ≤ 1) → (mfs σ τ) → (rm τ (Z 0) C) → (dG (Z 0) C) → (0 ≤ C 5 0 ∧ C 5 0 ≤ N + 60 * k) → YW g 93 107 [some (2, 547), some (0, m), some (0, c), some (0, i), some (0, 1), some (0, 1), some (0, most), some (0, fd), some (0, code), some (0, out), some (0, code), some (0, unit), some (0, k), none, none] [] τ (fun rv σ' => ∃ b, rv = some (0, b) ∧ ((mW σ' Z I (if (0 ≤ m ∧ m ≤ 60) ∧ (0 ≤ c ∧ c < Z 0 0 0) ∧ -1 ≤ i then M else bump M 0)) ∧ cfr σ σ')) := by
  intro nn
  induction nn with
  | zero =>
    intro τ C k unit out hn h0 h1 h2 h3 h4
    exfalso
    omega
  | succ nn ih =>
    intro τ C k unit out hn h0 h1 h2 h3 h4
    have e1 := hg.1.1.1
    have hn5 := hg.1.2.2.1
    refine y_iload rfl rfl ?_
    refine y_iload rfl rfl ?_
    refine y_icge rfl (fun q111 => ?_) (fun q111 => ?_)
    · skip
      refine y_iload rfl rfl ?_
      refine y_push rfl ?_
      refine y_iload rfl rfl ?_
      refine y_ishl (v := 2) rfl rfl ?_
      refine y_push rfl ?_
      refine y_isub (v := 1) rfl rfl (by decide) ?_
      refine y_icne rfl (fun q182 => ?_) (fun q182 => ?_)
      · skip
        refine y_push rfl ?_
        refine y_istore (L' := [some (2, 547), some (0, m), some (0, c), some (0, i), some (0, 1), some (0, 1), some (0, most), some (0, fd), some (0, code), some (0, out), some (0, code), some (0, unit), some (0, 0), none, none]) rfl rfl rfl rfl ?_
        refine y_iload rfl rfl ?_
        refine y_ifeq rfl (fun q194 => ?_) (fun q194 => ?_)
        · skip
          refine y_iload rfl rfl ?_
          refine y_istore (L' := [some (2, 547), some (0, m), some (0, c), some (0, i), some (0, 1), some (0, 1), some (0, most), some (0, fd), some (0, code), some (0, out), some (0, code), some (0, unit), some (0, 0), none, none]) rfl rfl rfl rfl ?_
          refine y_iload rfl rfl ?_
          refine y_ifeq rfl (fun q219 => ?_) (fun q219 => ?_)
          · skip
            refine y_iload rfl rfl ?_
            refine y_istore (L' := [some (2, 547), some (0, m), some (0, c), some (0, i), some (0, 1), some (0, 1), some (0, most), some (0, fd), some (0, code), some (0, out), some (0, code), some (0, unit), some (0, 0), none, none]) rfl rfl rfl rfl ?_
            refine y_iinc (L' := [some (2, 547), some (0, m), some (0, c), some (0, i), some (0, 1), some (0, 1), some (0, most), some (0, fd), some (0, (code + 1)), some (0, out), some (0, code), some (0, unit), some (0, 0), none, none]) rfl rfl rfl rfl rfl (by omega) ?_
            refine y_goto rfl ?_
            refine y_forget (M := [some (2, 547), some (0, m), some (0, c), some (0, i), some (0, 1), some (0, 1), some (0, most), some (0, fd), some (0, (code + 1)), none, none, none, none, none, none]) ⟨Or.inr rfl, Or.inr rfl, Or.inr rfl, Or.inr rfl, Or.inr rfl, Or.inr rfl, Or.inr rfl, Or.inr rfl, Or.inr rfl, Or.inl rfl, Or.inl rfl, Or.inl rfl, Or.inl rfl, Or.inl rfl, Or.inl rfl, trivial⟩ ?_
            exact ihO τ (code + 1) _ _ (by omega) (by omega) h1 (by omega)
          · exfalso; omega
        · exfalso; omega
      · skip
        refine y_push rfl ?_
        refine y_goto rfl ?_
        refine y_istore (L' := [some (2, 547), some (0, m), some (0, c), some (0, i), some (0, 1), some (0, 1), some (0, most), some (0, fd), some (0, code), some (0, out), some (0, code), some (0, unit), some (0, 1), none, none]) rfl rfl rfl rfl ?_
        refine y_iload rfl rfl ?_
        refine y_ifeq rfl (fun q194 => ?_) (fun q194 => ?_)
        · exfalso; omega
        · skip
          refine y_aload rfl rfl rfl ?_
          refine y_gfr (t := 554) rfl rfl (by decide) rfl (by decide) ?_
          refine y_iload rfl rfl ?_
          refine y_iald (v := (τ 554 c)) (n := 9) rfl rfl (by decide) rfl (by omega) rfl ?_
          refine y_iload rfl rfl ?_
          refine y_icle rfl (fun q205 => ?_) (fun q205 => ?_)
          · skip
            refine y_iload rfl rfl ?_
            refine y_istore (L' := [some (2, 547), some (0, m), some (0, c), some (0, i), some (0, 1), some (0, 1), some (0, most), some (0, fd), some (0, code), some (0, out), some (0, code), some (0, unit), some (0, 1), none, none]) rfl rfl rfl rfl ?_
            refine y_iload rfl rfl ?_
            refine y_ifeq rfl (fun q219 => ?_) (fun q219 => ?_)
            · exfalso; omega
            · skip
              refine y_aload rfl rfl rfl ?_
              refine y_gfr (t := 554) rfl rfl (by decide) rfl (by decide) ?_
              refine y_iload rfl rfl ?_
              refine y_iald (v := (τ 554 c)) (n := 9) rfl rfl (by decide) rfl (by omega) rfl ?_
              refine y_iload rfl rfl ?_
              refine y_icle rfl (fun q230 => ?_) (fun q230 => ?_)
              · skip
                refine y_iload rfl rfl ?_
                refine y_istore (L' := [some (2, 547), some (0, m), some (0, c), some (0, i), some (0, 1), some (0, 1), some (0, most), some (0, fd), some (0, code), some (0, out), some (0, code), some (0, unit), some (0, 1), none, none]) rfl rfl rfl rfl ?_
                refine y_iinc (L' := [some (2, 547), some (0, m), some (0, c), some (0, i), some (0, 1), some (0, 1), some (0, most), some (0, fd), some (0, (code + 1)), some (0, out), some (0, code), some (0, unit), some (0, 1), none, none]) rfl rfl rfl rfl rfl (by omega) ?_
                refine y_goto rfl ?_
                refine y_forget (M := [some (2, 547), some (0, m), some (0, c), some (0, i), some (0, 1), some (0, 1), some (0, most), some (0, fd), some (0, (code + 1)), none, none, none, none, none, none]) ⟨Or.inr rfl, Or.inr rfl, Or.inr rfl, Or.inr rfl, Or.inr rfl, Or.inr rfl, Or.inr rfl, Or.inr rfl, Or.inr rfl, Or.inl rfl, Or.inl rfl, Or.inl rfl, Or.inl rfl, Or.inl rfl, Or.inl rfl, trivial⟩ ?_
                exact ihO τ (code + 1) _ _ (by omega) (by omega) h1 (by omega)
              · skip
                refine y_aload rfl rfl rfl ?_
                refine y_gfr (t := 554) rfl rfl (by decide) rfl (by decide) ?_
                refine y_iload rfl rfl ?_
                refine y_iald (v := (τ 554 c)) (n := 9) rfl rfl (by decide) rfl (by omega) rfl ?_
                refine y_goto rfl ?_
                refine y_istore (L' := [some (2, 547), some (0, m), some (0, c), some (0, i), some (0, 1), some (0, 1), some (0, (τ 554 c)), some (0, fd), some (0, code), some (0, out), some (0, code), some (0, unit), some (0, 1), none, none]) rfl rfl rfl rfl ?_
                refine y_iinc (L' := [some (2, 547), some (0, m), some (0, c), some (0, i), some (0, 1), some (0, 1), some (0, (τ 554 c)), some (0, fd), some (0, (code + 1)), some (0, out), some (0, code), some (0, unit), some (0, 1), none, none]) rfl rfl rfl rfl rfl (by omega) ?_
                refine y_goto rfl ?_
                refine y_forget (M := [some (2, 547), some (0, m), some (0, c), some (0, i), some (0, 1), some (0, 1), some (0, (τ 554 c)), some (0, fd), some (0, (code + 1)), none, none, none, none, none, none]) ⟨Or.inr rfl, Or.inr rfl, Or.inr rfl, Or.inr rfl, Or.inr rfl, Or.inr rfl, Or.inr rfl, Or.inr rfl, Or.inr rfl, Or.inl rfl, Or.inl rfl, Or.inl rfl, Or.inl rfl, Or.inl rfl, Or.inl rfl, trivial⟩ ?_
                exact ihO τ (code + 1) _ _ (by omega) (by omega) h1 (by omega)
          · skip
            refine y_iload rfl rfl ?_
            refine y_goto rfl ?_
            refine y_istore (L' := [some (2, 547), some (0, m), some (0, c), some (0, i), some (0, 1), some (0, 1), some (0, most), some (0, code), some (0, code), some (0, out), some (0, code), some (0, unit), some (0, 1), none, none]) rfl rfl rfl rfl ?_
            refine y_iload rfl rfl ?_
            refine y_ifeq rfl (fun q219 => ?_) (fun q219 => ?_)
            · exfalso; omega
            · skip
              refine y_aload rfl rfl rfl ?_
              refine y_gfr (t := 554) rfl rfl (by decide) rfl (by decide) ?_
              refine y_iload rfl rfl ?_
              refine y_iald (v := (τ 554 c)) (n := 9) rfl rfl (by decide) rfl (by omega) rfl ?_
              refine y_iload rfl rfl ?_
              refine y_icle rfl (fun q230 => ?_) (fun q230 => ?_)
              · skip
                refine y_iload rfl rfl ?_
                refine y_istore (L' := [some (2, 547), some (0, m), some (0, c), some (0, i), some (0, 1), some (0, 1), some (0, most), some (0, code), some (0, code), some (0, out), some (0, code), some (0, unit), some (0, 1), none, none]) rfl rfl rfl rfl ?_
                refine y_iinc (L' := [some (2, 547), some (0, m), some (0, c), some (0, i), some (0, 1), some (0, 1), some (0, most), some (0, code), some (0, (code + 1)), some (0, out), some (0, code), some (0, unit), some (0, 1), none, none]) rfl rfl rfl rfl rfl (by omega) ?_
                refine y_goto rfl ?_
                refine y_forget (M := [some (2, 547), some (0, m), some (0, c), some (0, i), some (0, 1), some (0, 1), some (0, most), some (0, code), some (0, (code + 1)), none, none, none, none, none, none]) ⟨Or.inr rfl, Or.inr rfl, Or.inr rfl, Or.inr rfl, Or.inr rfl, Or.inr rfl, Or.inr rfl, Or.inr rfl, Or.inr rfl, Or.inl rfl, Or.inl rfl, Or.inl rfl, Or.inl rfl, Or.inl rfl, Or.inl rfl, trivial⟩ ?_
                exact ihO τ (code + 1) _ _ (by omega) (by omega) h1 (by omega)
              · skip
                refine y_aload rfl rfl rfl ?_
                refine y_gfr (t := 554) rfl rfl (by decide) rfl (by decide) ?_
                refine y_iload rfl rfl ?_
                refine y_iald (v := (τ 554 c)) (n := 9) rfl rfl (by decide) rfl (by omega) rfl ?_
                refine y_goto rfl ?_
                refine y_istore (L' := [some (2, 547), some (0, m), some (0, c), some (0, i), some (0, 1), some (0, 1), some (0, (τ 554 c)), some (0, code), some (0, code), some (0, out), some (0, code), some (0, unit), some (0, 1), none, none]) rfl rfl rfl rfl ?_
                refine y_iinc (L' := [some (2, 547), some (0, m), some (0, c), some (0, i), some (0, 1), some (0, 1), some (0, (τ 554 c)), some (0, code), some (0, (code + 1)), some (0, out), some (0, code), some (0, unit), some (0, 1), none, none]) rfl rfl rfl rfl rfl (by omega) ?_
                refine y_goto rfl ?_
                refine y_forget (M := [some (2, 547), some (0, m), some (0, c), some (0, i), some (0, 1), some (0, 1), some (0, (τ 554 c)), some (0, code), some (0, (code + 1)), none, none, none, none, none, none]) ⟨Or.inr rfl, Or.inr rfl, Or.inr rfl, Or.inr rfl, Or.inr rfl, Or.inr rfl, Or.inr rfl, Or.inr rfl, Or.inr rfl, Or.inl rfl, Or.inl rfl, Or.inl rfl, Or.inl rfl, Or.inl rfl, Or.inl rfl, trivial⟩ ?_
                exact ihO τ (code + 1) _ _ (by omega) (by omega) h1 (by omega)
    · skip
      refine y_iload rfl rfl ?_
      refine y_iload rfl rfl ?_
      refine y_idiv (v := (unit / 1)) rfl rfl (by omega) ?_
      refine y_istore (L' := [some (2, 547), some (0, m), some (0, c), some (0, i), some (0, 1), some (0, 1), some (0, most), some (0, fd), some (0, code), some (0, out), some (0, code), some (0, (unit / 1)), some (0, k), none, none]) rfl rfl rfl rfl ?_
      refine y_iload rfl rfl ?_
      refine y_iload rfl rfl ?_
      have dq : 0 ≤ code / (unit / 1) := Int.ediv_nonneg hc.1 (by omega)
      refine y_idiv (v := (code / (unit / 1))) rfl rfl (by omega) ?_
      refine y_iload rfl rfl ?_
      refine y_irem (v := ((code / (unit / 1)) % 1)) rfl rfl (by omega) ?_
      refine y_istore (L' := [some (2, 547), some (0, m), some (0, c), some (0, i), some (0, 1), some (0, 1), some (0, most), some (0, fd), some (0, code), some (0, out), some (0, code), some (0, (unit / 1)), some (0, k), some (0, ((code / (unit / 1)) % 1)), none]) rfl rfl rfl rfl ?_
      refine y_iload rfl rfl ?_
      refine y_push rfl ?_
      refine y_iload rfl rfl ?_
      refine y_ishl (v := (yshl 1 ((code / (unit / 1)) % 1))) rfl rfl ?_
      refine y_ior (v := (yor out (yshl 1 ((code / (unit / 1)) % 1)))) rfl rfl ?_
      refine y_istore (L' := [some (2, 547), some (0, m), some (0, c), some (0, i), some (0, 1), some (0, 1), some (0, most), some (0, fd), some (0, code), some (0, (yor out (yshl 1 ((code / (unit / 1)) % 1)))), some (0, code), some (0, (unit / 1)), some (0, k), some (0, ((code / (unit / 1)) % 1)), none]) rfl rfl rfl rfl ?_
      refine y_push rfl ?_
      refine y_istore (L' := [some (2, 547), some (0, m), some (0, c), some (0, i), some (0, 1), some (0, 1), some (0, most), some (0, fd), some (0, code), some (0, (yor out (yshl 1 ((code / (unit / 1)) % 1)))), some (0, code), some (0, (unit / 1)), some (0, k), some (0, ((code / (unit / 1)) % 1)), some (0, 0)]) rfl rfl rfl rfl ?_
      exact lm_emT1 (q := ((code / (unit / 1)) % 1)) (unit := (unit / 1)) (k := k) (out := (yor out (yshl 1 ((code / (unit / 1)) % 1)))) (C := C) (nn1 := nn) (fun τ C k unit out => ih τ C k unit out) hx hg hN hm hw hc hf (by omega) (by omega) (by omega) (by omega) h3 h4 61 τ 0 (by omega) (by omega) h1 h2
theorem lm_emC1 {g : Launch × XG × va_G} {σ : YS} {Z : YZ} {I : Int → YZ} {M : YS} {N : Int} {m c i : Int} (hx : mW σ Z I M) (hg : wG Z I M N) (hN : N < 100000) (hm : (0 ≤ m ∧ m ≤ 60) ∧ (0 ≤ c ∧ c < Z 0 0 0) ∧ -1 ≤ i) (hw : Z 0 1 0 = 1) : ∀ (nn : Nat) (τ : YS) (code : Int) (most : Int) (fd : Int), 1 - code < (nn : Int) → (0 ≤ code ∧ code ≤ 1) → (mfs σ τ) → (0 ≤ fd) → YW g 93 82 [some (2, 547), some (0, m), some (0, c), some (0, i), some (0, 1), some (0, 1), some (0, most), some (0, fd), some (0, code), none, none, none, none, none, none] [] τ (fun rv σ' => ∃ b, rv = some (0, b) ∧ ((mW σ' Z I (if (0 ≤ m ∧ m ≤ 60) ∧ (0 ≤ c ∧ c < Z 0 0 0) ∧ -1 ≤ i then M else bump M 0)) ∧ cfr σ σ')) := by
  intro nn
  induction nn with
  | zero =>
    intro τ code most fd hn h0 h1 h2
    exfalso
    omega
  | succ nn ih =>
    intro τ code most fd hn h0 h1 h2
    have e1 := hg.1.1.1
    have hn5 := hg.1.2.2.1
    refine y_iload rfl rfl ?_
    refine y_iload rfl rfl ?_
    refine y_icge rfl (fun q86 => ?_) (fun q86 => ?_)
    · skip
      refine y_push rfl ?_
      refine y_istore (L' := [some (2, 547), some (0, m), some (0, c), some (0, i), some (0, 1), some (0, 1), some (0, most), some (0, fd), some (0, 1), none, none, none, none, none, none]) rfl rfl rfl rfl ?_
      refine y_iload rfl rfl ?_
      refine y_push rfl ?_
      refine y_isub (v := 0) rfl rfl (by decide) ?_
      refine y_istore (L' := [some (2, 547), some (0, m), some (0, c), some (0, i), some (0, 1), some (0, 1), some (0, most), some (0, fd), some (0, 1), some (0, 0), none, none, none, none, none]) rfl rfl rfl rfl ?_
      exact lm_emU1 hx hg hN hm hw h2 5 τ 1 0 (by omega) (by omega) h1
    · skip
      refine y_aload rfl rfl rfl ?_
      refine y_vu (as := [(2, 547)]) (S := []) rfl rfl rfl rfl rfl rfl (by decide) rfl (m_layNow (mzs_cong hg.1.1 hx.1.1 (fun y a b => h1 548 y (by omega))) hg.1.1 hg.1.2.1 hg.1.2.2.2.2.1.1) ?_
      rintro s1 ⟨l1, l2⟩
      refine y_push rfl ?_
      refine y_istore (L' := [some (2, 547), some (0, m), some (0, c), some (0, i), some (0, 1), some (0, 1), some (0, most), some (0, fd), some (0, code), some (0, 0), none, none, none, none, none]) rfl rfl rfl rfl ?_
      refine y_iload rfl rfl ?_
      refine y_istore (L' := [some (2, 547), some (0, m), some (0, c), some (0, i), some (0, 1), some (0, 1), some (0, most), some (0, fd), some (0, code), some (0, 0), some (0, code), none, none, none, none]) rfl rfl rfl rfl ?_
      refine y_iload rfl rfl ?_
      refine y_istore (L' := [some (2, 547), some (0, m), some (0, c), some (0, i), some (0, 1), some (0, 1), some (0, most), some (0, fd), some (0, code), some (0, 0), some (0, code), some (0, 1), none, none, none]) rfl rfl rfl rfl ?_
      refine y_push rfl ?_
      refine y_istore (L' := [some (2, 547), some (0, m), some (0, c), some (0, i), some (0, 1), some (0, 1), some (0, most), some (0, fd), some (0, code), some (0, 0), some (0, code), some (0, 1), some (0, 0), none, none]) rfl rfl rfl rfl ?_
      exact lm_emK1 (nn0 := nn) (fun τ code most fd => ih τ code most fd) hx hg hN hm hw (by omega) h2 (by omega) 2 s1 (Z 1) 0 1 0 (by omega) (by omega) (mfs_t h1 l2) l1 hg.1.2.1 (by omega)
theorem lm_emU2 {g : Launch × XG × va_G} {σ : YS} {Z : YZ} {I : Int → YZ} {M : YS} {N : Int} {m c i : Int}{most fd : Int}  (hx : mW σ Z I M) (hg : wG Z I M N) (hN : N < 100000) (hm : (0 ≤ m ∧ m ≤ 60) ∧ (0 ≤ c ∧ c < Z 0 0 0) ∧ -1 ≤ i) (hw : Z 0 1 0 = 2) (hf : 0 ≤ fd) : ∀ (nn : Nat) (τ : YS) (unit : Int) (k : Int), k + 1 < (nn : Int) → (((k = 1 ∧ unit = 1) ∨ (k = 0 ∧ unit = 2) ∨ (k = -1 ∧ unit = 4)) ∧ -1 ≤ k) → (mfs σ τ) → YW g 93 261 [some (2, 547), some (0, m), some (0, c), some (0, i), some (0, 2), some (0, 4), some (0, most), some (0, fd), some (0, unit), some (0, k), none, none, none, none, none] [] τ (fun rv σ' => ∃ b, rv = some (0, b) ∧ ((mW σ' Z I (if (0 ≤ m ∧ m ≤ 60) ∧ (0 ≤ c ∧ c < Z 0 0 0) ∧ -1 ≤ i then M else bump M 0)) ∧ cfr σ σ')) := by
  intro nn
  induction nn with
  | zero =>
    intro τ unit k hn h0 h1
    exfalso
    omega
  | succ nn ih =>
    intro τ unit k hn h0 h1
    refine y_iload rfl rfl ?_
    refine y_iload rfl rfl ?_
    refine y_icle rfl (fun q264 => ?_) (fun q264 => ?_)
    · skip
      refine y_iload rfl rfl ?_
      refine y_push rfl ?_
      refine y_icne rfl (fun q282 => ?_) (fun q282 => ?_)
      · skip
        refine y_iload rfl rfl ?_
        refine y_iload rfl rfl ?_
        refine y_icge rfl (fun q293 => ?_) (fun q293 => ?_)
        · skip
          refine y_push rfl ?_
          refine y_iret rfl rfl ⟨_, rfl, ?_⟩
          exact ⟨by rw [if_pos (by omega)]; exact mW_mfs hg hx h1, fun x y a => h1 x y (by omega)⟩
        · skip
          have fu : 0 ≤ fd / unit := Int.ediv_nonneg hf (by omega)
          refine y_iload rfl rfl ?_
          refine y_iload rfl rfl ?_
          refine y_idiv (v := (fd / unit)) rfl rfl (by omega) ?_
          refine y_iload rfl rfl ?_
          refine y_irem (v := ((fd / unit) % 2)) rfl rfl (by omega) ?_
          refine y_goto rfl ?_
          refine y_iret rfl rfl ⟨_, rfl, ?_⟩
          exact ⟨by rw [if_pos (by omega)]; exact mW_mfs hg hx h1, fun x y a => h1 x y (by omega)⟩
      · skip
        refine y_iload rfl rfl ?_
        refine y_goto rfl ?_
        refine y_iret rfl rfl ⟨_, rfl, ?_⟩
        exact ⟨by rw [if_pos (by omega)]; exact mW_mfs hg hx h1, fun x y a => h1 x y (by omega)⟩
    · skip
      refine y_iload rfl rfl ?_
      refine y_iload rfl rfl ?_
      refine y_imul (v := (unit * 2)) rfl rfl (by omega) ?_
      refine y_istore (L' := [some (2, 547), some (0, m), some (0, c), some (0, i), some (0, 2), some (0, 4), some (0, most), some (0, fd), some (0, (unit * 2)), some (0, k), none, none, none, none, none]) rfl rfl rfl rfl ?_
      refine y_iinc (L' := [some (2, 547), some (0, m), some (0, c), some (0, i), some (0, 2), some (0, 4), some (0, most), some (0, fd), some (0, (unit * 2)), some (0, (k + (-1))), none, none, none, none, none]) rfl rfl rfl rfl rfl (by omega) ?_
      refine y_goto rfl ?_
      exact ih τ _ (k + -1) (by omega) (by omega) h1
theorem lm_emT2 {g : Launch × XG × va_G} {σ : YS} {Z : YZ} {I : Int → YZ} {M : YS} {N : Int} {m c i : Int}{code most fd : Int} {q unit k out : Int} {C : YS} {nn1 : Nat} (ihK : ∀ (τ : YS) (C : YS) (k unit out : Int), 2 - k < (nn1 : Int) → (((k = 0 ∧ unit = 4) ∨ (k = 1 ∧ unit = 2) ∨ (k = 2 ∧ unit = 1)) ∧ 0 ≤ k ∧ k ≤ 2) → mfs σ τ → rm τ (Z 0) C → dG (Z 0) C → (0 ≤ C 5 0 ∧ C 5 0 ≤ N + 60 * k) → YW g 93 107 [some (2, 547), some (0, m), some (0, c), some (0, i), some (0, 2), some (0, 4), some (0, most), some (0, fd), some (0, code), some (0, out), some (0, code), some (0, unit), some (0, k), none, none] [] τ (fun rv σ' => ∃ b, rv = some (0, b) ∧ ((mW σ' Z I (if (0 ≤ m ∧ m ≤ 60) ∧ (0 ≤ c ∧ c < Z 0 0 0) ∧ -1 ≤ i then M else bump M 0)) ∧ cfr σ σ'))) (hx : mW σ Z I M) (hg : wG Z I M N) (hN : N < 100000) (hm : (0 ≤ m ∧ m ≤ 60) ∧ (0 ≤ c ∧ c < Z 0 0 0) ∧ -1 ≤ i) (hw : Z 0 1 0 = 2) (hc : 0 ≤ code ∧ code < 4) (hf : 0 ≤ fd) (hk : ((k = 0 ∧ unit = 2) ∨ (k = 1 ∧ unit = 1)) ∧ 0 ≤ k ∧ k ≤ 2) (hkn : 2 - k < (nn1 : Int) + 1) (hq : 0 ≤ q ∧ q < 2) (hkw : k < 2) (hd2 : dG (Z 0) C) (h5 : 0 ≤ C 5 0 ∧ C 5 0 ≤ N + 60 * k) : ∀ (nn : Nat) (τ : YS) (t : Int), m - t < (nn : Int) → (0 ≤ t ∧ t ≤ m) → (mfs σ τ) → (rm τ (Z 0) (msteps (Z 0) C t.toNat)) → YW g 93 143 [some (2, 547), some (0, m), some (0, c), some (0, i), some (0, 2), some (0, 4), some (0, most), some (0, fd), some (0, code), some (0, out), some (0, code), some (0, unit), some (0, k), some (0, q), some (0, t)] [] τ (fun rv σ' => ∃ b, rv = some (0, b) ∧ ((mW σ' Z I (if (0 ≤ m ∧ m ≤ 60) ∧ (0 ≤ c ∧ c < Z 0 0 0) ∧ -1 ≤ i then M else bump M 0)) ∧ cfr σ σ')) := by
  intro nn
  induction nn with
  | zero =>
    intro τ t hn h0 h1 h2
    exfalso
    omega
  | succ nn ih =>
    intro τ t hn h0 h1 h2
    refine y_iload rfl rfl ?_
    refine y_iload rfl rfl ?_
    refine y_icge rfl (fun q146 => ?_) (fun q146 => ?_)
    · skip
      refine y_aload rfl rfl rfl ?_
      refine y_gfr (t := 558) rfl rfl (by decide) rfl (by decide) ?_
      refine y_iload rfl rfl ?_
      refine y_push rfl ?_
      refine y_iast (n := 3) rfl rfl (by decide) rfl (by omega) ?_
      refine y_iinc (L' := [some (2, 547), some (0, m), some (0, c), some (0, i), some (0, 2), some (0, 4), some (0, most), some (0, fd), some (0, code), some (0, out), some (0, code), some (0, unit), some (0, (k + 1)), some (0, q), some (0, t)]) rfl rfl rfl rfl rfl (by omega) ?_
      refine y_goto rfl ?_
      refine y_forget (M := [some (2, 547), some (0, m), some (0, c), some (0, i), some (0, 2), some (0, 4), some (0, most), some (0, fd), some (0, code), some (0, out), some (0, code), some (0, unit), some (0, (k + 1)), none, none]) ⟨Or.inr rfl, Or.inr rfl, Or.inr rfl, Or.inr rfl, Or.inr rfl, Or.inr rfl, Or.inr rfl, Or.inr rfl, Or.inr rfl, Or.inr rfl, Or.inr rfl, Or.inr rfl, Or.inr rfl, Or.inl rfl, Or.inl rfl, trivial⟩ ?_
      refine ihK (yset τ 558 q 1) (yset (msteps (Z 0) C t.toNat) 4 q 1) (k + 1) unit out (by omega) (by omega) (mfs_s h1 (by omega)) (rm_m h2 (by omega) (by omega)) (dG_m (dG_steps hd2 hg.1.1 _) (by omega) (Or.inr (Or.inr (Or.inr (Or.inl ⟨rfl, rfl⟩))))) ?_
      rw [yne (by omega) rfl, msteps_5]
      omega
    · skip
      refine y_aload rfl rfl rfl ?_
      refine y_vi (as := [(2, 547)]) (S := []) rfl rfl rfl rfl rfl rfl (by decide) rfl (m_goStep h2 hg.1.1 (dG_steps hd2 hg.1.1 _) (by rw [msteps_5]; omega)) ?_
      rintro _ s1 ⟨y1, rfl, y2⟩
      refine y_pop rfl rfl ?_
      refine y_iinc (L' := [some (2, 547), some (0, m), some (0, c), some (0, i), some (0, 2), some (0, 4), some (0, most), some (0, fd), some (0, code), some (0, out), some (0, code), some (0, unit), some (0, k), some (0, q), some (0, (t + 1))]) rfl rfl rfl rfl rfl (by omega) ?_
      refine y_goto rfl ?_
      exact ih s1 (t + 1) (by omega) (by omega) (mfs_t h1 (rfr_m y2)) (by rw [show (t + 1).toNat = t.toNat + 1 by omega]; exact y1)
theorem lm_emK2 {g : Launch × XG × va_G} {σ : YS} {Z : YZ} {I : Int → YZ} {M : YS} {N : Int} {m c i : Int} {code most fd : Int} {nn0 : Nat} (ihO : ∀ (τ : YS) (code most fd : Int), 4 - code < (nn0 : Int) → (0 ≤ code ∧ code ≤ 4) → mfs σ τ → 0 ≤ fd → YW g 93 82 [some (2, 547), some (0, m), some (0, c), some (0, i), some (0, 2), some (0, 4), some (0, most), some (0, fd), some (0, code), none, none, none, none, none, none] [] τ (fun rv σ' => ∃ b, rv = some (0, b) ∧ ((mW σ' Z I (if (0 ≤ m ∧ m ≤ 60) ∧ (0 ≤ c ∧ c < Z 0 0 0) ∧ -1 ≤ i then M else bump M 0)) ∧ cfr σ σ'))) (hx : mW σ Z I M) (hg : wG Z I M N) (hN : N < 100000) (hm : (0 ≤ m ∧ m ≤ 60) ∧ (0 ≤ c ∧ c < Z 0 0 0) ∧ -1 ≤ i) (hw : Z 0 1 0 = 2) (hc : 0 ≤ code ∧ code < 4) (hf : 0 ≤ fd) (hnn : 4 - code < (nn0 : Int) + 1) : ∀ (nn : Nat) (τ : YS) (C : YS) (k : Int) (unit : Int) (out : Int), 2 - k < (nn : Int) → (((k = 0 ∧ unit = 4) ∨ (k = 1 ∧ unit = 2) ∨ (k = 2 ∧ unit = 1)) ∧ 0 ≤ k ∧ k ≤ 2) → (mfs σ τ) → (rm τ (Z 0) C) → (dG (Z 0) C) → (0 ≤ C 5 0 ∧ C 5 0 ≤ N + 60 * k) → YW g 93 107 [some (2, 547), some (0, m), some (0, c), some (0, i), some (0, 2), some (0, 4), some (0, most), some (0, fd), some (0, code), some (0, out), some (0, code), some (0, unit), some (0, k), none, none] [] τ (fun rv σ' => ∃ b, rv = some (0, b) ∧ ((mW σ' Z I (if (0 ≤ m ∧ m ≤ 60) ∧ (0 ≤ c ∧ c < Z 0 0 0) ∧ -1 ≤ i then M else bump M 0)) ∧ cfr σ σ')) := by
  intro nn
  induction nn with
  | zero =>
    intro τ C k unit out hn h0 h1 h2 h3 h4
    exfalso
    omega
  | succ nn ih =>
    intro τ C k unit out hn h0 h1 h2 h3 h4
    have e1 := hg.1.1.1
    have hn5 := hg.1.2.2.1
    refine y_iload rfl rfl ?_
    refine y_iload rfl rfl ?_
    refine y_icge rfl (fun q111 => ?_) (fun q111 => ?_)
    · skip
      refine y_iload rfl rfl ?_
      refine y_push rfl ?_
      refine y_iload rfl rfl ?_
      refine y_ishl (v := 4) rfl rfl ?_
      refine y_push rfl ?_
      refine y_isub (v := 3) rfl rfl (by decide) ?_
      refine y_icne rfl (fun q182 => ?_) (fun q182 => ?_)
      · skip
        refine y_push rfl ?_
        refine y_istore (L' := [some (2, 547), some (0, m), some (0, c), some (0, i), some (0, 2), some (0, 4), some (0, most), some (0, fd), some (0, code), some (0, out), some (0, code), some (0, unit), some (0, 0), none, none]) rfl rfl rfl rfl ?_
        refine y_iload rfl rfl ?_
        refine y_ifeq rfl (fun q194 => ?_) (fun q194 => ?_)
        · skip
          refine y_iload rfl rfl ?_
          refine y_istore (L' := [some (2, 547), some (0, m), some (0, c), some (0, i), some (0, 2), some (0, 4), some (0, most), some (0, fd), some (0, code), some (0, out), some (0, code), some (0, unit), some (0, 0), none, none]) rfl rfl rfl rfl ?_
          refine y_iload rfl rfl ?_
          refine y_ifeq rfl (fun q219 => ?_) (fun q219 => ?_)
          · skip
            refine y_iload rfl rfl ?_
            refine y_istore (L' := [some (2, 547), some (0, m), some (0, c), some (0, i), some (0, 2), some (0, 4), some (0, most), some (0, fd), some (0, code), some (0, out), some (0, code), some (0, unit), some (0, 0), none, none]) rfl rfl rfl rfl ?_
            refine y_iinc (L' := [some (2, 547), some (0, m), some (0, c), some (0, i), some (0, 2), some (0, 4), some (0, most), some (0, fd), some (0, (code + 1)), some (0, out), some (0, code), some (0, unit), some (0, 0), none, none]) rfl rfl rfl rfl rfl (by omega) ?_
            refine y_goto rfl ?_
            refine y_forget (M := [some (2, 547), some (0, m), some (0, c), some (0, i), some (0, 2), some (0, 4), some (0, most), some (0, fd), some (0, (code + 1)), none, none, none, none, none, none]) ⟨Or.inr rfl, Or.inr rfl, Or.inr rfl, Or.inr rfl, Or.inr rfl, Or.inr rfl, Or.inr rfl, Or.inr rfl, Or.inr rfl, Or.inl rfl, Or.inl rfl, Or.inl rfl, Or.inl rfl, Or.inl rfl, Or.inl rfl, trivial⟩ ?_
            exact ihO τ (code + 1) _ _ (by omega) (by omega) h1 (by omega)
          · exfalso; omega
        · exfalso; omega
      · skip
        refine y_push rfl ?_
        refine y_goto rfl ?_
        refine y_istore (L' := [some (2, 547), some (0, m), some (0, c), some (0, i), some (0, 2), some (0, 4), some (0, most), some (0, fd), some (0, code), some (0, out), some (0, code), some (0, unit), some (0, 1), none, none]) rfl rfl rfl rfl ?_
        refine y_iload rfl rfl ?_
        refine y_ifeq rfl (fun q194 => ?_) (fun q194 => ?_)
        · exfalso; omega
        · skip
          refine y_aload rfl rfl rfl ?_
          refine y_gfr (t := 554) rfl rfl (by decide) rfl (by decide) ?_
          refine y_iload rfl rfl ?_
          refine y_iald (v := (τ 554 c)) (n := 9) rfl rfl (by decide) rfl (by omega) rfl ?_
          refine y_iload rfl rfl ?_
          refine y_icle rfl (fun q205 => ?_) (fun q205 => ?_)
          · skip
            refine y_iload rfl rfl ?_
            refine y_istore (L' := [some (2, 547), some (0, m), some (0, c), some (0, i), some (0, 2), some (0, 4), some (0, most), some (0, fd), some (0, code), some (0, out), some (0, code), some (0, unit), some (0, 1), none, none]) rfl rfl rfl rfl ?_
            refine y_iload rfl rfl ?_
            refine y_ifeq rfl (fun q219 => ?_) (fun q219 => ?_)
            · exfalso; omega
            · skip
              refine y_aload rfl rfl rfl ?_
              refine y_gfr (t := 554) rfl rfl (by decide) rfl (by decide) ?_
              refine y_iload rfl rfl ?_
              refine y_iald (v := (τ 554 c)) (n := 9) rfl rfl (by decide) rfl (by omega) rfl ?_
              refine y_iload rfl rfl ?_
              refine y_icle rfl (fun q230 => ?_) (fun q230 => ?_)
              · skip
                refine y_iload rfl rfl ?_
                refine y_istore (L' := [some (2, 547), some (0, m), some (0, c), some (0, i), some (0, 2), some (0, 4), some (0, most), some (0, fd), some (0, code), some (0, out), some (0, code), some (0, unit), some (0, 1), none, none]) rfl rfl rfl rfl ?_
                refine y_iinc (L' := [some (2, 547), some (0, m), some (0, c), some (0, i), some (0, 2), some (0, 4), some (0, most), some (0, fd), some (0, (code + 1)), some (0, out), some (0, code), some (0, unit), some (0, 1), none, none]) rfl rfl rfl rfl rfl (by omega) ?_
                refine y_goto rfl ?_
                refine y_forget (M := [some (2, 547), some (0, m), some (0, c), some (0, i), some (0, 2), some (0, 4), some (0, most), some (0, fd), some (0, (code + 1)), none, none, none, none, none, none]) ⟨Or.inr rfl, Or.inr rfl, Or.inr rfl, Or.inr rfl, Or.inr rfl, Or.inr rfl, Or.inr rfl, Or.inr rfl, Or.inr rfl, Or.inl rfl, Or.inl rfl, Or.inl rfl, Or.inl rfl, Or.inl rfl, Or.inl rfl, trivial⟩ ?_
                exact ihO τ (code + 1) _ _ (by omega) (by omega) h1 (by omega)
              · skip
                refine y_aload rfl rfl rfl ?_
                refine y_gfr (t := 554) rfl rfl (by decide) rfl (by decide) ?_
                refine y_iload rfl rfl ?_
                refine y_iald (v := (τ 554 c)) (n := 9) rfl rfl (by decide) rfl (by omega) rfl ?_
                refine y_goto rfl ?_
                refine y_istore (L' := [some (2, 547), some (0, m), some (0, c), some (0, i), some (0, 2), some (0, 4), some (0, (τ 554 c)), some (0, fd), some (0, code), some (0, out), some (0, code), some (0, unit), some (0, 1), none, none]) rfl rfl rfl rfl ?_
                refine y_iinc (L' := [some (2, 547), some (0, m), some (0, c), some (0, i), some (0, 2), some (0, 4), some (0, (τ 554 c)), some (0, fd), some (0, (code + 1)), some (0, out), some (0, code), some (0, unit), some (0, 1), none, none]) rfl rfl rfl rfl rfl (by omega) ?_
                refine y_goto rfl ?_
                refine y_forget (M := [some (2, 547), some (0, m), some (0, c), some (0, i), some (0, 2), some (0, 4), some (0, (τ 554 c)), some (0, fd), some (0, (code + 1)), none, none, none, none, none, none]) ⟨Or.inr rfl, Or.inr rfl, Or.inr rfl, Or.inr rfl, Or.inr rfl, Or.inr rfl, Or.inr rfl, Or.inr rfl, Or.inr rfl, Or.inl rfl, Or.inl rfl, Or.inl rfl, Or.inl rfl, Or.inl rfl, Or.inl rfl, trivial⟩ ?_
                exact ihO τ (code + 1) _ _ (by omega) (by omega) h1 (by omega)
          · skip
            refine y_iload rfl rfl ?_
            refine y_goto rfl ?_
            refine y_istore (L' := [some (2, 547), some (0, m), some (0, c), some (0, i), some (0, 2), some (0, 4), some (0, most), some (0, code), some (0, code), some (0, out), some (0, code), some (0, unit), some (0, 1), none, none]) rfl rfl rfl rfl ?_
            refine y_iload rfl rfl ?_
            refine y_ifeq rfl (fun q219 => ?_) (fun q219 => ?_)
            · exfalso; omega
            · skip
              refine y_aload rfl rfl rfl ?_
              refine y_gfr (t := 554) rfl rfl (by decide) rfl (by decide) ?_
              refine y_iload rfl rfl ?_
              refine y_iald (v := (τ 554 c)) (n := 9) rfl rfl (by decide) rfl (by omega) rfl ?_
              refine y_iload rfl rfl ?_
              refine y_icle rfl (fun q230 => ?_) (fun q230 => ?_)
              · skip
                refine y_iload rfl rfl ?_
                refine y_istore (L' := [some (2, 547), some (0, m), some (0, c), some (0, i), some (0, 2), some (0, 4), some (0, most), some (0, code), some (0, code), some (0, out), some (0, code), some (0, unit), some (0, 1), none, none]) rfl rfl rfl rfl ?_
                refine y_iinc (L' := [some (2, 547), some (0, m), some (0, c), some (0, i), some (0, 2), some (0, 4), some (0, most), some (0, code), some (0, (code + 1)), some (0, out), some (0, code), some (0, unit), some (0, 1), none, none]) rfl rfl rfl rfl rfl (by omega) ?_
                refine y_goto rfl ?_
                refine y_forget (M := [some (2, 547), some (0, m), some (0, c), some (0, i), some (0, 2), some (0, 4), some (0, most), some (0, code), some (0, (code + 1)), none, none, none, none, none, none]) ⟨Or.inr rfl, Or.inr rfl, Or.inr rfl, Or.inr rfl, Or.inr rfl, Or.inr rfl, Or.inr rfl, Or.inr rfl, Or.inr rfl, Or.inl rfl, Or.inl rfl, Or.inl rfl, Or.inl rfl, Or.inl rfl, Or.inl rfl, trivial⟩ ?_
                exact ihO τ (code + 1) _ _ (by omega) (by omega) h1 (by omega)
              · skip
                refine y_aload rfl rfl rfl ?_
                refine y_gfr (t := 554) rfl rfl (by decide) rfl (by decide) ?_
                refine y_iload rfl rfl ?_
                refine y_iald (v := (τ 554 c)) (n := 9) rfl rfl (by decide) rfl (by omega) rfl ?_
                refine y_goto rfl ?_
                refine y_istore (L' := [some (2, 547), some (0, m), some (0, c), some (0, i), some (0, 2), some (0, 4), some (0, (τ 554 c)), some (0, code), some (0, code), some (0, out), some (0, code), some (0, unit), some (0, 1), none, none]) rfl rfl rfl rfl ?_
                refine y_iinc (L' := [some (2, 547), some (0, m), some (0, c), some (0, i), some (0, 2), some (0, 4), some (0, (τ 554 c)), some (0, code), some (0, (code + 1)), some (0, out), some (0, code), some (0, unit), some (0, 1), none, none]) rfl rfl rfl rfl rfl (by omega) ?_
                refine y_goto rfl ?_
                refine y_forget (M := [some (2, 547), some (0, m), some (0, c), some (0, i), some (0, 2), some (0, 4), some (0, (τ 554 c)), some (0, code), some (0, (code + 1)), none, none, none, none, none, none]) ⟨Or.inr rfl, Or.inr rfl, Or.inr rfl, Or.inr rfl, Or.inr rfl, Or.inr rfl, Or.inr rfl, Or.inr rfl, Or.inr rfl, Or.inl rfl, Or.inl rfl, Or.inl rfl, Or.inl rfl, Or.inl rfl, Or.inl rfl, trivial⟩ ?_
                exact ihO τ (code + 1) _ _ (by omega) (by omega) h1 (by omega)
    · skip
      refine y_iload rfl rfl ?_
      refine y_iload rfl rfl ?_
      refine y_idiv (v := (unit / 2)) rfl rfl (by omega) ?_
      refine y_istore (L' := [some (2, 547), some (0, m), some (0, c), some (0, i), some (0, 2), some (0, 4), some (0, most), some (0, fd), some (0, code), some (0, out), some (0, code), some (0, (unit / 2)), some (0, k), none, none]) rfl rfl rfl rfl ?_
      refine y_iload rfl rfl ?_
      refine y_iload rfl rfl ?_
      have dq : 0 ≤ code / (unit / 2) := Int.ediv_nonneg hc.1 (by omega)
      refine y_idiv (v := (code / (unit / 2))) rfl rfl (by omega) ?_
      refine y_iload rfl rfl ?_
      refine y_irem (v := ((code / (unit / 2)) % 2)) rfl rfl (by omega) ?_
      refine y_istore (L' := [some (2, 547), some (0, m), some (0, c), some (0, i), some (0, 2), some (0, 4), some (0, most), some (0, fd), some (0, code), some (0, out), some (0, code), some (0, (unit / 2)), some (0, k), some (0, ((code / (unit / 2)) % 2)), none]) rfl rfl rfl rfl ?_
      refine y_iload rfl rfl ?_
      refine y_push rfl ?_
      refine y_iload rfl rfl ?_
      refine y_ishl (v := (yshl 1 ((code / (unit / 2)) % 2))) rfl rfl ?_
      refine y_ior (v := (yor out (yshl 1 ((code / (unit / 2)) % 2)))) rfl rfl ?_
      refine y_istore (L' := [some (2, 547), some (0, m), some (0, c), some (0, i), some (0, 2), some (0, 4), some (0, most), some (0, fd), some (0, code), some (0, (yor out (yshl 1 ((code / (unit / 2)) % 2)))), some (0, code), some (0, (unit / 2)), some (0, k), some (0, ((code / (unit / 2)) % 2)), none]) rfl rfl rfl rfl ?_
      refine y_push rfl ?_
      refine y_istore (L' := [some (2, 547), some (0, m), some (0, c), some (0, i), some (0, 2), some (0, 4), some (0, most), some (0, fd), some (0, code), some (0, (yor out (yshl 1 ((code / (unit / 2)) % 2)))), some (0, code), some (0, (unit / 2)), some (0, k), some (0, ((code / (unit / 2)) % 2)), some (0, 0)]) rfl rfl rfl rfl ?_
      exact lm_emT2 (q := ((code / (unit / 2)) % 2)) (unit := (unit / 2)) (k := k) (out := (yor out (yshl 1 ((code / (unit / 2)) % 2)))) (C := C) (nn1 := nn) (fun τ C k unit out => ih τ C k unit out) hx hg hN hm hw hc hf (by omega) (by omega) (by omega) (by omega) h3 h4 61 τ 0 (by omega) (by omega) h1 h2
theorem lm_emC2 {g : Launch × XG × va_G} {σ : YS} {Z : YZ} {I : Int → YZ} {M : YS} {N : Int} {m c i : Int} (hx : mW σ Z I M) (hg : wG Z I M N) (hN : N < 100000) (hm : (0 ≤ m ∧ m ≤ 60) ∧ (0 ≤ c ∧ c < Z 0 0 0) ∧ -1 ≤ i) (hw : Z 0 1 0 = 2) : ∀ (nn : Nat) (τ : YS) (code : Int) (most : Int) (fd : Int), 4 - code < (nn : Int) → (0 ≤ code ∧ code ≤ 4) → (mfs σ τ) → (0 ≤ fd) → YW g 93 82 [some (2, 547), some (0, m), some (0, c), some (0, i), some (0, 2), some (0, 4), some (0, most), some (0, fd), some (0, code), none, none, none, none, none, none] [] τ (fun rv σ' => ∃ b, rv = some (0, b) ∧ ((mW σ' Z I (if (0 ≤ m ∧ m ≤ 60) ∧ (0 ≤ c ∧ c < Z 0 0 0) ∧ -1 ≤ i then M else bump M 0)) ∧ cfr σ σ')) := by
  intro nn
  induction nn with
  | zero =>
    intro τ code most fd hn h0 h1 h2
    exfalso
    omega
  | succ nn ih =>
    intro τ code most fd hn h0 h1 h2
    have e1 := hg.1.1.1
    have hn5 := hg.1.2.2.1
    refine y_iload rfl rfl ?_
    refine y_iload rfl rfl ?_
    refine y_icge rfl (fun q86 => ?_) (fun q86 => ?_)
    · skip
      refine y_push rfl ?_
      refine y_istore (L' := [some (2, 547), some (0, m), some (0, c), some (0, i), some (0, 2), some (0, 4), some (0, most), some (0, fd), some (0, 1), none, none, none, none, none, none]) rfl rfl rfl rfl ?_
      refine y_iload rfl rfl ?_
      refine y_push rfl ?_
      refine y_isub (v := 1) rfl rfl (by decide) ?_
      refine y_istore (L' := [some (2, 547), some (0, m), some (0, c), some (0, i), some (0, 2), some (0, 4), some (0, most), some (0, fd), some (0, 1), some (0, 1), none, none, none, none, none]) rfl rfl rfl rfl ?_
      exact lm_emU2 hx hg hN hm hw h2 5 τ 1 1 (by omega) (by omega) h1
    · skip
      refine y_aload rfl rfl rfl ?_
      refine y_vu (as := [(2, 547)]) (S := []) rfl rfl rfl rfl rfl rfl (by decide) rfl (m_layNow (mzs_cong hg.1.1 hx.1.1 (fun y a b => h1 548 y (by omega))) hg.1.1 hg.1.2.1 hg.1.2.2.2.2.1.1) ?_
      rintro s1 ⟨l1, l2⟩
      refine y_push rfl ?_
      refine y_istore (L' := [some (2, 547), some (0, m), some (0, c), some (0, i), some (0, 2), some (0, 4), some (0, most), some (0, fd), some (0, code), some (0, 0), none, none, none, none, none]) rfl rfl rfl rfl ?_
      refine y_iload rfl rfl ?_
      refine y_istore (L' := [some (2, 547), some (0, m), some (0, c), some (0, i), some (0, 2), some (0, 4), some (0, most), some (0, fd), some (0, code), some (0, 0), some (0, code), none, none, none, none]) rfl rfl rfl rfl ?_
      refine y_iload rfl rfl ?_
      refine y_istore (L' := [some (2, 547), some (0, m), some (0, c), some (0, i), some (0, 2), some (0, 4), some (0, most), some (0, fd), some (0, code), some (0, 0), some (0, code), some (0, 4), none, none, none]) rfl rfl rfl rfl ?_
      refine y_push rfl ?_
      refine y_istore (L' := [some (2, 547), some (0, m), some (0, c), some (0, i), some (0, 2), some (0, 4), some (0, most), some (0, fd), some (0, code), some (0, 0), some (0, code), some (0, 4), some (0, 0), none, none]) rfl rfl rfl rfl ?_
      exact lm_emK2 (nn0 := nn) (fun τ code most fd => ih τ code most fd) hx hg hN hm hw (by omega) h2 (by omega) 3 s1 (Z 1) 0 4 0 (by omega) (by omega) (mfs_t h1 l2) l1 hg.1.2.1 (by omega)
theorem lm_emU3 {g : Launch × XG × va_G} {σ : YS} {Z : YZ} {I : Int → YZ} {M : YS} {N : Int} {m c i : Int}{most fd : Int}  (hx : mW σ Z I M) (hg : wG Z I M N) (hN : N < 100000) (hm : (0 ≤ m ∧ m ≤ 60) ∧ (0 ≤ c ∧ c < Z 0 0 0) ∧ -1 ≤ i) (hw : Z 0 1 0 = 3) (hf : 0 ≤ fd) : ∀ (nn : Nat) (τ : YS) (unit : Int) (k : Int), k + 1 < (nn : Int) → (((k = 2 ∧ unit = 1) ∨ (k = 1 ∧ unit = 3) ∨ (k = 0 ∧ unit = 9) ∨ (k = -1 ∧ unit = 27)) ∧ -1 ≤ k) → (mfs σ τ) → YW g 93 261 [some (2, 547), some (0, m), some (0, c), some (0, i), some (0, 3), some (0, 27), some (0, most), some (0, fd), some (0, unit), some (0, k), none, none, none, none, none] [] τ (fun rv σ' => ∃ b, rv = some (0, b) ∧ ((mW σ' Z I (if (0 ≤ m ∧ m ≤ 60) ∧ (0 ≤ c ∧ c < Z 0 0 0) ∧ -1 ≤ i then M else bump M 0)) ∧ cfr σ σ')) := by
  intro nn
  induction nn with
  | zero =>
    intro τ unit k hn h0 h1
    exfalso
    omega
  | succ nn ih =>
    intro τ unit k hn h0 h1
    refine y_iload rfl rfl ?_
    refine y_iload rfl rfl ?_
    refine y_icle rfl (fun q264 => ?_) (fun q264 => ?_)
    · skip
      refine y_iload rfl rfl ?_
      refine y_push rfl ?_
      refine y_icne rfl (fun q282 => ?_) (fun q282 => ?_)
      · skip
        refine y_iload rfl rfl ?_
        refine y_iload rfl rfl ?_
        refine y_icge rfl (fun q293 => ?_) (fun q293 => ?_)
        · skip
          refine y_push rfl ?_
          refine y_iret rfl rfl ⟨_, rfl, ?_⟩
          exact ⟨by rw [if_pos (by omega)]; exact mW_mfs hg hx h1, fun x y a => h1 x y (by omega)⟩
        · skip
          have fu : 0 ≤ fd / unit := Int.ediv_nonneg hf (by omega)
          refine y_iload rfl rfl ?_
          refine y_iload rfl rfl ?_
          refine y_idiv (v := (fd / unit)) rfl rfl (by omega) ?_
          refine y_iload rfl rfl ?_
          refine y_irem (v := ((fd / unit) % 3)) rfl rfl (by omega) ?_
          refine y_goto rfl ?_
          refine y_iret rfl rfl ⟨_, rfl, ?_⟩
          exact ⟨by rw [if_pos (by omega)]; exact mW_mfs hg hx h1, fun x y a => h1 x y (by omega)⟩
      · skip
        refine y_iload rfl rfl ?_
        refine y_goto rfl ?_
        refine y_iret rfl rfl ⟨_, rfl, ?_⟩
        exact ⟨by rw [if_pos (by omega)]; exact mW_mfs hg hx h1, fun x y a => h1 x y (by omega)⟩
    · skip
      refine y_iload rfl rfl ?_
      refine y_iload rfl rfl ?_
      refine y_imul (v := (unit * 3)) rfl rfl (by omega) ?_
      refine y_istore (L' := [some (2, 547), some (0, m), some (0, c), some (0, i), some (0, 3), some (0, 27), some (0, most), some (0, fd), some (0, (unit * 3)), some (0, k), none, none, none, none, none]) rfl rfl rfl rfl ?_
      refine y_iinc (L' := [some (2, 547), some (0, m), some (0, c), some (0, i), some (0, 3), some (0, 27), some (0, most), some (0, fd), some (0, (unit * 3)), some (0, (k + (-1))), none, none, none, none, none]) rfl rfl rfl rfl rfl (by omega) ?_
      refine y_goto rfl ?_
      exact ih τ _ (k + -1) (by omega) (by omega) h1
theorem lm_emT3 {g : Launch × XG × va_G} {σ : YS} {Z : YZ} {I : Int → YZ} {M : YS} {N : Int} {m c i : Int}{code most fd : Int} {q unit k out : Int} {C : YS} {nn1 : Nat} (ihK : ∀ (τ : YS) (C : YS) (k unit out : Int), 3 - k < (nn1 : Int) → (((k = 0 ∧ unit = 27) ∨ (k = 1 ∧ unit = 9) ∨ (k = 2 ∧ unit = 3) ∨ (k = 3 ∧ unit = 1)) ∧ 0 ≤ k ∧ k ≤ 3) → mfs σ τ → rm τ (Z 0) C → dG (Z 0) C → (0 ≤ C 5 0 ∧ C 5 0 ≤ N + 60 * k) → YW g 93 107 [some (2, 547), some (0, m), some (0, c), some (0, i), some (0, 3), some (0, 27), some (0, most), some (0, fd), some (0, code), some (0, out), some (0, code), some (0, unit), some (0, k), none, none] [] τ (fun rv σ' => ∃ b, rv = some (0, b) ∧ ((mW σ' Z I (if (0 ≤ m ∧ m ≤ 60) ∧ (0 ≤ c ∧ c < Z 0 0 0) ∧ -1 ≤ i then M else bump M 0)) ∧ cfr σ σ'))) (hx : mW σ Z I M) (hg : wG Z I M N) (hN : N < 100000) (hm : (0 ≤ m ∧ m ≤ 60) ∧ (0 ≤ c ∧ c < Z 0 0 0) ∧ -1 ≤ i) (hw : Z 0 1 0 = 3) (hc : 0 ≤ code ∧ code < 27) (hf : 0 ≤ fd) (hk : ((k = 0 ∧ unit = 9) ∨ (k = 1 ∧ unit = 3) ∨ (k = 2 ∧ unit = 1)) ∧ 0 ≤ k ∧ k ≤ 3) (hkn : 3 - k < (nn1 : Int) + 1) (hq : 0 ≤ q ∧ q < 3) (hkw : k < 3) (hd2 : dG (Z 0) C) (h5 : 0 ≤ C 5 0 ∧ C 5 0 ≤ N + 60 * k) : ∀ (nn : Nat) (τ : YS) (t : Int), m - t < (nn : Int) → (0 ≤ t ∧ t ≤ m) → (mfs σ τ) → (rm τ (Z 0) (msteps (Z 0) C t.toNat)) → YW g 93 143 [some (2, 547), some (0, m), some (0, c), some (0, i), some (0, 3), some (0, 27), some (0, most), some (0, fd), some (0, code), some (0, out), some (0, code), some (0, unit), some (0, k), some (0, q), some (0, t)] [] τ (fun rv σ' => ∃ b, rv = some (0, b) ∧ ((mW σ' Z I (if (0 ≤ m ∧ m ≤ 60) ∧ (0 ≤ c ∧ c < Z 0 0 0) ∧ -1 ≤ i then M else bump M 0)) ∧ cfr σ σ')) := by
  intro nn
  induction nn with
  | zero =>
    intro τ t hn h0 h1 h2
    exfalso
    omega
  | succ nn ih =>
    intro τ t hn h0 h1 h2
    refine y_iload rfl rfl ?_
    refine y_iload rfl rfl ?_
    refine y_icge rfl (fun q146 => ?_) (fun q146 => ?_)
    · skip
      refine y_aload rfl rfl rfl ?_
      refine y_gfr (t := 558) rfl rfl (by decide) rfl (by decide) ?_
      refine y_iload rfl rfl ?_
      refine y_push rfl ?_
      refine y_iast (n := 3) rfl rfl (by decide) rfl (by omega) ?_
      refine y_iinc (L' := [some (2, 547), some (0, m), some (0, c), some (0, i), some (0, 3), some (0, 27), some (0, most), some (0, fd), some (0, code), some (0, out), some (0, code), some (0, unit), some (0, (k + 1)), some (0, q), some (0, t)]) rfl rfl rfl rfl rfl (by omega) ?_
      refine y_goto rfl ?_
      refine y_forget (M := [some (2, 547), some (0, m), some (0, c), some (0, i), some (0, 3), some (0, 27), some (0, most), some (0, fd), some (0, code), some (0, out), some (0, code), some (0, unit), some (0, (k + 1)), none, none]) ⟨Or.inr rfl, Or.inr rfl, Or.inr rfl, Or.inr rfl, Or.inr rfl, Or.inr rfl, Or.inr rfl, Or.inr rfl, Or.inr rfl, Or.inr rfl, Or.inr rfl, Or.inr rfl, Or.inr rfl, Or.inl rfl, Or.inl rfl, trivial⟩ ?_
      refine ihK (yset τ 558 q 1) (yset (msteps (Z 0) C t.toNat) 4 q 1) (k + 1) unit out (by omega) (by omega) (mfs_s h1 (by omega)) (rm_m h2 (by omega) (by omega)) (dG_m (dG_steps hd2 hg.1.1 _) (by omega) (Or.inr (Or.inr (Or.inr (Or.inl ⟨rfl, rfl⟩))))) ?_
      rw [yne (by omega) rfl, msteps_5]
      omega
    · skip
      refine y_aload rfl rfl rfl ?_
      refine y_vi (as := [(2, 547)]) (S := []) rfl rfl rfl rfl rfl rfl (by decide) rfl (m_goStep h2 hg.1.1 (dG_steps hd2 hg.1.1 _) (by rw [msteps_5]; omega)) ?_
      rintro _ s1 ⟨y1, rfl, y2⟩
      refine y_pop rfl rfl ?_
      refine y_iinc (L' := [some (2, 547), some (0, m), some (0, c), some (0, i), some (0, 3), some (0, 27), some (0, most), some (0, fd), some (0, code), some (0, out), some (0, code), some (0, unit), some (0, k), some (0, q), some (0, (t + 1))]) rfl rfl rfl rfl rfl (by omega) ?_
      refine y_goto rfl ?_
      exact ih s1 (t + 1) (by omega) (by omega) (mfs_t h1 (rfr_m y2)) (by rw [show (t + 1).toNat = t.toNat + 1 by omega]; exact y1)
theorem lm_emK3 {g : Launch × XG × va_G} {σ : YS} {Z : YZ} {I : Int → YZ} {M : YS} {N : Int} {m c i : Int} {code most fd : Int} {nn0 : Nat} (ihO : ∀ (τ : YS) (code most fd : Int), 27 - code < (nn0 : Int) → (0 ≤ code ∧ code ≤ 27) → mfs σ τ → 0 ≤ fd → YW g 93 82 [some (2, 547), some (0, m), some (0, c), some (0, i), some (0, 3), some (0, 27), some (0, most), some (0, fd), some (0, code), none, none, none, none, none, none] [] τ (fun rv σ' => ∃ b, rv = some (0, b) ∧ ((mW σ' Z I (if (0 ≤ m ∧ m ≤ 60) ∧ (0 ≤ c ∧ c < Z 0 0 0) ∧ -1 ≤ i then M else bump M 0)) ∧ cfr σ σ'))) (hx : mW σ Z I M) (hg : wG Z I M N) (hN : N < 100000) (hm : (0 ≤ m ∧ m ≤ 60) ∧ (0 ≤ c ∧ c < Z 0 0 0) ∧ -1 ≤ i) (hw : Z 0 1 0 = 3) (hc : 0 ≤ code ∧ code < 27) (hf : 0 ≤ fd) (hnn : 27 - code < (nn0 : Int) + 1) : ∀ (nn : Nat) (τ : YS) (C : YS) (k : Int) (unit : Int) (out : Int), 3 - k < (nn : Int) → (((k = 0 ∧ unit = 27) ∨ (k = 1 ∧ unit = 9) ∨ (k = 2 ∧ unit = 3) ∨ (k = 3 ∧ unit = 1)) ∧ 0 ≤ k ∧ k ≤ 3) → (mfs σ τ) → (rm τ (Z 0) C) → (dG (Z 0) C) → (0 ≤ C 5 0 ∧ C 5 0 ≤ N + 60 * k) → YW g 93 107 [some (2, 547), some (0, m), some (0, c), some (0, i), some (0, 3), some (0, 27), some (0, most), some (0, fd), some (0, code), some (0, out), some (0, code), some (0, unit), some (0, k), none, none] [] τ (fun rv σ' => ∃ b, rv = some (0, b) ∧ ((mW σ' Z I (if (0 ≤ m ∧ m ≤ 60) ∧ (0 ≤ c ∧ c < Z 0 0 0) ∧ -1 ≤ i then M else bump M 0)) ∧ cfr σ σ')) := by
  intro nn
  induction nn with
  | zero =>
    intro τ C k unit out hn h0 h1 h2 h3 h4
    exfalso
    omega
  | succ nn ih =>
    intro τ C k unit out hn h0 h1 h2 h3 h4
    have e1 := hg.1.1.1
    have hn5 := hg.1.2.2.1
    refine y_iload rfl rfl ?_
    refine y_iload rfl rfl ?_
    refine y_icge rfl (fun q111 => ?_) (fun q111 => ?_)
    · skip
      refine y_iload rfl rfl ?_
      refine y_push rfl ?_
      refine y_iload rfl rfl ?_
      refine y_ishl (v := 8) rfl rfl ?_
      refine y_push rfl ?_
      refine y_isub (v := 7) rfl rfl (by decide) ?_
      refine y_icne rfl (fun q182 => ?_) (fun q182 => ?_)
      · skip
        refine y_push rfl ?_
        refine y_istore (L' := [some (2, 547), some (0, m), some (0, c), some (0, i), some (0, 3), some (0, 27), some (0, most), some (0, fd), some (0, code), some (0, out), some (0, code), some (0, unit), some (0, 0), none, none]) rfl rfl rfl rfl ?_
        refine y_iload rfl rfl ?_
        refine y_ifeq rfl (fun q194 => ?_) (fun q194 => ?_)
        · skip
          refine y_iload rfl rfl ?_
          refine y_istore (L' := [some (2, 547), some (0, m), some (0, c), some (0, i), some (0, 3), some (0, 27), some (0, most), some (0, fd), some (0, code), some (0, out), some (0, code), some (0, unit), some (0, 0), none, none]) rfl rfl rfl rfl ?_
          refine y_iload rfl rfl ?_
          refine y_ifeq rfl (fun q219 => ?_) (fun q219 => ?_)
          · skip
            refine y_iload rfl rfl ?_
            refine y_istore (L' := [some (2, 547), some (0, m), some (0, c), some (0, i), some (0, 3), some (0, 27), some (0, most), some (0, fd), some (0, code), some (0, out), some (0, code), some (0, unit), some (0, 0), none, none]) rfl rfl rfl rfl ?_
            refine y_iinc (L' := [some (2, 547), some (0, m), some (0, c), some (0, i), some (0, 3), some (0, 27), some (0, most), some (0, fd), some (0, (code + 1)), some (0, out), some (0, code), some (0, unit), some (0, 0), none, none]) rfl rfl rfl rfl rfl (by omega) ?_
            refine y_goto rfl ?_
            refine y_forget (M := [some (2, 547), some (0, m), some (0, c), some (0, i), some (0, 3), some (0, 27), some (0, most), some (0, fd), some (0, (code + 1)), none, none, none, none, none, none]) ⟨Or.inr rfl, Or.inr rfl, Or.inr rfl, Or.inr rfl, Or.inr rfl, Or.inr rfl, Or.inr rfl, Or.inr rfl, Or.inr rfl, Or.inl rfl, Or.inl rfl, Or.inl rfl, Or.inl rfl, Or.inl rfl, Or.inl rfl, trivial⟩ ?_
            exact ihO τ (code + 1) _ _ (by omega) (by omega) h1 (by omega)
          · exfalso; omega
        · exfalso; omega
      · skip
        refine y_push rfl ?_
        refine y_goto rfl ?_
        refine y_istore (L' := [some (2, 547), some (0, m), some (0, c), some (0, i), some (0, 3), some (0, 27), some (0, most), some (0, fd), some (0, code), some (0, out), some (0, code), some (0, unit), some (0, 1), none, none]) rfl rfl rfl rfl ?_
        refine y_iload rfl rfl ?_
        refine y_ifeq rfl (fun q194 => ?_) (fun q194 => ?_)
        · exfalso; omega
        · skip
          refine y_aload rfl rfl rfl ?_
          refine y_gfr (t := 554) rfl rfl (by decide) rfl (by decide) ?_
          refine y_iload rfl rfl ?_
          refine y_iald (v := (τ 554 c)) (n := 9) rfl rfl (by decide) rfl (by omega) rfl ?_
          refine y_iload rfl rfl ?_
          refine y_icle rfl (fun q205 => ?_) (fun q205 => ?_)
          · skip
            refine y_iload rfl rfl ?_
            refine y_istore (L' := [some (2, 547), some (0, m), some (0, c), some (0, i), some (0, 3), some (0, 27), some (0, most), some (0, fd), some (0, code), some (0, out), some (0, code), some (0, unit), some (0, 1), none, none]) rfl rfl rfl rfl ?_
            refine y_iload rfl rfl ?_
            refine y_ifeq rfl (fun q219 => ?_) (fun q219 => ?_)
            · exfalso; omega
            · skip
              refine y_aload rfl rfl rfl ?_
              refine y_gfr (t := 554) rfl rfl (by decide) rfl (by decide) ?_
              refine y_iload rfl rfl ?_
              refine y_iald (v := (τ 554 c)) (n := 9) rfl rfl (by decide) rfl (by omega) rfl ?_
              refine y_iload rfl rfl ?_
              refine y_icle rfl (fun q230 => ?_) (fun q230 => ?_)
              · skip
                refine y_iload rfl rfl ?_
                refine y_istore (L' := [some (2, 547), some (0, m), some (0, c), some (0, i), some (0, 3), some (0, 27), some (0, most), some (0, fd), some (0, code), some (0, out), some (0, code), some (0, unit), some (0, 1), none, none]) rfl rfl rfl rfl ?_
                refine y_iinc (L' := [some (2, 547), some (0, m), some (0, c), some (0, i), some (0, 3), some (0, 27), some (0, most), some (0, fd), some (0, (code + 1)), some (0, out), some (0, code), some (0, unit), some (0, 1), none, none]) rfl rfl rfl rfl rfl (by omega) ?_
                refine y_goto rfl ?_
                refine y_forget (M := [some (2, 547), some (0, m), some (0, c), some (0, i), some (0, 3), some (0, 27), some (0, most), some (0, fd), some (0, (code + 1)), none, none, none, none, none, none]) ⟨Or.inr rfl, Or.inr rfl, Or.inr rfl, Or.inr rfl, Or.inr rfl, Or.inr rfl, Or.inr rfl, Or.inr rfl, Or.inr rfl, Or.inl rfl, Or.inl rfl, Or.inl rfl, Or.inl rfl, Or.inl rfl, Or.inl rfl, trivial⟩ ?_
                exact ihO τ (code + 1) _ _ (by omega) (by omega) h1 (by omega)
              · skip
                refine y_aload rfl rfl rfl ?_
                refine y_gfr (t := 554) rfl rfl (by decide) rfl (by decide) ?_
                refine y_iload rfl rfl ?_
                refine y_iald (v := (τ 554 c)) (n := 9) rfl rfl (by decide) rfl (by omega) rfl ?_
                refine y_goto rfl ?_
                refine y_istore (L' := [some (2, 547), some (0, m), some (0, c), some (0, i), some (0, 3), some (0, 27), some (0, (τ 554 c)), some (0, fd), some (0, code), some (0, out), some (0, code), some (0, unit), some (0, 1), none, none]) rfl rfl rfl rfl ?_
                refine y_iinc (L' := [some (2, 547), some (0, m), some (0, c), some (0, i), some (0, 3), some (0, 27), some (0, (τ 554 c)), some (0, fd), some (0, (code + 1)), some (0, out), some (0, code), some (0, unit), some (0, 1), none, none]) rfl rfl rfl rfl rfl (by omega) ?_
                refine y_goto rfl ?_
                refine y_forget (M := [some (2, 547), some (0, m), some (0, c), some (0, i), some (0, 3), some (0, 27), some (0, (τ 554 c)), some (0, fd), some (0, (code + 1)), none, none, none, none, none, none]) ⟨Or.inr rfl, Or.inr rfl, Or.inr rfl, Or.inr rfl, Or.inr rfl, Or.inr rfl, Or.inr rfl, Or.inr rfl, Or.inr rfl, Or.inl rfl, Or.inl rfl, Or.inl rfl, Or.inl rfl, Or.inl rfl, Or.inl rfl, trivial⟩ ?_
                exact ihO τ (code + 1) _ _ (by omega) (by omega) h1 (by omega)
          · skip
            refine y_iload rfl rfl ?_
            refine y_goto rfl ?_
            refine y_istore (L' := [some (2, 547), some (0, m), some (0, c), some (0, i), some (0, 3), some (0, 27), some (0, most), some (0, code), some (0, code), some (0, out), some (0, code), some (0, unit), some (0, 1), none, none]) rfl rfl rfl rfl ?_
            refine y_iload rfl rfl ?_
            refine y_ifeq rfl (fun q219 => ?_) (fun q219 => ?_)
            · exfalso; omega
            · skip
              refine y_aload rfl rfl rfl ?_
              refine y_gfr (t := 554) rfl rfl (by decide) rfl (by decide) ?_
              refine y_iload rfl rfl ?_
              refine y_iald (v := (τ 554 c)) (n := 9) rfl rfl (by decide) rfl (by omega) rfl ?_
              refine y_iload rfl rfl ?_
              refine y_icle rfl (fun q230 => ?_) (fun q230 => ?_)
              · skip
                refine y_iload rfl rfl ?_
                refine y_istore (L' := [some (2, 547), some (0, m), some (0, c), some (0, i), some (0, 3), some (0, 27), some (0, most), some (0, code), some (0, code), some (0, out), some (0, code), some (0, unit), some (0, 1), none, none]) rfl rfl rfl rfl ?_
                refine y_iinc (L' := [some (2, 547), some (0, m), some (0, c), some (0, i), some (0, 3), some (0, 27), some (0, most), some (0, code), some (0, (code + 1)), some (0, out), some (0, code), some (0, unit), some (0, 1), none, none]) rfl rfl rfl rfl rfl (by omega) ?_
                refine y_goto rfl ?_
                refine y_forget (M := [some (2, 547), some (0, m), some (0, c), some (0, i), some (0, 3), some (0, 27), some (0, most), some (0, code), some (0, (code + 1)), none, none, none, none, none, none]) ⟨Or.inr rfl, Or.inr rfl, Or.inr rfl, Or.inr rfl, Or.inr rfl, Or.inr rfl, Or.inr rfl, Or.inr rfl, Or.inr rfl, Or.inl rfl, Or.inl rfl, Or.inl rfl, Or.inl rfl, Or.inl rfl, Or.inl rfl, trivial⟩ ?_
                exact ihO τ (code + 1) _ _ (by omega) (by omega) h1 (by omega)
              · skip
                refine y_aload rfl rfl rfl ?_
                refine y_gfr (t := 554) rfl rfl (by decide) rfl (by decide) ?_
                refine y_iload rfl rfl ?_
                refine y_iald (v := (τ 554 c)) (n := 9) rfl rfl (by decide) rfl (by omega) rfl ?_
                refine y_goto rfl ?_
                refine y_istore (L' := [some (2, 547), some (0, m), some (0, c), some (0, i), some (0, 3), some (0, 27), some (0, (τ 554 c)), some (0, code), some (0, code), some (0, out), some (0, code), some (0, unit), some (0, 1), none, none]) rfl rfl rfl rfl ?_
                refine y_iinc (L' := [some (2, 547), some (0, m), some (0, c), some (0, i), some (0, 3), some (0, 27), some (0, (τ 554 c)), some (0, code), some (0, (code + 1)), some (0, out), some (0, code), some (0, unit), some (0, 1), none, none]) rfl rfl rfl rfl rfl (by omega) ?_
                refine y_goto rfl ?_
                refine y_forget (M := [some (2, 547), some (0, m), some (0, c), some (0, i), some (0, 3), some (0, 27), some (0, (τ 554 c)), some (0, code), some (0, (code + 1)), none, none, none, none, none, none]) ⟨Or.inr rfl, Or.inr rfl, Or.inr rfl, Or.inr rfl, Or.inr rfl, Or.inr rfl, Or.inr rfl, Or.inr rfl, Or.inr rfl, Or.inl rfl, Or.inl rfl, Or.inl rfl, Or.inl rfl, Or.inl rfl, Or.inl rfl, trivial⟩ ?_
                exact ihO τ (code + 1) _ _ (by omega) (by omega) h1 (by omega)
    · skip
      refine y_iload rfl rfl ?_
      refine y_iload rfl rfl ?_
      refine y_idiv (v := (unit / 3)) rfl rfl (by omega) ?_
      refine y_istore (L' := [some (2, 547), some (0, m), some (0, c), some (0, i), some (0, 3), some (0, 27), some (0, most), some (0, fd), some (0, code), some (0, out), some (0, code), some (0, (unit / 3)), some (0, k), none, none]) rfl rfl rfl rfl ?_
      refine y_iload rfl rfl ?_
      refine y_iload rfl rfl ?_
      have dq : 0 ≤ code / (unit / 3) := Int.ediv_nonneg hc.1 (by omega)
      refine y_idiv (v := (code / (unit / 3))) rfl rfl (by omega) ?_
      refine y_iload rfl rfl ?_
      refine y_irem (v := ((code / (unit / 3)) % 3)) rfl rfl (by omega) ?_
      refine y_istore (L' := [some (2, 547), some (0, m), some (0, c), some (0, i), some (0, 3), some (0, 27), some (0, most), some (0, fd), some (0, code), some (0, out), some (0, code), some (0, (unit / 3)), some (0, k), some (0, ((code / (unit / 3)) % 3)), none]) rfl rfl rfl rfl ?_
      refine y_iload rfl rfl ?_
      refine y_push rfl ?_
      refine y_iload rfl rfl ?_
      refine y_ishl (v := (yshl 1 ((code / (unit / 3)) % 3))) rfl rfl ?_
      refine y_ior (v := (yor out (yshl 1 ((code / (unit / 3)) % 3)))) rfl rfl ?_
      refine y_istore (L' := [some (2, 547), some (0, m), some (0, c), some (0, i), some (0, 3), some (0, 27), some (0, most), some (0, fd), some (0, code), some (0, (yor out (yshl 1 ((code / (unit / 3)) % 3)))), some (0, code), some (0, (unit / 3)), some (0, k), some (0, ((code / (unit / 3)) % 3)), none]) rfl rfl rfl rfl ?_
      refine y_push rfl ?_
      refine y_istore (L' := [some (2, 547), some (0, m), some (0, c), some (0, i), some (0, 3), some (0, 27), some (0, most), some (0, fd), some (0, code), some (0, (yor out (yshl 1 ((code / (unit / 3)) % 3)))), some (0, code), some (0, (unit / 3)), some (0, k), some (0, ((code / (unit / 3)) % 3)), some (0, 0)]) rfl rfl rfl rfl ?_
      exact lm_emT3 (q := ((code / (unit / 3)) % 3)) (unit := (unit / 3)) (k := k) (out := (yor out (yshl 1 ((code / (unit / 3)) % 3)))) (C := C) (nn1 := nn) (fun τ C k unit out => ih τ C k unit out) hx hg hN hm hw hc hf (by omega) (by omega) (by omega) (by omega) h3 h4 61 τ 0 (by omega) (by omega) h1 h2
theorem lm_emC3 {g : Launch × XG × va_G} {σ : YS} {Z : YZ} {I : Int → YZ} {M : YS} {N : Int} {m c i : Int} (hx : mW σ Z I M) (hg : wG Z I M N) (hN : N < 100000) (hm : (0 ≤ m ∧ m ≤ 60) ∧ (0 ≤ c ∧ c < Z 0 0 0) ∧ -1 ≤ i) (hw : Z 0 1 0 = 3) : ∀ (nn : Nat) (τ : YS) (code : Int) (most : Int) (fd : Int), 27 - code < (nn : Int) → (0 ≤ code ∧ code ≤ 27) → (mfs σ τ) → (0 ≤ fd) → YW g 93 82 [some (2, 547), some (0, m), some (0, c), some (0, i), some (0, 3), some (0, 27), some (0, most), some (0, fd), some (0, code), none, none, none, none, none, none] [] τ (fun rv σ' => ∃ b, rv = some (0, b) ∧ ((mW σ' Z I (if (0 ≤ m ∧ m ≤ 60) ∧ (0 ≤ c ∧ c < Z 0 0 0) ∧ -1 ≤ i then M else bump M 0)) ∧ cfr σ σ')) := by
  intro nn
  induction nn with
  | zero =>
    intro τ code most fd hn h0 h1 h2
    exfalso
    omega
  | succ nn ih =>
    intro τ code most fd hn h0 h1 h2
    have e1 := hg.1.1.1
    have hn5 := hg.1.2.2.1
    refine y_iload rfl rfl ?_
    refine y_iload rfl rfl ?_
    refine y_icge rfl (fun q86 => ?_) (fun q86 => ?_)
    · skip
      refine y_push rfl ?_
      refine y_istore (L' := [some (2, 547), some (0, m), some (0, c), some (0, i), some (0, 3), some (0, 27), some (0, most), some (0, fd), some (0, 1), none, none, none, none, none, none]) rfl rfl rfl rfl ?_
      refine y_iload rfl rfl ?_
      refine y_push rfl ?_
      refine y_isub (v := 2) rfl rfl (by decide) ?_
      refine y_istore (L' := [some (2, 547), some (0, m), some (0, c), some (0, i), some (0, 3), some (0, 27), some (0, most), some (0, fd), some (0, 1), some (0, 2), none, none, none, none, none]) rfl rfl rfl rfl ?_
      exact lm_emU3 hx hg hN hm hw h2 5 τ 1 2 (by omega) (by omega) h1
    · skip
      refine y_aload rfl rfl rfl ?_
      refine y_vu (as := [(2, 547)]) (S := []) rfl rfl rfl rfl rfl rfl (by decide) rfl (m_layNow (mzs_cong hg.1.1 hx.1.1 (fun y a b => h1 548 y (by omega))) hg.1.1 hg.1.2.1 hg.1.2.2.2.2.1.1) ?_
      rintro s1 ⟨l1, l2⟩
      refine y_push rfl ?_
      refine y_istore (L' := [some (2, 547), some (0, m), some (0, c), some (0, i), some (0, 3), some (0, 27), some (0, most), some (0, fd), some (0, code), some (0, 0), none, none, none, none, none]) rfl rfl rfl rfl ?_
      refine y_iload rfl rfl ?_
      refine y_istore (L' := [some (2, 547), some (0, m), some (0, c), some (0, i), some (0, 3), some (0, 27), some (0, most), some (0, fd), some (0, code), some (0, 0), some (0, code), none, none, none, none]) rfl rfl rfl rfl ?_
      refine y_iload rfl rfl ?_
      refine y_istore (L' := [some (2, 547), some (0, m), some (0, c), some (0, i), some (0, 3), some (0, 27), some (0, most), some (0, fd), some (0, code), some (0, 0), some (0, code), some (0, 27), none, none, none]) rfl rfl rfl rfl ?_
      refine y_push rfl ?_
      refine y_istore (L' := [some (2, 547), some (0, m), some (0, c), some (0, i), some (0, 3), some (0, 27), some (0, most), some (0, fd), some (0, code), some (0, 0), some (0, code), some (0, 27), some (0, 0), none, none]) rfl rfl rfl rfl ?_
      exact lm_emK3 (nn0 := nn) (fun τ code most fd => ih τ code most fd) hx hg hN hm hw (by omega) h2 (by omega) 4 s1 (Z 1) 0 27 0 (by omega) (by omega) (mfs_t h1 l2) l1 hg.1.2.1 (by omega)
theorem m_emptied {g : Launch × XG × va_G} {σ : YS} {Z : YZ} {I : Int → YZ} {M : YS} {N : Int} {m c i : Int} (hx : mW σ Z I M) (hg : wG Z I M N) (hN : N < 100000) : YI g 93 [(2, 547), (0, m), (0, c), (0, i)] σ (fun b σ' => (mW σ' Z I (if (0 ≤ m ∧ m ≤ 60) ∧ (0 ≤ c ∧ c < Z 0 0 0) ∧ -1 ≤ i then M else bump M 0)) ∧ cfr σ σ') := by
  refine y_start rfl rfl rfl ?_
  have ⟨⟨hz, hu, hur⟩, x2, x3, ⟨x4, x5⟩, x6, x7⟩ := hx
  have ⟨⟨he, hd, hn, hu2, h67, hk⟩, g2, g3, g4⟩ := hg
  have ⟨⟨f1, f2, f3⟩, f5, f6, f7, f8⟩ := hz
  have ⟨e1, e2, e3⟩ := he
  have x60 : σ 551 0 = M 3 0 := x6 0 (by omega) (by omega)
  have x61 : σ 551 1 = M 3 1 := x6 1 (by omega) (by omega)
  have x62 : σ 551 2 = M 3 2 := x6 2 (by omega) (by omega)
  have g40 := g4 0 (by omega) (by omega)
  have g41 := g4 1 (by omega) (by omega)
  have g42 := g4 2 (by omega) (by omega)
  have hu : σ 548 106 = Z 2 0 0 := hu
  have f1 : σ 548 (0 + 0) = Z 0 0 0 := f1
  have f10 : σ 548 0 = Z 0 0 0 := f1
  have f2 : σ 548 (0 + 10) = Z 0 1 0 := f2
  have f20 : σ 548 10 = Z 0 1 0 := f2
  have f30 : σ 548 105 = Z 1 5 0 := f3
  refine y_iload rfl rfl ?_
  refine y_i2l rfl ?_
  refine y_lconst (v := 0) rfl rfl ?_
  refine y_ldc2 (v := 60) rfl rfl ?_
  refine y_si (as := [(1, m), (1, 0), (1, 60)]) (S := []) rfl rfl rfl rfl rfl rfl m_lies ?_
  rintro _ _ ⟨rfl, rfl⟩
  refine y_ifeq rfl (fun q9 => ?_) (fun q9 => ?_)
  · skip
    replace q9 := yb_0.mp q9
    refine y_aload rfl rfl rfl ?_
    refine y_vi (as := [(2, 547)]) (S := []) rfl rfl rfl rfl rfl rfl (by decide) rfl (m_badElse (by omega)) ?_
    rintro _ _ ⟨rfl, rfl⟩
    refine y_iret rfl rfl ⟨_, rfl, ?_⟩
    exact ⟨by rw [if_neg (by omega)]; exact mW_bump hg hx (by omega) rfl, cfr_s (cfr_0 _) (by omega)⟩
  · skip
    replace q9 := yb_1.mp q9
    refine y_aload rfl rfl rfl ?_
    refine y_push rfl ?_
    refine y_iload rfl rfl ?_
    refine y_vi (as := [(2, 547), (0, 0), (0, c)]) (S := []) rfl rfl rfl rfl rfl rfl (by decide) rfl (m_isCell (r := 0) (Or.inl rfl) f1 (by omega)) ?_
    rintro _ _ ⟨rfl, rfl⟩
    refine y_ifeq rfl (fun q18 => ?_) (fun q18 => ?_)
    · skip
      replace q18 := yb_0.mp q18
      refine y_aload rfl rfl rfl ?_
      refine y_vi (as := [(2, 547)]) (S := []) rfl rfl rfl rfl rfl rfl (by decide) rfl (m_badElse (by omega)) ?_
      rintro _ _ ⟨rfl, rfl⟩
      refine y_iret rfl rfl ⟨_, rfl, ?_⟩
      exact ⟨by rw [if_neg (by omega)]; exact mW_bump hg hx (by omega) rfl, cfr_s (cfr_0 _) (by omega)⟩
    · skip
      replace q18 := yb_1.mp q18
      refine y_iload rfl rfl ?_
      refine y_push rfl ?_
      refine y_icge rfl (fun q23 => ?_) (fun q23 => ?_)
      · skip
        refine y_aload rfl rfl rfl ?_
        refine y_gfr (t := 548) rfl rfl (by decide) rfl (by decide) ?_
        refine y_push rfl ?_
        refine y_iald (v := (σ 548 10)) (n := 2108) rfl rfl (by decide) rfl (by decide) rfl ?_
        refine y_istore (L' := [some (2, 547), some (0, m), some (0, c), some (0, i), some (0, (σ 548 10)), none, none, none, none, none, none, none, none, none, none]) rfl rfl rfl rfl ?_
        refine y_iload rfl rfl ?_
        refine y_ifne rfl (fun q42 => ?_) (fun q42 => ?_)
        · skip
          refine y_iload rfl rfl ?_
          refine y_push rfl ?_
          refine y_icne rfl (fun q52 => ?_) (fun q52 => ?_)
          · skip
            refine y_iload rfl rfl ?_
            refine y_push rfl ?_
            refine y_icne rfl (fun q62 => ?_) (fun q62 => ?_)
            · skip
              refine y_push rfl ?_
              refine y_istore (L' := [some (2, 547), some (0, m), some (0, c), some (0, i), some (0, (σ 548 10)), some (0, 27), none, none, none, none, none, none, none, none, none]) rfl rfl rfl rfl ?_
              refine y_push rfl ?_
              refine y_istore (L' := [some (2, 547), some (0, m), some (0, c), some (0, i), some (0, (σ 548 10)), some (0, 27), some (0, (-1)), none, none, none, none, none, none, none, none]) rfl rfl rfl rfl ?_
              refine y_push rfl ?_
              refine y_istore (L' := [some (2, 547), some (0, m), some (0, c), some (0, i), some (0, (σ 548 10)), some (0, 27), some (0, (-1)), some (0, 0), none, none, none, none, none, none, none]) rfl rfl rfl rfl ?_
              refine y_push rfl ?_
              refine y_istore (L' := [some (2, 547), some (0, m), some (0, c), some (0, i), some (0, (σ 548 10)), some (0, 27), some (0, (-1)), some (0, 0), some (0, 0), none, none, none, none, none, none]) rfl rfl rfl rfl ?_
              rw [show σ 548 10 = 3 by omega]
              exact lm_emC3 hx hg hN (by omega) (by omega) 28 σ 0 _ 0 (by omega) (by omega) (mfs_0 _) (by omega)
            · skip
              refine y_push rfl ?_
              refine y_goto rfl ?_
              refine y_istore (L' := [some (2, 547), some (0, m), some (0, c), some (0, i), some (0, (σ 548 10)), some (0, 4), none, none, none, none, none, none, none, none, none]) rfl rfl rfl rfl ?_
              refine y_push rfl ?_
              refine y_istore (L' := [some (2, 547), some (0, m), some (0, c), some (0, i), some (0, (σ 548 10)), some (0, 4), some (0, (-1)), none, none, none, none, none, none, none, none]) rfl rfl rfl rfl ?_
              refine y_push rfl ?_
              refine y_istore (L' := [some (2, 547), some (0, m), some (0, c), some (0, i), some (0, (σ 548 10)), some (0, 4), some (0, (-1)), some (0, 0), none, none, none, none, none, none, none]) rfl rfl rfl rfl ?_
              refine y_push rfl ?_
              refine y_istore (L' := [some (2, 547), some (0, m), some (0, c), some (0, i), some (0, (σ 548 10)), some (0, 4), some (0, (-1)), some (0, 0), some (0, 0), none, none, none, none, none, none]) rfl rfl rfl rfl ?_
              rw [show σ 548 10 = 2 by omega]
              exact lm_emC2 hx hg hN (by omega) (by omega) 5 σ 0 _ 0 (by omega) (by omega) (mfs_0 _) (by omega)
          · skip
            refine y_push rfl ?_
            refine y_goto rfl ?_
            refine y_istore (L' := [some (2, 547), some (0, m), some (0, c), some (0, i), some (0, (σ 548 10)), some (0, 1), none, none, none, none, none, none, none, none, none]) rfl rfl rfl rfl ?_
            refine y_push rfl ?_
            refine y_istore (L' := [some (2, 547), some (0, m), some (0, c), some (0, i), some (0, (σ 548 10)), some (0, 1), some (0, (-1)), none, none, none, none, none, none, none, none]) rfl rfl rfl rfl ?_
            refine y_push rfl ?_
            refine y_istore (L' := [some (2, 547), some (0, m), some (0, c), some (0, i), some (0, (σ 548 10)), some (0, 1), some (0, (-1)), some (0, 0), none, none, none, none, none, none, none]) rfl rfl rfl rfl ?_
            refine y_push rfl ?_
            refine y_istore (L' := [some (2, 547), some (0, m), some (0, c), some (0, i), some (0, (σ 548 10)), some (0, 1), some (0, (-1)), some (0, 0), some (0, 0), none, none, none, none, none, none]) rfl rfl rfl rfl ?_
            first
              | (rw [show σ 548 10 = 0 by omega]; exact lm_emC0 hx hg hN (by omega) (by omega) 2 σ 0 _ 0 (by omega) (by omega) (mfs_0 _) (by omega))
              | (rw [show σ 548 10 = 1 by omega]; exact lm_emC1 hx hg hN (by omega) (by omega) 2 σ 0 _ 0 (by omega) (by omega) (mfs_0 _) (by omega))
        · skip
          refine y_push rfl ?_
          refine y_goto rfl ?_
          refine y_istore (L' := [some (2, 547), some (0, m), some (0, c), some (0, i), some (0, (σ 548 10)), some (0, 1), none, none, none, none, none, none, none, none, none]) rfl rfl rfl rfl ?_
          refine y_push rfl ?_
          refine y_istore (L' := [some (2, 547), some (0, m), some (0, c), some (0, i), some (0, (σ 548 10)), some (0, 1), some (0, (-1)), none, none, none, none, none, none, none, none]) rfl rfl rfl rfl ?_
          refine y_push rfl ?_
          refine y_istore (L' := [some (2, 547), some (0, m), some (0, c), some (0, i), some (0, (σ 548 10)), some (0, 1), some (0, (-1)), some (0, 0), none, none, none, none, none, none, none]) rfl rfl rfl rfl ?_
          refine y_push rfl ?_
          refine y_istore (L' := [some (2, 547), some (0, m), some (0, c), some (0, i), some (0, (σ 548 10)), some (0, 1), some (0, (-1)), some (0, 0), some (0, 0), none, none, none, none, none, none]) rfl rfl rfl rfl ?_
          first
            | (rw [show σ 548 10 = 0 by omega]; exact lm_emC0 hx hg hN (by omega) (by omega) 2 σ 0 _ 0 (by omega) (by omega) (mfs_0 _) (by omega))
            | (rw [show σ 548 10 = 1 by omega]; exact lm_emC1 hx hg hN (by omega) (by omega) 2 σ 0 _ 0 (by omega) (by omega) (mfs_0 _) (by omega))
      · skip
        refine y_aload rfl rfl rfl ?_
        refine y_vi (as := [(2, 547)]) (S := []) rfl rfl rfl rfl rfl rfl (by decide) rfl (m_badElse (by omega)) ?_
        rintro _ _ ⟨rfl, rfl⟩
        refine y_iret rfl rfl ⟨_, rfl, ?_⟩
        exact ⟨by rw [if_neg (by omega)]; exact mW_bump hg hx (by omega) rfl, cfr_s (cfr_0 _) (by omega)⟩
