theorem lm_f3_3 {g : Launch × XG × va_G} {σ : YS} {τ : YS} {Z : YZ} {I : Int → YZ} {M : YS} {N : Int} {m c i : Int} {r : Int × Int} {P0 : Int → YS → Prop}  (hx : mW σ Z I M) (hg : wG Z I M N) (hN : N < 100000) (hm : (0 ≤ m ∧ m ≤ 60) ∧ (0 ≤ c ∧ c < Z 0 0 0) ∧ -1 ≤ i) (hw : Z 0 1 0 = 3) (h1 : mfs σ τ) (hk : ∀ s, mfs σ s → YW g 93 82 [some (2, 547), some (0, m), some (0, c), some (0, i), some (0, 3), some (0, 27), some (0, r.1), some (0, r.2), some (0, 4), none, none, none, none, none, none] [] s (fun rv σ' => ∃ b, rv = some (0, b) ∧ (P0 b σ'))) : YW g 93 82 [some (2, 547), some (0, m), some (0, c), some (0, i), some (0, 3), some (0, 27), some (0, r.1), some (0, r.2), some (0, 3), none, none, none, none, none, none] [] τ (fun rv σ' => ∃ b, rv = some (0, b) ∧ (P0 b σ')) := by
  have e1 := hg.1.1.1
  have hn5 := hg.1.2.2.1
  refine y_iload rfl rfl ?_
  refine y_iload rfl rfl ?_
  refine y_icge rfl (fun q86 => ?_) (fun q86 => ?_)
  · exfalso; omega
  · skip
    refine y_aload rfl rfl rfl ?_
    refine y_vu (as := [(2, 547)]) (S := []) rfl rfl rfl rfl rfl rfl (by decide) rfl (m_layNow (mzs_cong hg.1.1 hx.1.1 (fun y a b => h1 548 y (by omega))) hg.1.1 hg.1.2.1 hg.1.2.2.2.2.1.1) ?_
    rintro s1 ⟨l1, l2⟩
    refine y_push rfl ?_
    refine y_istore (L' := [some (2, 547), some (0, m), some (0, c), some (0, i), some (0, 3), some (0, 27), some (0, r.1), some (0, r.2), some (0, 3), some (0, 0), none, none, none, none, none]) rfl rfl rfl rfl ?_
    refine y_iload rfl rfl ?_
    refine y_istore (L' := [some (2, 547), some (0, m), some (0, c), some (0, i), some (0, 3), some (0, 27), some (0, r.1), some (0, r.2), some (0, 3), some (0, 0), some (0, 3), none, none, none, none]) rfl rfl rfl rfl ?_
    refine y_iload rfl rfl ?_
    refine y_istore (L' := [some (2, 547), some (0, m), some (0, c), some (0, i), some (0, 3), some (0, 27), some (0, r.1), some (0, r.2), some (0, 3), some (0, 0), some (0, 3), some (0, 27), none, none, none]) rfl rfl rfl rfl ?_
    refine y_push rfl ?_
    refine y_istore (L' := [some (2, 547), some (0, m), some (0, c), some (0, i), some (0, 3), some (0, 27), some (0, r.1), some (0, r.2), some (0, 3), some (0, 0), some (0, 3), some (0, 27), some (0, 0), none, none]) rfl rfl rfl rfl ?_
    refine y_iload rfl rfl ?_
    refine y_iload rfl rfl ?_
    refine y_icge rfl (fun q111 => ?_) (fun q111 => ?_)
    · exfalso; omega
    · skip
      refine y_iload rfl rfl ?_
      refine y_iload rfl rfl ?_
      refine y_idiv (v := 9) rfl rfl (by omega) ?_
      refine y_istore (L' := [some (2, 547), some (0, m), some (0, c), some (0, i), some (0, 3), some (0, 27), some (0, r.1), some (0, r.2), some (0, 3), some (0, 0), some (0, 3), some (0, 9), some (0, 0), none, none]) rfl rfl rfl rfl ?_
      refine y_iload rfl rfl ?_
      refine y_iload rfl rfl ?_
      refine y_idiv (v := 0) rfl rfl (by omega) ?_
      refine y_iload rfl rfl ?_
      refine y_irem (v := 0) rfl rfl (by omega) ?_
      refine y_istore (L' := [some (2, 547), some (0, m), some (0, c), some (0, i), some (0, 3), some (0, 27), some (0, r.1), some (0, r.2), some (0, 3), some (0, 0), some (0, 3), some (0, 9), some (0, 0), some (0, 0), none]) rfl rfl rfl rfl ?_
      refine y_iload rfl rfl ?_
      refine y_push rfl ?_
      refine y_iload rfl rfl ?_
      refine y_ishl (v := 1) rfl rfl ?_
      refine y_ior (v := 1) rfl rfl ?_
      refine y_istore (L' := [some (2, 547), some (0, m), some (0, c), some (0, i), some (0, 3), some (0, 27), some (0, r.1), some (0, r.2), some (0, 3), some (0, 1), some (0, 3), some (0, 9), some (0, 0), some (0, 0), none]) rfl rfl rfl rfl ?_
      refine y_push rfl ?_
      refine y_istore (L' := [some (2, 547), some (0, m), some (0, c), some (0, i), some (0, 3), some (0, 27), some (0, r.1), some (0, r.2), some (0, 3), some (0, 1), some (0, 3), some (0, 9), some (0, 0), some (0, 0), some (0, 0)]) rfl rfl rfl rfl ?_
      refine lm_fT (C := (Z 1)) hx hg hN hm hg.1.2.1 (by omega) (fun s10 f1 r1 => ?_) 62 s1 0 (by omega) (by omega) (mfs_t h1 l2) l1
      refine y_aload rfl rfl rfl ?_
      refine y_gfr (t := 558) rfl rfl (by decide) rfl (by decide) ?_
      refine y_iload rfl rfl ?_
      refine y_push rfl ?_
      refine y_iast (n := 3) rfl rfl (by decide) rfl (by decide) ?_
      refine y_iinc (L' := [some (2, 547), some (0, m), some (0, c), some (0, i), some (0, 3), some (0, 27), some (0, r.1), some (0, r.2), some (0, 3), some (0, 1), some (0, 3), some (0, 9), some (0, 1), some (0, 0), none]) rfl rfl rfl rfl rfl (by decide) ?_
      refine y_goto rfl ?_
      refine y_iload rfl rfl ?_
      refine y_iload rfl rfl ?_
      refine y_icge rfl (fun q111 => ?_) (fun q111 => ?_)
      · exfalso; omega
      · skip
        refine y_iload rfl rfl ?_
        refine y_iload rfl rfl ?_
        refine y_idiv (v := 3) rfl rfl (by omega) ?_
        refine y_istore (L' := [some (2, 547), some (0, m), some (0, c), some (0, i), some (0, 3), some (0, 27), some (0, r.1), some (0, r.2), some (0, 3), some (0, 1), some (0, 3), some (0, 3), some (0, 1), some (0, 0), none]) rfl rfl rfl rfl ?_
        refine y_iload rfl rfl ?_
        refine y_iload rfl rfl ?_
        refine y_idiv (v := 1) rfl rfl (by omega) ?_
        refine y_iload rfl rfl ?_
        refine y_irem (v := 1) rfl rfl (by omega) ?_
        refine y_istore (L' := [some (2, 547), some (0, m), some (0, c), some (0, i), some (0, 3), some (0, 27), some (0, r.1), some (0, r.2), some (0, 3), some (0, 1), some (0, 3), some (0, 3), some (0, 1), some (0, 1), none]) rfl rfl rfl rfl ?_
        refine y_iload rfl rfl ?_
        refine y_push rfl ?_
        refine y_iload rfl rfl ?_
        refine y_ishl (v := 2) rfl rfl ?_
        refine y_ior (v := 3) rfl rfl ?_
        refine y_istore (L' := [some (2, 547), some (0, m), some (0, c), some (0, i), some (0, 3), some (0, 27), some (0, r.1), some (0, r.2), some (0, 3), some (0, 3), some (0, 3), some (0, 3), some (0, 1), some (0, 1), none]) rfl rfl rfl rfl ?_
        refine y_push rfl ?_
        refine y_istore (L' := [some (2, 547), some (0, m), some (0, c), some (0, i), some (0, 3), some (0, 27), some (0, r.1), some (0, r.2), some (0, 3), some (0, 3), some (0, 3), some (0, 3), some (0, 1), some (0, 1), some (0, 0)]) rfl rfl rfl rfl ?_
        have d1 : dG (Z 0) (mem1 (Z 0) m.toNat (Z 1) 0) := dG_mem1 hg.1.1 hg.1.2.1 (by omega)
        have v1 : (mem1 (Z 0) m.toNat (Z 1) 0) 5 0 = (Z 1) 5 0 + m.toNat := mem1_5
        refine lm_fT (C := (mem1 (Z 0) m.toNat (Z 1) 0)) hx hg hN hm d1 (by omega) (fun s11 f2 r2 => ?_) 62 (yset s10 558 0 1) 0 (by omega) (by omega) (mfs_s (k := 558) (j := 0) (v := 1) f1 (by omega)) (rm_m r1 (by omega) (by omega))
        refine y_aload rfl rfl rfl ?_
        refine y_gfr (t := 558) rfl rfl (by decide) rfl (by decide) ?_
        refine y_iload rfl rfl ?_
        refine y_push rfl ?_
        refine y_iast (n := 3) rfl rfl (by decide) rfl (by decide) ?_
        refine y_iinc (L' := [some (2, 547), some (0, m), some (0, c), some (0, i), some (0, 3), some (0, 27), some (0, r.1), some (0, r.2), some (0, 3), some (0, 3), some (0, 3), some (0, 3), some (0, 2), some (0, 1), none]) rfl rfl rfl rfl rfl (by decide) ?_
        refine y_goto rfl ?_
        refine y_iload rfl rfl ?_
        refine y_iload rfl rfl ?_
        refine y_icge rfl (fun q111 => ?_) (fun q111 => ?_)
        · exfalso; omega
        · skip
          refine y_iload rfl rfl ?_
          refine y_iload rfl rfl ?_
          refine y_idiv (v := 1) rfl rfl (by omega) ?_
          refine y_istore (L' := [some (2, 547), some (0, m), some (0, c), some (0, i), some (0, 3), some (0, 27), some (0, r.1), some (0, r.2), some (0, 3), some (0, 3), some (0, 3), some (0, 1), some (0, 2), some (0, 1), none]) rfl rfl rfl rfl ?_
          refine y_iload rfl rfl ?_
          refine y_iload rfl rfl ?_
          refine y_idiv (v := 3) rfl rfl (by omega) ?_
          refine y_iload rfl rfl ?_
          refine y_irem (v := 0) rfl rfl (by omega) ?_
          refine y_istore (L' := [some (2, 547), some (0, m), some (0, c), some (0, i), some (0, 3), some (0, 27), some (0, r.1), some (0, r.2), some (0, 3), some (0, 3), some (0, 3), some (0, 1), some (0, 2), some (0, 0), none]) rfl rfl rfl rfl ?_
          refine y_iload rfl rfl ?_
          refine y_push rfl ?_
          refine y_iload rfl rfl ?_
          refine y_ishl (v := 1) rfl rfl ?_
          refine y_ior (v := 3) rfl rfl ?_
          refine y_istore (L' := [some (2, 547), some (0, m), some (0, c), some (0, i), some (0, 3), some (0, 27), some (0, r.1), some (0, r.2), some (0, 3), some (0, 3), some (0, 3), some (0, 1), some (0, 2), some (0, 0), none]) rfl rfl rfl rfl ?_
          refine y_push rfl ?_
          refine y_istore (L' := [some (2, 547), some (0, m), some (0, c), some (0, i), some (0, 3), some (0, 27), some (0, r.1), some (0, r.2), some (0, 3), some (0, 3), some (0, 3), some (0, 1), some (0, 2), some (0, 0), some (0, 0)]) rfl rfl rfl rfl ?_
          have d2 : dG (Z 0) (mem1 (Z 0) m.toNat (mem1 (Z 0) m.toNat (Z 1) 0) 1) := dG_mem1 hg.1.1 d1 (by omega)
          have v2 : (mem1 (Z 0) m.toNat (mem1 (Z 0) m.toNat (Z 1) 0) 1) 5 0 = (mem1 (Z 0) m.toNat (Z 1) 0) 5 0 + m.toNat := mem1_5
          refine lm_fT (C := (mem1 (Z 0) m.toNat (mem1 (Z 0) m.toNat (Z 1) 0) 1)) hx hg hN hm d2 (by omega) (fun s12 f3 r3 => ?_) 62 (yset s11 558 1 1) 0 (by omega) (by omega) (mfs_s (k := 558) (j := 1) (v := 1) f2 (by omega)) (rm_m r2 (by omega) (by omega))
          refine y_aload rfl rfl rfl ?_
          refine y_gfr (t := 558) rfl rfl (by decide) rfl (by decide) ?_
          refine y_iload rfl rfl ?_
          refine y_push rfl ?_
          refine y_iast (n := 3) rfl rfl (by decide) rfl (by decide) ?_
          refine y_iinc (L' := [some (2, 547), some (0, m), some (0, c), some (0, i), some (0, 3), some (0, 27), some (0, r.1), some (0, r.2), some (0, 3), some (0, 3), some (0, 3), some (0, 1), some (0, 3), some (0, 0), none]) rfl rfl rfl rfl rfl (by decide) ?_
          refine y_goto rfl ?_
          refine y_iload rfl rfl ?_
          refine y_iload rfl rfl ?_
          refine y_icge rfl (fun q111 => ?_) (fun q111 => ?_)
          · skip
            refine y_iload rfl rfl ?_
            refine y_push rfl ?_
            refine y_iload rfl rfl ?_
            refine y_ishl (v := 8) rfl rfl ?_
            refine y_push rfl ?_
            refine y_isub (v := 7) rfl rfl (by decide) ?_
            refine y_icne rfl (fun q182 => ?_) (fun q182 => ?_)
            · skip
              refine y_push rfl ?_
              refine y_istore (L' := [some (2, 547), some (0, m), some (0, c), some (0, i), some (0, 3), some (0, 27), some (0, r.1), some (0, r.2), some (0, 3), some (0, 3), some (0, 3), some (0, 1), some (0, 0), some (0, 0), none]) rfl rfl rfl rfl ?_
              refine y_iload rfl rfl ?_
              refine y_ifeq rfl (fun q194 => ?_) (fun q194 => ?_)
              · skip
                refine y_iload rfl rfl ?_
                refine y_istore (L' := [some (2, 547), some (0, m), some (0, c), some (0, i), some (0, 3), some (0, 27), some (0, r.1), some (0, r.2), some (0, 3), some (0, 3), some (0, 3), some (0, 1), some (0, 0), some (0, 0), none]) rfl rfl rfl rfl ?_
                refine y_iload rfl rfl ?_
                refine y_ifeq rfl (fun q219 => ?_) (fun q219 => ?_)
                · skip
                  refine y_iload rfl rfl ?_
                  refine y_istore (L' := [some (2, 547), some (0, m), some (0, c), some (0, i), some (0, 3), some (0, 27), some (0, r.1), some (0, r.2), some (0, 3), some (0, 3), some (0, 3), some (0, 1), some (0, 0), some (0, 0), none]) rfl rfl rfl rfl ?_
                  refine y_iinc (L' := [some (2, 547), some (0, m), some (0, c), some (0, i), some (0, 3), some (0, 27), some (0, r.1), some (0, r.2), some (0, 4), some (0, 3), some (0, 3), some (0, 1), some (0, 0), some (0, 0), none]) rfl rfl rfl rfl rfl (by decide) ?_
                  refine y_goto rfl ?_
                  refine y_forget (M := [some (2, 547), some (0, m), some (0, c), some (0, i), some (0, 3), some (0, 27), some (0, r.1), some (0, r.2), some (0, 4), none, none, none, none, none, none]) ⟨Or.inr rfl, ⟨Or.inr rfl, ⟨Or.inr rfl, ⟨Or.inr rfl, ⟨Or.inr rfl, ⟨Or.inr rfl, ⟨Or.inr rfl, ⟨Or.inr rfl, ⟨Or.inr rfl, ⟨Or.inl rfl, ⟨Or.inl rfl, ⟨Or.inl rfl, ⟨Or.inl rfl, ⟨Or.inl rfl, ⟨Or.inl rfl, trivial⟩⟩⟩⟩⟩⟩⟩⟩⟩⟩⟩⟩⟩⟩⟩ ?_
                  exact hk _ (mfs_s (k := 558) (j := 0) (v := 1) f3 (by omega))
                · exfalso; omega
              · exfalso; omega
            · exfalso; omega
          · exfalso; omega
theorem lm_f3_4 {g : Launch × XG × va_G} {σ : YS} {τ : YS} {Z : YZ} {I : Int → YZ} {M : YS} {N : Int} {m c i : Int} {r : Int × Int} {P0 : Int → YS → Prop}  (hx : mW σ Z I M) (hg : wG Z I M N) (hN : N < 100000) (hm : (0 ≤ m ∧ m ≤ 60) ∧ (0 ≤ c ∧ c < Z 0 0 0) ∧ -1 ≤ i) (hw : Z 0 1 0 = 3) (h1 : mfs σ τ) (hk : ∀ s, mfs σ s → YW g 93 82 [some (2, 547), some (0, m), some (0, c), some (0, i), some (0, 3), some (0, 27), some (0, r.1), some (0, r.2), some (0, 5), none, none, none, none, none, none] [] s (fun rv σ' => ∃ b, rv = some (0, b) ∧ (P0 b σ'))) : YW g 93 82 [some (2, 547), some (0, m), some (0, c), some (0, i), some (0, 3), some (0, 27), some (0, r.1), some (0, r.2), some (0, 4), none, none, none, none, none, none] [] τ (fun rv σ' => ∃ b, rv = some (0, b) ∧ (P0 b σ')) := by
  have e1 := hg.1.1.1
  have hn5 := hg.1.2.2.1
  refine y_iload rfl rfl ?_
  refine y_iload rfl rfl ?_
  refine y_icge rfl (fun q86 => ?_) (fun q86 => ?_)
  · exfalso; omega
  · skip
    refine y_aload rfl rfl rfl ?_
    refine y_vu (as := [(2, 547)]) (S := []) rfl rfl rfl rfl rfl rfl (by decide) rfl (m_layNow (mzs_cong hg.1.1 hx.1.1 (fun y a b => h1 548 y (by omega))) hg.1.1 hg.1.2.1 hg.1.2.2.2.2.1.1) ?_
    rintro s1 ⟨l1, l2⟩
    refine y_push rfl ?_
    refine y_istore (L' := [some (2, 547), some (0, m), some (0, c), some (0, i), some (0, 3), some (0, 27), some (0, r.1), some (0, r.2), some (0, 4), some (0, 0), none, none, none, none, none]) rfl rfl rfl rfl ?_
    refine y_iload rfl rfl ?_
    refine y_istore (L' := [some (2, 547), some (0, m), some (0, c), some (0, i), some (0, 3), some (0, 27), some (0, r.1), some (0, r.2), some (0, 4), some (0, 0), some (0, 4), none, none, none, none]) rfl rfl rfl rfl ?_
    refine y_iload rfl rfl ?_
    refine y_istore (L' := [some (2, 547), some (0, m), some (0, c), some (0, i), some (0, 3), some (0, 27), some (0, r.1), some (0, r.2), some (0, 4), some (0, 0), some (0, 4), some (0, 27), none, none, none]) rfl rfl rfl rfl ?_
    refine y_push rfl ?_
    refine y_istore (L' := [some (2, 547), some (0, m), some (0, c), some (0, i), some (0, 3), some (0, 27), some (0, r.1), some (0, r.2), some (0, 4), some (0, 0), some (0, 4), some (0, 27), some (0, 0), none, none]) rfl rfl rfl rfl ?_
    refine y_iload rfl rfl ?_
    refine y_iload rfl rfl ?_
    refine y_icge rfl (fun q111 => ?_) (fun q111 => ?_)
    · exfalso; omega
    · skip
      refine y_iload rfl rfl ?_
      refine y_iload rfl rfl ?_
      refine y_idiv (v := 9) rfl rfl (by omega) ?_
      refine y_istore (L' := [some (2, 547), some (0, m), some (0, c), some (0, i), some (0, 3), some (0, 27), some (0, r.1), some (0, r.2), some (0, 4), some (0, 0), some (0, 4), some (0, 9), some (0, 0), none, none]) rfl rfl rfl rfl ?_
      refine y_iload rfl rfl ?_
      refine y_iload rfl rfl ?_
      refine y_idiv (v := 0) rfl rfl (by omega) ?_
      refine y_iload rfl rfl ?_
      refine y_irem (v := 0) rfl rfl (by omega) ?_
      refine y_istore (L' := [some (2, 547), some (0, m), some (0, c), some (0, i), some (0, 3), some (0, 27), some (0, r.1), some (0, r.2), some (0, 4), some (0, 0), some (0, 4), some (0, 9), some (0, 0), some (0, 0), none]) rfl rfl rfl rfl ?_
      refine y_iload rfl rfl ?_
      refine y_push rfl ?_
      refine y_iload rfl rfl ?_
      refine y_ishl (v := 1) rfl rfl ?_
      refine y_ior (v := 1) rfl rfl ?_
      refine y_istore (L' := [some (2, 547), some (0, m), some (0, c), some (0, i), some (0, 3), some (0, 27), some (0, r.1), some (0, r.2), some (0, 4), some (0, 1), some (0, 4), some (0, 9), some (0, 0), some (0, 0), none]) rfl rfl rfl rfl ?_
      refine y_push rfl ?_
      refine y_istore (L' := [some (2, 547), some (0, m), some (0, c), some (0, i), some (0, 3), some (0, 27), some (0, r.1), some (0, r.2), some (0, 4), some (0, 1), some (0, 4), some (0, 9), some (0, 0), some (0, 0), some (0, 0)]) rfl rfl rfl rfl ?_
      refine lm_fT (C := (Z 1)) hx hg hN hm hg.1.2.1 (by omega) (fun s10 f1 r1 => ?_) 62 s1 0 (by omega) (by omega) (mfs_t h1 l2) l1
      refine y_aload rfl rfl rfl ?_
      refine y_gfr (t := 558) rfl rfl (by decide) rfl (by decide) ?_
      refine y_iload rfl rfl ?_
      refine y_push rfl ?_
      refine y_iast (n := 3) rfl rfl (by decide) rfl (by decide) ?_
      refine y_iinc (L' := [some (2, 547), some (0, m), some (0, c), some (0, i), some (0, 3), some (0, 27), some (0, r.1), some (0, r.2), some (0, 4), some (0, 1), some (0, 4), some (0, 9), some (0, 1), some (0, 0), none]) rfl rfl rfl rfl rfl (by decide) ?_
      refine y_goto rfl ?_
      refine y_iload rfl rfl ?_
      refine y_iload rfl rfl ?_
      refine y_icge rfl (fun q111 => ?_) (fun q111 => ?_)
      · exfalso; omega
      · skip
        refine y_iload rfl rfl ?_
        refine y_iload rfl rfl ?_
        refine y_idiv (v := 3) rfl rfl (by omega) ?_
        refine y_istore (L' := [some (2, 547), some (0, m), some (0, c), some (0, i), some (0, 3), some (0, 27), some (0, r.1), some (0, r.2), some (0, 4), some (0, 1), some (0, 4), some (0, 3), some (0, 1), some (0, 0), none]) rfl rfl rfl rfl ?_
        refine y_iload rfl rfl ?_
        refine y_iload rfl rfl ?_
        refine y_idiv (v := 1) rfl rfl (by omega) ?_
        refine y_iload rfl rfl ?_
        refine y_irem (v := 1) rfl rfl (by omega) ?_
        refine y_istore (L' := [some (2, 547), some (0, m), some (0, c), some (0, i), some (0, 3), some (0, 27), some (0, r.1), some (0, r.2), some (0, 4), some (0, 1), some (0, 4), some (0, 3), some (0, 1), some (0, 1), none]) rfl rfl rfl rfl ?_
        refine y_iload rfl rfl ?_
        refine y_push rfl ?_
        refine y_iload rfl rfl ?_
        refine y_ishl (v := 2) rfl rfl ?_
        refine y_ior (v := 3) rfl rfl ?_
        refine y_istore (L' := [some (2, 547), some (0, m), some (0, c), some (0, i), some (0, 3), some (0, 27), some (0, r.1), some (0, r.2), some (0, 4), some (0, 3), some (0, 4), some (0, 3), some (0, 1), some (0, 1), none]) rfl rfl rfl rfl ?_
        refine y_push rfl ?_
        refine y_istore (L' := [some (2, 547), some (0, m), some (0, c), some (0, i), some (0, 3), some (0, 27), some (0, r.1), some (0, r.2), some (0, 4), some (0, 3), some (0, 4), some (0, 3), some (0, 1), some (0, 1), some (0, 0)]) rfl rfl rfl rfl ?_
        have d1 : dG (Z 0) (mem1 (Z 0) m.toNat (Z 1) 0) := dG_mem1 hg.1.1 hg.1.2.1 (by omega)
        have v1 : (mem1 (Z 0) m.toNat (Z 1) 0) 5 0 = (Z 1) 5 0 + m.toNat := mem1_5
        refine lm_fT (C := (mem1 (Z 0) m.toNat (Z 1) 0)) hx hg hN hm d1 (by omega) (fun s11 f2 r2 => ?_) 62 (yset s10 558 0 1) 0 (by omega) (by omega) (mfs_s (k := 558) (j := 0) (v := 1) f1 (by omega)) (rm_m r1 (by omega) (by omega))
        refine y_aload rfl rfl rfl ?_
        refine y_gfr (t := 558) rfl rfl (by decide) rfl (by decide) ?_
        refine y_iload rfl rfl ?_
        refine y_push rfl ?_
        refine y_iast (n := 3) rfl rfl (by decide) rfl (by decide) ?_
        refine y_iinc (L' := [some (2, 547), some (0, m), some (0, c), some (0, i), some (0, 3), some (0, 27), some (0, r.1), some (0, r.2), some (0, 4), some (0, 3), some (0, 4), some (0, 3), some (0, 2), some (0, 1), none]) rfl rfl rfl rfl rfl (by decide) ?_
        refine y_goto rfl ?_
        refine y_iload rfl rfl ?_
        refine y_iload rfl rfl ?_
        refine y_icge rfl (fun q111 => ?_) (fun q111 => ?_)
        · exfalso; omega
        · skip
          refine y_iload rfl rfl ?_
          refine y_iload rfl rfl ?_
          refine y_idiv (v := 1) rfl rfl (by omega) ?_
          refine y_istore (L' := [some (2, 547), some (0, m), some (0, c), some (0, i), some (0, 3), some (0, 27), some (0, r.1), some (0, r.2), some (0, 4), some (0, 3), some (0, 4), some (0, 1), some (0, 2), some (0, 1), none]) rfl rfl rfl rfl ?_
          refine y_iload rfl rfl ?_
          refine y_iload rfl rfl ?_
          refine y_idiv (v := 4) rfl rfl (by omega) ?_
          refine y_iload rfl rfl ?_
          refine y_irem (v := 1) rfl rfl (by omega) ?_
          refine y_istore (L' := [some (2, 547), some (0, m), some (0, c), some (0, i), some (0, 3), some (0, 27), some (0, r.1), some (0, r.2), some (0, 4), some (0, 3), some (0, 4), some (0, 1), some (0, 2), some (0, 1), none]) rfl rfl rfl rfl ?_
          refine y_iload rfl rfl ?_
          refine y_push rfl ?_
          refine y_iload rfl rfl ?_
          refine y_ishl (v := 2) rfl rfl ?_
          refine y_ior (v := 3) rfl rfl ?_
          refine y_istore (L' := [some (2, 547), some (0, m), some (0, c), some (0, i), some (0, 3), some (0, 27), some (0, r.1), some (0, r.2), some (0, 4), some (0, 3), some (0, 4), some (0, 1), some (0, 2), some (0, 1), none]) rfl rfl rfl rfl ?_
          refine y_push rfl ?_
          refine y_istore (L' := [some (2, 547), some (0, m), some (0, c), some (0, i), some (0, 3), some (0, 27), some (0, r.1), some (0, r.2), some (0, 4), some (0, 3), some (0, 4), some (0, 1), some (0, 2), some (0, 1), some (0, 0)]) rfl rfl rfl rfl ?_
          have d2 : dG (Z 0) (mem1 (Z 0) m.toNat (mem1 (Z 0) m.toNat (Z 1) 0) 1) := dG_mem1 hg.1.1 d1 (by omega)
          have v2 : (mem1 (Z 0) m.toNat (mem1 (Z 0) m.toNat (Z 1) 0) 1) 5 0 = (mem1 (Z 0) m.toNat (Z 1) 0) 5 0 + m.toNat := mem1_5
          refine lm_fT (C := (mem1 (Z 0) m.toNat (mem1 (Z 0) m.toNat (Z 1) 0) 1)) hx hg hN hm d2 (by omega) (fun s12 f3 r3 => ?_) 62 (yset s11 558 1 1) 0 (by omega) (by omega) (mfs_s (k := 558) (j := 1) (v := 1) f2 (by omega)) (rm_m r2 (by omega) (by omega))
          refine y_aload rfl rfl rfl ?_
          refine y_gfr (t := 558) rfl rfl (by decide) rfl (by decide) ?_
          refine y_iload rfl rfl ?_
          refine y_push rfl ?_
          refine y_iast (n := 3) rfl rfl (by decide) rfl (by decide) ?_
          refine y_iinc (L' := [some (2, 547), some (0, m), some (0, c), some (0, i), some (0, 3), some (0, 27), some (0, r.1), some (0, r.2), some (0, 4), some (0, 3), some (0, 4), some (0, 1), some (0, 3), some (0, 1), none]) rfl rfl rfl rfl rfl (by decide) ?_
          refine y_goto rfl ?_
          refine y_iload rfl rfl ?_
          refine y_iload rfl rfl ?_
          refine y_icge rfl (fun q111 => ?_) (fun q111 => ?_)
          · skip
            refine y_iload rfl rfl ?_
            refine y_push rfl ?_
            refine y_iload rfl rfl ?_
            refine y_ishl (v := 8) rfl rfl ?_
            refine y_push rfl ?_
            refine y_isub (v := 7) rfl rfl (by decide) ?_
            refine y_icne rfl (fun q182 => ?_) (fun q182 => ?_)
            · skip
              refine y_push rfl ?_
              refine y_istore (L' := [some (2, 547), some (0, m), some (0, c), some (0, i), some (0, 3), some (0, 27), some (0, r.1), some (0, r.2), some (0, 4), some (0, 3), some (0, 4), some (0, 1), some (0, 0), some (0, 1), none]) rfl rfl rfl rfl ?_
              refine y_iload rfl rfl ?_
              refine y_ifeq rfl (fun q194 => ?_) (fun q194 => ?_)
              · skip
                refine y_iload rfl rfl ?_
                refine y_istore (L' := [some (2, 547), some (0, m), some (0, c), some (0, i), some (0, 3), some (0, 27), some (0, r.1), some (0, r.2), some (0, 4), some (0, 3), some (0, 4), some (0, 1), some (0, 0), some (0, 1), none]) rfl rfl rfl rfl ?_
                refine y_iload rfl rfl ?_
                refine y_ifeq rfl (fun q219 => ?_) (fun q219 => ?_)
                · skip
                  refine y_iload rfl rfl ?_
                  refine y_istore (L' := [some (2, 547), some (0, m), some (0, c), some (0, i), some (0, 3), some (0, 27), some (0, r.1), some (0, r.2), some (0, 4), some (0, 3), some (0, 4), some (0, 1), some (0, 0), some (0, 1), none]) rfl rfl rfl rfl ?_
                  refine y_iinc (L' := [some (2, 547), some (0, m), some (0, c), some (0, i), some (0, 3), some (0, 27), some (0, r.1), some (0, r.2), some (0, 5), some (0, 3), some (0, 4), some (0, 1), some (0, 0), some (0, 1), none]) rfl rfl rfl rfl rfl (by decide) ?_
                  refine y_goto rfl ?_
                  refine y_forget (M := [some (2, 547), some (0, m), some (0, c), some (0, i), some (0, 3), some (0, 27), some (0, r.1), some (0, r.2), some (0, 5), none, none, none, none, none, none]) ⟨Or.inr rfl, ⟨Or.inr rfl, ⟨Or.inr rfl, ⟨Or.inr rfl, ⟨Or.inr rfl, ⟨Or.inr rfl, ⟨Or.inr rfl, ⟨Or.inr rfl, ⟨Or.inr rfl, ⟨Or.inl rfl, ⟨Or.inl rfl, ⟨Or.inl rfl, ⟨Or.inl rfl, ⟨Or.inl rfl, ⟨Or.inl rfl, trivial⟩⟩⟩⟩⟩⟩⟩⟩⟩⟩⟩⟩⟩⟩⟩ ?_
                  exact hk _ (mfs_s (k := 558) (j := 1) (v := 1) f3 (by omega))
                · exfalso; omega
              · exfalso; omega
            · exfalso; omega
          · exfalso; omega
theorem lm_f3_5 {g : Launch × XG × va_G} {σ : YS} {τ : YS} {Z : YZ} {I : Int → YZ} {M : YS} {N : Int} {m c i : Int} {r : Int × Int} {P0 : Int → YS → Prop}  (hx : mW σ Z I M) (hg : wG Z I M N) (hN : N < 100000) (hm : (0 ≤ m ∧ m ≤ 60) ∧ (0 ≤ c ∧ c < Z 0 0 0) ∧ -1 ≤ i) (hw : Z 0 1 0 = 3) (h1 : mfs σ τ) (hk : ∀ s, mfs σ s → YW g 93 82 [some (2, 547), some (0, m), some (0, c), some (0, i), some (0, 3), some (0, 27), some (0, (mbx r ((mem1 (Z 0) m.toNat (mem1 (Z 0) m.toNat (mem1 (Z 0) m.toNat (Z 1) 0) 1) 2) 0 c) 5).1), some (0, (mbx r ((mem1 (Z 0) m.toNat (mem1 (Z 0) m.toNat (mem1 (Z 0) m.toNat (Z 1) 0) 1) 2) 0 c) 5).2), some (0, 6), none, none, none, none, none, none] [] s (fun rv σ' => ∃ b, rv = some (0, b) ∧ (P0 b σ'))) : YW g 93 82 [some (2, 547), some (0, m), some (0, c), some (0, i), some (0, 3), some (0, 27), some (0, r.1), some (0, r.2), some (0, 5), none, none, none, none, none, none] [] τ (fun rv σ' => ∃ b, rv = some (0, b) ∧ (P0 b σ')) := by
  have e1 := hg.1.1.1
  have hn5 := hg.1.2.2.1
  refine y_iload rfl rfl ?_
  refine y_iload rfl rfl ?_
  refine y_icge rfl (fun q86 => ?_) (fun q86 => ?_)
  · exfalso; omega
  · skip
    refine y_aload rfl rfl rfl ?_
    refine y_vu (as := [(2, 547)]) (S := []) rfl rfl rfl rfl rfl rfl (by decide) rfl (m_layNow (mzs_cong hg.1.1 hx.1.1 (fun y a b => h1 548 y (by omega))) hg.1.1 hg.1.2.1 hg.1.2.2.2.2.1.1) ?_
    rintro s1 ⟨l1, l2⟩
    refine y_push rfl ?_
    refine y_istore (L' := [some (2, 547), some (0, m), some (0, c), some (0, i), some (0, 3), some (0, 27), some (0, r.1), some (0, r.2), some (0, 5), some (0, 0), none, none, none, none, none]) rfl rfl rfl rfl ?_
    refine y_iload rfl rfl ?_
    refine y_istore (L' := [some (2, 547), some (0, m), some (0, c), some (0, i), some (0, 3), some (0, 27), some (0, r.1), some (0, r.2), some (0, 5), some (0, 0), some (0, 5), none, none, none, none]) rfl rfl rfl rfl ?_
    refine y_iload rfl rfl ?_
    refine y_istore (L' := [some (2, 547), some (0, m), some (0, c), some (0, i), some (0, 3), some (0, 27), some (0, r.1), some (0, r.2), some (0, 5), some (0, 0), some (0, 5), some (0, 27), none, none, none]) rfl rfl rfl rfl ?_
    refine y_push rfl ?_
    refine y_istore (L' := [some (2, 547), some (0, m), some (0, c), some (0, i), some (0, 3), some (0, 27), some (0, r.1), some (0, r.2), some (0, 5), some (0, 0), some (0, 5), some (0, 27), some (0, 0), none, none]) rfl rfl rfl rfl ?_
    refine y_iload rfl rfl ?_
    refine y_iload rfl rfl ?_
    refine y_icge rfl (fun q111 => ?_) (fun q111 => ?_)
    · exfalso; omega
    · skip
      refine y_iload rfl rfl ?_
      refine y_iload rfl rfl ?_
      refine y_idiv (v := 9) rfl rfl (by omega) ?_
      refine y_istore (L' := [some (2, 547), some (0, m), some (0, c), some (0, i), some (0, 3), some (0, 27), some (0, r.1), some (0, r.2), some (0, 5), some (0, 0), some (0, 5), some (0, 9), some (0, 0), none, none]) rfl rfl rfl rfl ?_
      refine y_iload rfl rfl ?_
      refine y_iload rfl rfl ?_
      refine y_idiv (v := 0) rfl rfl (by omega) ?_
      refine y_iload rfl rfl ?_
      refine y_irem (v := 0) rfl rfl (by omega) ?_
      refine y_istore (L' := [some (2, 547), some (0, m), some (0, c), some (0, i), some (0, 3), some (0, 27), some (0, r.1), some (0, r.2), some (0, 5), some (0, 0), some (0, 5), some (0, 9), some (0, 0), some (0, 0), none]) rfl rfl rfl rfl ?_
      refine y_iload rfl rfl ?_
      refine y_push rfl ?_
      refine y_iload rfl rfl ?_
      refine y_ishl (v := 1) rfl rfl ?_
      refine y_ior (v := 1) rfl rfl ?_
      refine y_istore (L' := [some (2, 547), some (0, m), some (0, c), some (0, i), some (0, 3), some (0, 27), some (0, r.1), some (0, r.2), some (0, 5), some (0, 1), some (0, 5), some (0, 9), some (0, 0), some (0, 0), none]) rfl rfl rfl rfl ?_
      refine y_push rfl ?_
      refine y_istore (L' := [some (2, 547), some (0, m), some (0, c), some (0, i), some (0, 3), some (0, 27), some (0, r.1), some (0, r.2), some (0, 5), some (0, 1), some (0, 5), some (0, 9), some (0, 0), some (0, 0), some (0, 0)]) rfl rfl rfl rfl ?_
      refine lm_fT (C := (Z 1)) hx hg hN hm hg.1.2.1 (by omega) (fun s10 f1 r1 => ?_) 62 s1 0 (by omega) (by omega) (mfs_t h1 l2) l1
      refine y_aload rfl rfl rfl ?_
      refine y_gfr (t := 558) rfl rfl (by decide) rfl (by decide) ?_
      refine y_iload rfl rfl ?_
      refine y_push rfl ?_
      refine y_iast (n := 3) rfl rfl (by decide) rfl (by decide) ?_
      refine y_iinc (L' := [some (2, 547), some (0, m), some (0, c), some (0, i), some (0, 3), some (0, 27), some (0, r.1), some (0, r.2), some (0, 5), some (0, 1), some (0, 5), some (0, 9), some (0, 1), some (0, 0), none]) rfl rfl rfl rfl rfl (by decide) ?_
      refine y_goto rfl ?_
      refine y_iload rfl rfl ?_
      refine y_iload rfl rfl ?_
      refine y_icge rfl (fun q111 => ?_) (fun q111 => ?_)
      · exfalso; omega
      · skip
        refine y_iload rfl rfl ?_
        refine y_iload rfl rfl ?_
        refine y_idiv (v := 3) rfl rfl (by omega) ?_
        refine y_istore (L' := [some (2, 547), some (0, m), some (0, c), some (0, i), some (0, 3), some (0, 27), some (0, r.1), some (0, r.2), some (0, 5), some (0, 1), some (0, 5), some (0, 3), some (0, 1), some (0, 0), none]) rfl rfl rfl rfl ?_
        refine y_iload rfl rfl ?_
        refine y_iload rfl rfl ?_
        refine y_idiv (v := 1) rfl rfl (by omega) ?_
        refine y_iload rfl rfl ?_
        refine y_irem (v := 1) rfl rfl (by omega) ?_
        refine y_istore (L' := [some (2, 547), some (0, m), some (0, c), some (0, i), some (0, 3), some (0, 27), some (0, r.1), some (0, r.2), some (0, 5), some (0, 1), some (0, 5), some (0, 3), some (0, 1), some (0, 1), none]) rfl rfl rfl rfl ?_
        refine y_iload rfl rfl ?_
        refine y_push rfl ?_
        refine y_iload rfl rfl ?_
        refine y_ishl (v := 2) rfl rfl ?_
        refine y_ior (v := 3) rfl rfl ?_
        refine y_istore (L' := [some (2, 547), some (0, m), some (0, c), some (0, i), some (0, 3), some (0, 27), some (0, r.1), some (0, r.2), some (0, 5), some (0, 3), some (0, 5), some (0, 3), some (0, 1), some (0, 1), none]) rfl rfl rfl rfl ?_
        refine y_push rfl ?_
        refine y_istore (L' := [some (2, 547), some (0, m), some (0, c), some (0, i), some (0, 3), some (0, 27), some (0, r.1), some (0, r.2), some (0, 5), some (0, 3), some (0, 5), some (0, 3), some (0, 1), some (0, 1), some (0, 0)]) rfl rfl rfl rfl ?_
        have d1 : dG (Z 0) (mem1 (Z 0) m.toNat (Z 1) 0) := dG_mem1 hg.1.1 hg.1.2.1 (by omega)
        have v1 : (mem1 (Z 0) m.toNat (Z 1) 0) 5 0 = (Z 1) 5 0 + m.toNat := mem1_5
        refine lm_fT (C := (mem1 (Z 0) m.toNat (Z 1) 0)) hx hg hN hm d1 (by omega) (fun s11 f2 r2 => ?_) 62 (yset s10 558 0 1) 0 (by omega) (by omega) (mfs_s (k := 558) (j := 0) (v := 1) f1 (by omega)) (rm_m r1 (by omega) (by omega))
        refine y_aload rfl rfl rfl ?_
        refine y_gfr (t := 558) rfl rfl (by decide) rfl (by decide) ?_
        refine y_iload rfl rfl ?_
        refine y_push rfl ?_
        refine y_iast (n := 3) rfl rfl (by decide) rfl (by decide) ?_
        refine y_iinc (L' := [some (2, 547), some (0, m), some (0, c), some (0, i), some (0, 3), some (0, 27), some (0, r.1), some (0, r.2), some (0, 5), some (0, 3), some (0, 5), some (0, 3), some (0, 2), some (0, 1), none]) rfl rfl rfl rfl rfl (by decide) ?_
        refine y_goto rfl ?_
        refine y_iload rfl rfl ?_
        refine y_iload rfl rfl ?_
        refine y_icge rfl (fun q111 => ?_) (fun q111 => ?_)
        · exfalso; omega
        · skip
          refine y_iload rfl rfl ?_
          refine y_iload rfl rfl ?_
          refine y_idiv (v := 1) rfl rfl (by omega) ?_
          refine y_istore (L' := [some (2, 547), some (0, m), some (0, c), some (0, i), some (0, 3), some (0, 27), some (0, r.1), some (0, r.2), some (0, 5), some (0, 3), some (0, 5), some (0, 1), some (0, 2), some (0, 1), none]) rfl rfl rfl rfl ?_
          refine y_iload rfl rfl ?_
          refine y_iload rfl rfl ?_
          refine y_idiv (v := 5) rfl rfl (by omega) ?_
          refine y_iload rfl rfl ?_
          refine y_irem (v := 2) rfl rfl (by omega) ?_
          refine y_istore (L' := [some (2, 547), some (0, m), some (0, c), some (0, i), some (0, 3), some (0, 27), some (0, r.1), some (0, r.2), some (0, 5), some (0, 3), some (0, 5), some (0, 1), some (0, 2), some (0, 2), none]) rfl rfl rfl rfl ?_
          refine y_iload rfl rfl ?_
          refine y_push rfl ?_
          refine y_iload rfl rfl ?_
          refine y_ishl (v := 4) rfl rfl ?_
          refine y_ior (v := 7) rfl rfl ?_
          refine y_istore (L' := [some (2, 547), some (0, m), some (0, c), some (0, i), some (0, 3), some (0, 27), some (0, r.1), some (0, r.2), some (0, 5), some (0, 7), some (0, 5), some (0, 1), some (0, 2), some (0, 2), none]) rfl rfl rfl rfl ?_
          refine y_push rfl ?_
          refine y_istore (L' := [some (2, 547), some (0, m), some (0, c), some (0, i), some (0, 3), some (0, 27), some (0, r.1), some (0, r.2), some (0, 5), some (0, 7), some (0, 5), some (0, 1), some (0, 2), some (0, 2), some (0, 0)]) rfl rfl rfl rfl ?_
          have d2 : dG (Z 0) (mem1 (Z 0) m.toNat (mem1 (Z 0) m.toNat (Z 1) 0) 1) := dG_mem1 hg.1.1 d1 (by omega)
          have v2 : (mem1 (Z 0) m.toNat (mem1 (Z 0) m.toNat (Z 1) 0) 1) 5 0 = (mem1 (Z 0) m.toNat (Z 1) 0) 5 0 + m.toNat := mem1_5
          refine lm_fT (C := (mem1 (Z 0) m.toNat (mem1 (Z 0) m.toNat (Z 1) 0) 1)) hx hg hN hm d2 (by omega) (fun s12 f3 r3 => ?_) 62 (yset s11 558 1 1) 0 (by omega) (by omega) (mfs_s (k := 558) (j := 1) (v := 1) f2 (by omega)) (rm_m r2 (by omega) (by omega))
          refine y_aload rfl rfl rfl ?_
          refine y_gfr (t := 558) rfl rfl (by decide) rfl (by decide) ?_
          refine y_iload rfl rfl ?_
          refine y_push rfl ?_
          refine y_iast (n := 3) rfl rfl (by decide) rfl (by decide) ?_
          refine y_iinc (L' := [some (2, 547), some (0, m), some (0, c), some (0, i), some (0, 3), some (0, 27), some (0, r.1), some (0, r.2), some (0, 5), some (0, 7), some (0, 5), some (0, 1), some (0, 3), some (0, 2), none]) rfl rfl rfl rfl rfl (by decide) ?_
          refine y_goto rfl ?_
          refine y_iload rfl rfl ?_
          refine y_iload rfl rfl ?_
          refine y_icge rfl (fun q111 => ?_) (fun q111 => ?_)
          · skip
            refine y_iload rfl rfl ?_
            refine y_push rfl ?_
            refine y_iload rfl rfl ?_
            refine y_ishl (v := 8) rfl rfl ?_
            refine y_push rfl ?_
            refine y_isub (v := 7) rfl rfl (by decide) ?_
            refine y_icne rfl (fun q182 => ?_) (fun q182 => ?_)
            · exfalso; omega
            · skip
              refine y_push rfl ?_
              refine y_goto rfl ?_
              refine y_istore (L' := [some (2, 547), some (0, m), some (0, c), some (0, i), some (0, 3), some (0, 27), some (0, r.1), some (0, r.2), some (0, 5), some (0, 7), some (0, 5), some (0, 1), some (0, 1), some (0, 2), none]) rfl rfl rfl rfl ?_
              have hv : s12 554 c = ((mem1 (Z 0) m.toNat (mem1 (Z 0) m.toNat (mem1 (Z 0) m.toNat (Z 1) 0) 1) 2) 0 c) := (r3.2.1 c (by omega) (by omega)).trans (yne (by omega) rfl).symm
              refine y_iload rfl rfl ?_
              refine y_ifeq rfl (fun q194 => ?_) (fun q194 => ?_)
              · exfalso; omega
              · skip
                refine y_aload rfl rfl rfl ?_
                refine y_gfr (t := 554) rfl rfl (by decide) rfl (by decide) ?_
                refine y_iload rfl rfl ?_
                refine y_iald (v := (s12 554 c)) (n := 9) rfl rfl (by decide) rfl (by omega) (yne (by omega) rfl) ?_
                refine y_iload rfl rfl ?_
                refine y_icle rfl (fun q205 => ?_) (fun q205 => ?_)
                · skip
                  refine y_iload rfl rfl ?_
                  refine y_istore (L' := [some (2, 547), some (0, m), some (0, c), some (0, i), some (0, 3), some (0, 27), some (0, r.1), some (0, r.2), some (0, 5), some (0, 7), some (0, 5), some (0, 1), some (0, 1), some (0, 2), none]) rfl rfl rfl rfl ?_
                  refine y_iload rfl rfl ?_
                  refine y_ifeq rfl (fun q219 => ?_) (fun q219 => ?_)
                  · exfalso; omega
                  · skip
                    refine y_aload rfl rfl rfl ?_
                    refine y_gfr (t := 554) rfl rfl (by decide) rfl (by decide) ?_
                    refine y_iload rfl rfl ?_
                    refine y_iald (v := (s12 554 c)) (n := 9) rfl rfl (by decide) rfl (by omega) (yne (by omega) rfl) ?_
                    refine y_iload rfl rfl ?_
                    refine y_icle rfl (fun q230 => ?_) (fun q230 => ?_)
                    · skip
                      refine y_iload rfl rfl ?_
                      refine y_istore (L' := [some (2, 547), some (0, m), some (0, c), some (0, i), some (0, 3), some (0, 27), some (0, r.1), some (0, r.2), some (0, 5), some (0, 7), some (0, 5), some (0, 1), some (0, 1), some (0, 2), none]) rfl rfl rfl rfl ?_
                      refine y_iinc (L' := [some (2, 547), some (0, m), some (0, c), some (0, i), some (0, 3), some (0, 27), some (0, r.1), some (0, r.2), some (0, 6), some (0, 7), some (0, 5), some (0, 1), some (0, 1), some (0, 2), none]) rfl rfl rfl rfl rfl (by decide) ?_
                      refine y_goto rfl ?_
                      refine y_forget (M := [some (2, 547), some (0, m), some (0, c), some (0, i), some (0, 3), some (0, 27), some (0, r.1), some (0, r.2), some (0, 6), none, none, none, none, none, none]) ⟨Or.inr rfl, ⟨Or.inr rfl, ⟨Or.inr rfl, ⟨Or.inr rfl, ⟨Or.inr rfl, ⟨Or.inr rfl, ⟨Or.inr rfl, ⟨Or.inr rfl, ⟨Or.inr rfl, ⟨Or.inl rfl, ⟨Or.inl rfl, ⟨Or.inl rfl, ⟨Or.inl rfl, ⟨Or.inl rfl, ⟨Or.inl rfl, trivial⟩⟩⟩⟩⟩⟩⟩⟩⟩⟩⟩⟩⟩⟩⟩ ?_
                      have e := hk _ (mfs_s (k := 558) (j := 2) (v := 1) f3 (by omega))
                      rw [show mbx r ((mem1 (Z 0) m.toNat (mem1 (Z 0) m.toNat (mem1 (Z 0) m.toNat (Z 1) 0) 1) 2) 0 c) 5 = r from if_neg (by first | omega | (rw [← hv]; omega))] at e
                      exact e
                    · exfalso; omega
                · skip
                  refine y_iload rfl rfl ?_
                  refine y_goto rfl ?_
                  refine y_istore (L' := [some (2, 547), some (0, m), some (0, c), some (0, i), some (0, 3), some (0, 27), some (0, r.1), some (0, 5), some (0, 5), some (0, 7), some (0, 5), some (0, 1), some (0, 1), some (0, 2), none]) rfl rfl rfl rfl ?_
                  refine y_iload rfl rfl ?_
                  refine y_ifeq rfl (fun q219 => ?_) (fun q219 => ?_)
                  · exfalso; omega
                  · skip
                    refine y_aload rfl rfl rfl ?_
                    refine y_gfr (t := 554) rfl rfl (by decide) rfl (by decide) ?_
                    refine y_iload rfl rfl ?_
                    refine y_iald (v := (s12 554 c)) (n := 9) rfl rfl (by decide) rfl (by omega) (yne (by omega) rfl) ?_
                    refine y_iload rfl rfl ?_
                    refine y_icle rfl (fun q230 => ?_) (fun q230 => ?_)
                    · exfalso; omega
                    · skip
                      refine y_aload rfl rfl rfl ?_
                      refine y_gfr (t := 554) rfl rfl (by decide) rfl (by decide) ?_
                      refine y_iload rfl rfl ?_
                      refine y_iald (v := (s12 554 c)) (n := 9) rfl rfl (by decide) rfl (by omega) (yne (by omega) rfl) ?_
                      refine y_goto rfl ?_
                      refine y_istore (L' := [some (2, 547), some (0, m), some (0, c), some (0, i), some (0, 3), some (0, 27), some (0, (s12 554 c)), some (0, 5), some (0, 5), some (0, 7), some (0, 5), some (0, 1), some (0, 1), some (0, 2), none]) rfl rfl rfl rfl ?_
                      refine y_iinc (L' := [some (2, 547), some (0, m), some (0, c), some (0, i), some (0, 3), some (0, 27), some (0, (s12 554 c)), some (0, 5), some (0, 6), some (0, 7), some (0, 5), some (0, 1), some (0, 1), some (0, 2), none]) rfl rfl rfl rfl rfl (by decide) ?_
                      refine y_goto rfl ?_
                      refine y_forget (M := [some (2, 547), some (0, m), some (0, c), some (0, i), some (0, 3), some (0, 27), some (0, (s12 554 c)), some (0, 5), some (0, 6), none, none, none, none, none, none]) ⟨Or.inr rfl, ⟨Or.inr rfl, ⟨Or.inr rfl, ⟨Or.inr rfl, ⟨Or.inr rfl, ⟨Or.inr rfl, ⟨Or.inr rfl, ⟨Or.inr rfl, ⟨Or.inr rfl, ⟨Or.inl rfl, ⟨Or.inl rfl, ⟨Or.inl rfl, ⟨Or.inl rfl, ⟨Or.inl rfl, ⟨Or.inl rfl, trivial⟩⟩⟩⟩⟩⟩⟩⟩⟩⟩⟩⟩⟩⟩⟩ ?_
                      have e := hk _ (mfs_s (k := 558) (j := 2) (v := 1) f3 (by omega))
                      rw [show mbx r ((mem1 (Z 0) m.toNat (mem1 (Z 0) m.toNat (mem1 (Z 0) m.toNat (Z 1) 0) 1) 2) 0 c) 5 = ((s12 554 c), 5) from (if_pos (by first | omega | (rw [← hv]; omega))).trans (by rw [hv])] at e
                      exact e
          · exfalso; omega
theorem lm_f3_6 {g : Launch × XG × va_G} {σ : YS} {τ : YS} {Z : YZ} {I : Int → YZ} {M : YS} {N : Int} {m c i : Int} {r : Int × Int} {P0 : Int → YS → Prop}  (hx : mW σ Z I M) (hg : wG Z I M N) (hN : N < 100000) (hm : (0 ≤ m ∧ m ≤ 60) ∧ (0 ≤ c ∧ c < Z 0 0 0) ∧ -1 ≤ i) (hw : Z 0 1 0 = 3) (h1 : mfs σ τ) (hk : ∀ s, mfs σ s → YW g 93 82 [some (2, 547), some (0, m), some (0, c), some (0, i), some (0, 3), some (0, 27), some (0, r.1), some (0, r.2), some (0, 7), none, none, none, none, none, none] [] s (fun rv σ' => ∃ b, rv = some (0, b) ∧ (P0 b σ'))) : YW g 93 82 [some (2, 547), some (0, m), some (0, c), some (0, i), some (0, 3), some (0, 27), some (0, r.1), some (0, r.2), some (0, 6), none, none, none, none, none, none] [] τ (fun rv σ' => ∃ b, rv = some (0, b) ∧ (P0 b σ')) := by
  have e1 := hg.1.1.1
  have hn5 := hg.1.2.2.1
  refine y_iload rfl rfl ?_
  refine y_iload rfl rfl ?_
  refine y_icge rfl (fun q86 => ?_) (fun q86 => ?_)
  · exfalso; omega
  · skip
    refine y_aload rfl rfl rfl ?_
    refine y_vu (as := [(2, 547)]) (S := []) rfl rfl rfl rfl rfl rfl (by decide) rfl (m_layNow (mzs_cong hg.1.1 hx.1.1 (fun y a b => h1 548 y (by omega))) hg.1.1 hg.1.2.1 hg.1.2.2.2.2.1.1) ?_
    rintro s1 ⟨l1, l2⟩
    refine y_push rfl ?_
    refine y_istore (L' := [some (2, 547), some (0, m), some (0, c), some (0, i), some (0, 3), some (0, 27), some (0, r.1), some (0, r.2), some (0, 6), some (0, 0), none, none, none, none, none]) rfl rfl rfl rfl ?_
    refine y_iload rfl rfl ?_
    refine y_istore (L' := [some (2, 547), some (0, m), some (0, c), some (0, i), some (0, 3), some (0, 27), some (0, r.1), some (0, r.2), some (0, 6), some (0, 0), some (0, 6), none, none, none, none]) rfl rfl rfl rfl ?_
    refine y_iload rfl rfl ?_
    refine y_istore (L' := [some (2, 547), some (0, m), some (0, c), some (0, i), some (0, 3), some (0, 27), some (0, r.1), some (0, r.2), some (0, 6), some (0, 0), some (0, 6), some (0, 27), none, none, none]) rfl rfl rfl rfl ?_
    refine y_push rfl ?_
    refine y_istore (L' := [some (2, 547), some (0, m), some (0, c), some (0, i), some (0, 3), some (0, 27), some (0, r.1), some (0, r.2), some (0, 6), some (0, 0), some (0, 6), some (0, 27), some (0, 0), none, none]) rfl rfl rfl rfl ?_
    refine y_iload rfl rfl ?_
    refine y_iload rfl rfl ?_
    refine y_icge rfl (fun q111 => ?_) (fun q111 => ?_)
    · exfalso; omega
    · skip
      refine y_iload rfl rfl ?_
      refine y_iload rfl rfl ?_
      refine y_idiv (v := 9) rfl rfl (by omega) ?_
      refine y_istore (L' := [some (2, 547), some (0, m), some (0, c), some (0, i), some (0, 3), some (0, 27), some (0, r.1), some (0, r.2), some (0, 6), some (0, 0), some (0, 6), some (0, 9), some (0, 0), none, none]) rfl rfl rfl rfl ?_
      refine y_iload rfl rfl ?_
      refine y_iload rfl rfl ?_
      refine y_idiv (v := 0) rfl rfl (by omega) ?_
      refine y_iload rfl rfl ?_
      refine y_irem (v := 0) rfl rfl (by omega) ?_
      refine y_istore (L' := [some (2, 547), some (0, m), some (0, c), some (0, i), some (0, 3), some (0, 27), some (0, r.1), some (0, r.2), some (0, 6), some (0, 0), some (0, 6), some (0, 9), some (0, 0), some (0, 0), none]) rfl rfl rfl rfl ?_
      refine y_iload rfl rfl ?_
      refine y_push rfl ?_
      refine y_iload rfl rfl ?_
      refine y_ishl (v := 1) rfl rfl ?_
      refine y_ior (v := 1) rfl rfl ?_
      refine y_istore (L' := [some (2, 547), some (0, m), some (0, c), some (0, i), some (0, 3), some (0, 27), some (0, r.1), some (0, r.2), some (0, 6), some (0, 1), some (0, 6), some (0, 9), some (0, 0), some (0, 0), none]) rfl rfl rfl rfl ?_
      refine y_push rfl ?_
      refine y_istore (L' := [some (2, 547), some (0, m), some (0, c), some (0, i), some (0, 3), some (0, 27), some (0, r.1), some (0, r.2), some (0, 6), some (0, 1), some (0, 6), some (0, 9), some (0, 0), some (0, 0), some (0, 0)]) rfl rfl rfl rfl ?_
      refine lm_fT (C := (Z 1)) hx hg hN hm hg.1.2.1 (by omega) (fun s10 f1 r1 => ?_) 62 s1 0 (by omega) (by omega) (mfs_t h1 l2) l1
      refine y_aload rfl rfl rfl ?_
      refine y_gfr (t := 558) rfl rfl (by decide) rfl (by decide) ?_
      refine y_iload rfl rfl ?_
      refine y_push rfl ?_
      refine y_iast (n := 3) rfl rfl (by decide) rfl (by decide) ?_
      refine y_iinc (L' := [some (2, 547), some (0, m), some (0, c), some (0, i), some (0, 3), some (0, 27), some (0, r.1), some (0, r.2), some (0, 6), some (0, 1), some (0, 6), some (0, 9), some (0, 1), some (0, 0), none]) rfl rfl rfl rfl rfl (by decide) ?_
      refine y_goto rfl ?_
      refine y_iload rfl rfl ?_
      refine y_iload rfl rfl ?_
      refine y_icge rfl (fun q111 => ?_) (fun q111 => ?_)
      · exfalso; omega
      · skip
        refine y_iload rfl rfl ?_
        refine y_iload rfl rfl ?_
        refine y_idiv (v := 3) rfl rfl (by omega) ?_
        refine y_istore (L' := [some (2, 547), some (0, m), some (0, c), some (0, i), some (0, 3), some (0, 27), some (0, r.1), some (0, r.2), some (0, 6), some (0, 1), some (0, 6), some (0, 3), some (0, 1), some (0, 0), none]) rfl rfl rfl rfl ?_
        refine y_iload rfl rfl ?_
        refine y_iload rfl rfl ?_
        refine y_idiv (v := 2) rfl rfl (by omega) ?_
        refine y_iload rfl rfl ?_
        refine y_irem (v := 2) rfl rfl (by omega) ?_
        refine y_istore (L' := [some (2, 547), some (0, m), some (0, c), some (0, i), some (0, 3), some (0, 27), some (0, r.1), some (0, r.2), some (0, 6), some (0, 1), some (0, 6), some (0, 3), some (0, 1), some (0, 2), none]) rfl rfl rfl rfl ?_
        refine y_iload rfl rfl ?_
        refine y_push rfl ?_
        refine y_iload rfl rfl ?_
        refine y_ishl (v := 4) rfl rfl ?_
        refine y_ior (v := 5) rfl rfl ?_
        refine y_istore (L' := [some (2, 547), some (0, m), some (0, c), some (0, i), some (0, 3), some (0, 27), some (0, r.1), some (0, r.2), some (0, 6), some (0, 5), some (0, 6), some (0, 3), some (0, 1), some (0, 2), none]) rfl rfl rfl rfl ?_
        refine y_push rfl ?_
        refine y_istore (L' := [some (2, 547), some (0, m), some (0, c), some (0, i), some (0, 3), some (0, 27), some (0, r.1), some (0, r.2), some (0, 6), some (0, 5), some (0, 6), some (0, 3), some (0, 1), some (0, 2), some (0, 0)]) rfl rfl rfl rfl ?_
        have d1 : dG (Z 0) (mem1 (Z 0) m.toNat (Z 1) 0) := dG_mem1 hg.1.1 hg.1.2.1 (by omega)
        have v1 : (mem1 (Z 0) m.toNat (Z 1) 0) 5 0 = (Z 1) 5 0 + m.toNat := mem1_5
        refine lm_fT (C := (mem1 (Z 0) m.toNat (Z 1) 0)) hx hg hN hm d1 (by omega) (fun s11 f2 r2 => ?_) 62 (yset s10 558 0 1) 0 (by omega) (by omega) (mfs_s (k := 558) (j := 0) (v := 1) f1 (by omega)) (rm_m r1 (by omega) (by omega))
        refine y_aload rfl rfl rfl ?_
        refine y_gfr (t := 558) rfl rfl (by decide) rfl (by decide) ?_
        refine y_iload rfl rfl ?_
        refine y_push rfl ?_
        refine y_iast (n := 3) rfl rfl (by decide) rfl (by decide) ?_
        refine y_iinc (L' := [some (2, 547), some (0, m), some (0, c), some (0, i), some (0, 3), some (0, 27), some (0, r.1), some (0, r.2), some (0, 6), some (0, 5), some (0, 6), some (0, 3), some (0, 2), some (0, 2), none]) rfl rfl rfl rfl rfl (by decide) ?_
        refine y_goto rfl ?_
        refine y_iload rfl rfl ?_
        refine y_iload rfl rfl ?_
        refine y_icge rfl (fun q111 => ?_) (fun q111 => ?_)
        · exfalso; omega
        · skip
          refine y_iload rfl rfl ?_
          refine y_iload rfl rfl ?_
          refine y_idiv (v := 1) rfl rfl (by omega) ?_
          refine y_istore (L' := [some (2, 547), some (0, m), some (0, c), some (0, i), some (0, 3), some (0, 27), some (0, r.1), some (0, r.2), some (0, 6), some (0, 5), some (0, 6), some (0, 1), some (0, 2), some (0, 2), none]) rfl rfl rfl rfl ?_
          refine y_iload rfl rfl ?_
          refine y_iload rfl rfl ?_
          refine y_idiv (v := 6) rfl rfl (by omega) ?_
          refine y_iload rfl rfl ?_
          refine y_irem (v := 0) rfl rfl (by omega) ?_
          refine y_istore (L' := [some (2, 547), some (0, m), some (0, c), some (0, i), some (0, 3), some (0, 27), some (0, r.1), some (0, r.2), some (0, 6), some (0, 5), some (0, 6), some (0, 1), some (0, 2), some (0, 0), none]) rfl rfl rfl rfl ?_
          refine y_iload rfl rfl ?_
          refine y_push rfl ?_
          refine y_iload rfl rfl ?_
          refine y_ishl (v := 1) rfl rfl ?_
          refine y_ior (v := 5) rfl rfl ?_
          refine y_istore (L' := [some (2, 547), some (0, m), some (0, c), some (0, i), some (0, 3), some (0, 27), some (0, r.1), some (0, r.2), some (0, 6), some (0, 5), some (0, 6), some (0, 1), some (0, 2), some (0, 0), none]) rfl rfl rfl rfl ?_
          refine y_push rfl ?_
          refine y_istore (L' := [some (2, 547), some (0, m), some (0, c), some (0, i), some (0, 3), some (0, 27), some (0, r.1), some (0, r.2), some (0, 6), some (0, 5), some (0, 6), some (0, 1), some (0, 2), some (0, 0), some (0, 0)]) rfl rfl rfl rfl ?_
          have d2 : dG (Z 0) (mem1 (Z 0) m.toNat (mem1 (Z 0) m.toNat (Z 1) 0) 2) := dG_mem1 hg.1.1 d1 (by omega)
          have v2 : (mem1 (Z 0) m.toNat (mem1 (Z 0) m.toNat (Z 1) 0) 2) 5 0 = (mem1 (Z 0) m.toNat (Z 1) 0) 5 0 + m.toNat := mem1_5
          refine lm_fT (C := (mem1 (Z 0) m.toNat (mem1 (Z 0) m.toNat (Z 1) 0) 2)) hx hg hN hm d2 (by omega) (fun s12 f3 r3 => ?_) 62 (yset s11 558 2 1) 0 (by omega) (by omega) (mfs_s (k := 558) (j := 2) (v := 1) f2 (by omega)) (rm_m r2 (by omega) (by omega))
          refine y_aload rfl rfl rfl ?_
          refine y_gfr (t := 558) rfl rfl (by decide) rfl (by decide) ?_
          refine y_iload rfl rfl ?_
          refine y_push rfl ?_
          refine y_iast (n := 3) rfl rfl (by decide) rfl (by decide) ?_
          refine y_iinc (L' := [some (2, 547), some (0, m), some (0, c), some (0, i), some (0, 3), some (0, 27), some (0, r.1), some (0, r.2), some (0, 6), some (0, 5), some (0, 6), some (0, 1), some (0, 3), some (0, 0), none]) rfl rfl rfl rfl rfl (by decide) ?_
          refine y_goto rfl ?_
          refine y_iload rfl rfl ?_
          refine y_iload rfl rfl ?_
          refine y_icge rfl (fun q111 => ?_) (fun q111 => ?_)
          · skip
            refine y_iload rfl rfl ?_
            refine y_push rfl ?_
            refine y_iload rfl rfl ?_
            refine y_ishl (v := 8) rfl rfl ?_
            refine y_push rfl ?_
            refine y_isub (v := 7) rfl rfl (by decide) ?_
            refine y_icne rfl (fun q182 => ?_) (fun q182 => ?_)
            · skip
              refine y_push rfl ?_
              refine y_istore (L' := [some (2, 547), some (0, m), some (0, c), some (0, i), some (0, 3), some (0, 27), some (0, r.1), some (0, r.2), some (0, 6), some (0, 5), some (0, 6), some (0, 1), some (0, 0), some (0, 0), none]) rfl rfl rfl rfl ?_
              refine y_iload rfl rfl ?_
              refine y_ifeq rfl (fun q194 => ?_) (fun q194 => ?_)
              · skip
                refine y_iload rfl rfl ?_
                refine y_istore (L' := [some (2, 547), some (0, m), some (0, c), some (0, i), some (0, 3), some (0, 27), some (0, r.1), some (0, r.2), some (0, 6), some (0, 5), some (0, 6), some (0, 1), some (0, 0), some (0, 0), none]) rfl rfl rfl rfl ?_
                refine y_iload rfl rfl ?_
                refine y_ifeq rfl (fun q219 => ?_) (fun q219 => ?_)
                · skip
                  refine y_iload rfl rfl ?_
                  refine y_istore (L' := [some (2, 547), some (0, m), some (0, c), some (0, i), some (0, 3), some (0, 27), some (0, r.1), some (0, r.2), some (0, 6), some (0, 5), some (0, 6), some (0, 1), some (0, 0), some (0, 0), none]) rfl rfl rfl rfl ?_
                  refine y_iinc (L' := [some (2, 547), some (0, m), some (0, c), some (0, i), some (0, 3), some (0, 27), some (0, r.1), some (0, r.2), some (0, 7), some (0, 5), some (0, 6), some (0, 1), some (0, 0), some (0, 0), none]) rfl rfl rfl rfl rfl (by decide) ?_
                  refine y_goto rfl ?_
                  refine y_forget (M := [some (2, 547), some (0, m), some (0, c), some (0, i), some (0, 3), some (0, 27), some (0, r.1), some (0, r.2), some (0, 7), none, none, none, none, none, none]) ⟨Or.inr rfl, ⟨Or.inr rfl, ⟨Or.inr rfl, ⟨Or.inr rfl, ⟨Or.inr rfl, ⟨Or.inr rfl, ⟨Or.inr rfl, ⟨Or.inr rfl, ⟨Or.inr rfl, ⟨Or.inl rfl, ⟨Or.inl rfl, ⟨Or.inl rfl, ⟨Or.inl rfl, ⟨Or.inl rfl, ⟨Or.inl rfl, trivial⟩⟩⟩⟩⟩⟩⟩⟩⟩⟩⟩⟩⟩⟩⟩ ?_
                  exact hk _ (mfs_s (k := 558) (j := 0) (v := 1) f3 (by omega))
                · exfalso; omega
              · exfalso; omega
            · exfalso; omega
          · exfalso; omega
theorem lm_f3_7 {g : Launch × XG × va_G} {σ : YS} {τ : YS} {Z : YZ} {I : Int → YZ} {M : YS} {N : Int} {m c i : Int} {r : Int × Int} {P0 : Int → YS → Prop}  (hx : mW σ Z I M) (hg : wG Z I M N) (hN : N < 100000) (hm : (0 ≤ m ∧ m ≤ 60) ∧ (0 ≤ c ∧ c < Z 0 0 0) ∧ -1 ≤ i) (hw : Z 0 1 0 = 3) (h1 : mfs σ τ) (hk : ∀ s, mfs σ s → YW g 93 82 [some (2, 547), some (0, m), some (0, c), some (0, i), some (0, 3), some (0, 27), some (0, (mbx r ((mem1 (Z 0) m.toNat (mem1 (Z 0) m.toNat (mem1 (Z 0) m.toNat (Z 1) 0) 2) 1) 0 c) 7).1), some (0, (mbx r ((mem1 (Z 0) m.toNat (mem1 (Z 0) m.toNat (mem1 (Z 0) m.toNat (Z 1) 0) 2) 1) 0 c) 7).2), some (0, 8), none, none, none, none, none, none] [] s (fun rv σ' => ∃ b, rv = some (0, b) ∧ (P0 b σ'))) : YW g 93 82 [some (2, 547), some (0, m), some (0, c), some (0, i), some (0, 3), some (0, 27), some (0, r.1), some (0, r.2), some (0, 7), none, none, none, none, none, none] [] τ (fun rv σ' => ∃ b, rv = some (0, b) ∧ (P0 b σ')) := by
  have e1 := hg.1.1.1
  have hn5 := hg.1.2.2.1
  refine y_iload rfl rfl ?_
  refine y_iload rfl rfl ?_
  refine y_icge rfl (fun q86 => ?_) (fun q86 => ?_)
  · exfalso; omega
  · skip
    refine y_aload rfl rfl rfl ?_
    refine y_vu (as := [(2, 547)]) (S := []) rfl rfl rfl rfl rfl rfl (by decide) rfl (m_layNow (mzs_cong hg.1.1 hx.1.1 (fun y a b => h1 548 y (by omega))) hg.1.1 hg.1.2.1 hg.1.2.2.2.2.1.1) ?_
    rintro s1 ⟨l1, l2⟩
    refine y_push rfl ?_
    refine y_istore (L' := [some (2, 547), some (0, m), some (0, c), some (0, i), some (0, 3), some (0, 27), some (0, r.1), some (0, r.2), some (0, 7), some (0, 0), none, none, none, none, none]) rfl rfl rfl rfl ?_
    refine y_iload rfl rfl ?_
    refine y_istore (L' := [some (2, 547), some (0, m), some (0, c), some (0, i), some (0, 3), some (0, 27), some (0, r.1), some (0, r.2), some (0, 7), some (0, 0), some (0, 7), none, none, none, none]) rfl rfl rfl rfl ?_
    refine y_iload rfl rfl ?_
    refine y_istore (L' := [some (2, 547), some (0, m), some (0, c), some (0, i), some (0, 3), some (0, 27), some (0, r.1), some (0, r.2), some (0, 7), some (0, 0), some (0, 7), some (0, 27), none, none, none]) rfl rfl rfl rfl ?_
    refine y_push rfl ?_
    refine y_istore (L' := [some (2, 547), some (0, m), some (0, c), some (0, i), some (0, 3), some (0, 27), some (0, r.1), some (0, r.2), some (0, 7), some (0, 0), some (0, 7), some (0, 27), some (0, 0), none, none]) rfl rfl rfl rfl ?_
    refine y_iload rfl rfl ?_
    refine y_iload rfl rfl ?_
    refine y_icge rfl (fun q111 => ?_) (fun q111 => ?_)
    · exfalso; omega
    · skip
      refine y_iload rfl rfl ?_
      refine y_iload rfl rfl ?_
      refine y_idiv (v := 9) rfl rfl (by omega) ?_
      refine y_istore (L' := [some (2, 547), some (0, m), some (0, c), some (0, i), some (0, 3), some (0, 27), some (0, r.1), some (0, r.2), some (0, 7), some (0, 0), some (0, 7), some (0, 9), some (0, 0), none, none]) rfl rfl rfl rfl ?_
      refine y_iload rfl rfl ?_
      refine y_iload rfl rfl ?_
      refine y_idiv (v := 0) rfl rfl (by omega) ?_
      refine y_iload rfl rfl ?_
      refine y_irem (v := 0) rfl rfl (by omega) ?_
      refine y_istore (L' := [some (2, 547), some (0, m), some (0, c), some (0, i), some (0, 3), some (0, 27), some (0, r.1), some (0, r.2), some (0, 7), some (0, 0), some (0, 7), some (0, 9), some (0, 0), some (0, 0), none]) rfl rfl rfl rfl ?_
      refine y_iload rfl rfl ?_
      refine y_push rfl ?_
      refine y_iload rfl rfl ?_
      refine y_ishl (v := 1) rfl rfl ?_
      refine y_ior (v := 1) rfl rfl ?_
      refine y_istore (L' := [some (2, 547), some (0, m), some (0, c), some (0, i), some (0, 3), some (0, 27), some (0, r.1), some (0, r.2), some (0, 7), some (0, 1), some (0, 7), some (0, 9), some (0, 0), some (0, 0), none]) rfl rfl rfl rfl ?_
      refine y_push rfl ?_
      refine y_istore (L' := [some (2, 547), some (0, m), some (0, c), some (0, i), some (0, 3), some (0, 27), some (0, r.1), some (0, r.2), some (0, 7), some (0, 1), some (0, 7), some (0, 9), some (0, 0), some (0, 0), some (0, 0)]) rfl rfl rfl rfl ?_
      refine lm_fT (C := (Z 1)) hx hg hN hm hg.1.2.1 (by omega) (fun s10 f1 r1 => ?_) 62 s1 0 (by omega) (by omega) (mfs_t h1 l2) l1
      refine y_aload rfl rfl rfl ?_
      refine y_gfr (t := 558) rfl rfl (by decide) rfl (by decide) ?_
      refine y_iload rfl rfl ?_
      refine y_push rfl ?_
      refine y_iast (n := 3) rfl rfl (by decide) rfl (by decide) ?_
      refine y_iinc (L' := [some (2, 547), some (0, m), some (0, c), some (0, i), some (0, 3), some (0, 27), some (0, r.1), some (0, r.2), some (0, 7), some (0, 1), some (0, 7), some (0, 9), some (0, 1), some (0, 0), none]) rfl rfl rfl rfl rfl (by decide) ?_
      refine y_goto rfl ?_
      refine y_iload rfl rfl ?_
      refine y_iload rfl rfl ?_
      refine y_icge rfl (fun q111 => ?_) (fun q111 => ?_)
      · exfalso; omega
      · skip
        refine y_iload rfl rfl ?_
        refine y_iload rfl rfl ?_
        refine y_idiv (v := 3) rfl rfl (by omega) ?_
        refine y_istore (L' := [some (2, 547), some (0, m), some (0, c), some (0, i), some (0, 3), some (0, 27), some (0, r.1), some (0, r.2), some (0, 7), some (0, 1), some (0, 7), some (0, 3), some (0, 1), some (0, 0), none]) rfl rfl rfl rfl ?_
        refine y_iload rfl rfl ?_
        refine y_iload rfl rfl ?_
        refine y_idiv (v := 2) rfl rfl (by omega) ?_
        refine y_iload rfl rfl ?_
        refine y_irem (v := 2) rfl rfl (by omega) ?_
        refine y_istore (L' := [some (2, 547), some (0, m), some (0, c), some (0, i), some (0, 3), some (0, 27), some (0, r.1), some (0, r.2), some (0, 7), some (0, 1), some (0, 7), some (0, 3), some (0, 1), some (0, 2), none]) rfl rfl rfl rfl ?_
        refine y_iload rfl rfl ?_
        refine y_push rfl ?_
        refine y_iload rfl rfl ?_
        refine y_ishl (v := 4) rfl rfl ?_
        refine y_ior (v := 5) rfl rfl ?_
        refine y_istore (L' := [some (2, 547), some (0, m), some (0, c), some (0, i), some (0, 3), some (0, 27), some (0, r.1), some (0, r.2), some (0, 7), some (0, 5), some (0, 7), some (0, 3), some (0, 1), some (0, 2), none]) rfl rfl rfl rfl ?_
        refine y_push rfl ?_
        refine y_istore (L' := [some (2, 547), some (0, m), some (0, c), some (0, i), some (0, 3), some (0, 27), some (0, r.1), some (0, r.2), some (0, 7), some (0, 5), some (0, 7), some (0, 3), some (0, 1), some (0, 2), some (0, 0)]) rfl rfl rfl rfl ?_
        have d1 : dG (Z 0) (mem1 (Z 0) m.toNat (Z 1) 0) := dG_mem1 hg.1.1 hg.1.2.1 (by omega)
        have v1 : (mem1 (Z 0) m.toNat (Z 1) 0) 5 0 = (Z 1) 5 0 + m.toNat := mem1_5
        refine lm_fT (C := (mem1 (Z 0) m.toNat (Z 1) 0)) hx hg hN hm d1 (by omega) (fun s11 f2 r2 => ?_) 62 (yset s10 558 0 1) 0 (by omega) (by omega) (mfs_s (k := 558) (j := 0) (v := 1) f1 (by omega)) (rm_m r1 (by omega) (by omega))
        refine y_aload rfl rfl rfl ?_
        refine y_gfr (t := 558) rfl rfl (by decide) rfl (by decide) ?_
        refine y_iload rfl rfl ?_
        refine y_push rfl ?_
        refine y_iast (n := 3) rfl rfl (by decide) rfl (by decide) ?_
        refine y_iinc (L' := [some (2, 547), some (0, m), some (0, c), some (0, i), some (0, 3), some (0, 27), some (0, r.1), some (0, r.2), some (0, 7), some (0, 5), some (0, 7), some (0, 3), some (0, 2), some (0, 2), none]) rfl rfl rfl rfl rfl (by decide) ?_
        refine y_goto rfl ?_
        refine y_iload rfl rfl ?_
        refine y_iload rfl rfl ?_
        refine y_icge rfl (fun q111 => ?_) (fun q111 => ?_)
        · exfalso; omega
        · skip
          refine y_iload rfl rfl ?_
          refine y_iload rfl rfl ?_
          refine y_idiv (v := 1) rfl rfl (by omega) ?_
          refine y_istore (L' := [some (2, 547), some (0, m), some (0, c), some (0, i), some (0, 3), some (0, 27), some (0, r.1), some (0, r.2), some (0, 7), some (0, 5), some (0, 7), some (0, 1), some (0, 2), some (0, 2), none]) rfl rfl rfl rfl ?_
          refine y_iload rfl rfl ?_
          refine y_iload rfl rfl ?_
          refine y_idiv (v := 7) rfl rfl (by omega) ?_
          refine y_iload rfl rfl ?_
          refine y_irem (v := 1) rfl rfl (by omega) ?_
          refine y_istore (L' := [some (2, 547), some (0, m), some (0, c), some (0, i), some (0, 3), some (0, 27), some (0, r.1), some (0, r.2), some (0, 7), some (0, 5), some (0, 7), some (0, 1), some (0, 2), some (0, 1), none]) rfl rfl rfl rfl ?_
          refine y_iload rfl rfl ?_
          refine y_push rfl ?_
          refine y_iload rfl rfl ?_
          refine y_ishl (v := 2) rfl rfl ?_
          refine y_ior (v := 7) rfl rfl ?_
          refine y_istore (L' := [some (2, 547), some (0, m), some (0, c), some (0, i), some (0, 3), some (0, 27), some (0, r.1), some (0, r.2), some (0, 7), some (0, 7), some (0, 7), some (0, 1), some (0, 2), some (0, 1), none]) rfl rfl rfl rfl ?_
          refine y_push rfl ?_
          refine y_istore (L' := [some (2, 547), some (0, m), some (0, c), some (0, i), some (0, 3), some (0, 27), some (0, r.1), some (0, r.2), some (0, 7), some (0, 7), some (0, 7), some (0, 1), some (0, 2), some (0, 1), some (0, 0)]) rfl rfl rfl rfl ?_
          have d2 : dG (Z 0) (mem1 (Z 0) m.toNat (mem1 (Z 0) m.toNat (Z 1) 0) 2) := dG_mem1 hg.1.1 d1 (by omega)
          have v2 : (mem1 (Z 0) m.toNat (mem1 (Z 0) m.toNat (Z 1) 0) 2) 5 0 = (mem1 (Z 0) m.toNat (Z 1) 0) 5 0 + m.toNat := mem1_5
          refine lm_fT (C := (mem1 (Z 0) m.toNat (mem1 (Z 0) m.toNat (Z 1) 0) 2)) hx hg hN hm d2 (by omega) (fun s12 f3 r3 => ?_) 62 (yset s11 558 2 1) 0 (by omega) (by omega) (mfs_s (k := 558) (j := 2) (v := 1) f2 (by omega)) (rm_m r2 (by omega) (by omega))
          refine y_aload rfl rfl rfl ?_
          refine y_gfr (t := 558) rfl rfl (by decide) rfl (by decide) ?_
          refine y_iload rfl rfl ?_
          refine y_push rfl ?_
          refine y_iast (n := 3) rfl rfl (by decide) rfl (by decide) ?_
          refine y_iinc (L' := [some (2, 547), some (0, m), some (0, c), some (0, i), some (0, 3), some (0, 27), some (0, r.1), some (0, r.2), some (0, 7), some (0, 7), some (0, 7), some (0, 1), some (0, 3), some (0, 1), none]) rfl rfl rfl rfl rfl (by decide) ?_
          refine y_goto rfl ?_
          refine y_iload rfl rfl ?_
          refine y_iload rfl rfl ?_
          refine y_icge rfl (fun q111 => ?_) (fun q111 => ?_)
          · skip
            refine y_iload rfl rfl ?_
            refine y_push rfl ?_
            refine y_iload rfl rfl ?_
            refine y_ishl (v := 8) rfl rfl ?_
            refine y_push rfl ?_
            refine y_isub (v := 7) rfl rfl (by decide) ?_
            refine y_icne rfl (fun q182 => ?_) (fun q182 => ?_)
            · exfalso; omega
            · skip
              refine y_push rfl ?_
              refine y_goto rfl ?_
              refine y_istore (L' := [some (2, 547), some (0, m), some (0, c), some (0, i), some (0, 3), some (0, 27), some (0, r.1), some (0, r.2), some (0, 7), some (0, 7), some (0, 7), some (0, 1), some (0, 1), some (0, 1), none]) rfl rfl rfl rfl ?_
              have hv : s12 554 c = ((mem1 (Z 0) m.toNat (mem1 (Z 0) m.toNat (mem1 (Z 0) m.toNat (Z 1) 0) 2) 1) 0 c) := (r3.2.1 c (by omega) (by omega)).trans (yne (by omega) rfl).symm
              refine y_iload rfl rfl ?_
              refine y_ifeq rfl (fun q194 => ?_) (fun q194 => ?_)
              · exfalso; omega
              · skip
                refine y_aload rfl rfl rfl ?_
                refine y_gfr (t := 554) rfl rfl (by decide) rfl (by decide) ?_
                refine y_iload rfl rfl ?_
                refine y_iald (v := (s12 554 c)) (n := 9) rfl rfl (by decide) rfl (by omega) (yne (by omega) rfl) ?_
                refine y_iload rfl rfl ?_
                refine y_icle rfl (fun q205 => ?_) (fun q205 => ?_)
                · skip
                  refine y_iload rfl rfl ?_
                  refine y_istore (L' := [some (2, 547), some (0, m), some (0, c), some (0, i), some (0, 3), some (0, 27), some (0, r.1), some (0, r.2), some (0, 7), some (0, 7), some (0, 7), some (0, 1), some (0, 1), some (0, 1), none]) rfl rfl rfl rfl ?_
                  refine y_iload rfl rfl ?_
                  refine y_ifeq rfl (fun q219 => ?_) (fun q219 => ?_)
                  · exfalso; omega
                  · skip
                    refine y_aload rfl rfl rfl ?_
                    refine y_gfr (t := 554) rfl rfl (by decide) rfl (by decide) ?_
                    refine y_iload rfl rfl ?_
                    refine y_iald (v := (s12 554 c)) (n := 9) rfl rfl (by decide) rfl (by omega) (yne (by omega) rfl) ?_
                    refine y_iload rfl rfl ?_
                    refine y_icle rfl (fun q230 => ?_) (fun q230 => ?_)
                    · skip
                      refine y_iload rfl rfl ?_
                      refine y_istore (L' := [some (2, 547), some (0, m), some (0, c), some (0, i), some (0, 3), some (0, 27), some (0, r.1), some (0, r.2), some (0, 7), some (0, 7), some (0, 7), some (0, 1), some (0, 1), some (0, 1), none]) rfl rfl rfl rfl ?_
                      refine y_iinc (L' := [some (2, 547), some (0, m), some (0, c), some (0, i), some (0, 3), some (0, 27), some (0, r.1), some (0, r.2), some (0, 8), some (0, 7), some (0, 7), some (0, 1), some (0, 1), some (0, 1), none]) rfl rfl rfl rfl rfl (by decide) ?_
                      refine y_goto rfl ?_
                      refine y_forget (M := [some (2, 547), some (0, m), some (0, c), some (0, i), some (0, 3), some (0, 27), some (0, r.1), some (0, r.2), some (0, 8), none, none, none, none, none, none]) ⟨Or.inr rfl, ⟨Or.inr rfl, ⟨Or.inr rfl, ⟨Or.inr rfl, ⟨Or.inr rfl, ⟨Or.inr rfl, ⟨Or.inr rfl, ⟨Or.inr rfl, ⟨Or.inr rfl, ⟨Or.inl rfl, ⟨Or.inl rfl, ⟨Or.inl rfl, ⟨Or.inl rfl, ⟨Or.inl rfl, ⟨Or.inl rfl, trivial⟩⟩⟩⟩⟩⟩⟩⟩⟩⟩⟩⟩⟩⟩⟩ ?_
                      have e := hk _ (mfs_s (k := 558) (j := 1) (v := 1) f3 (by omega))
                      rw [show mbx r ((mem1 (Z 0) m.toNat (mem1 (Z 0) m.toNat (mem1 (Z 0) m.toNat (Z 1) 0) 2) 1) 0 c) 7 = r from if_neg (by first | omega | (rw [← hv]; omega))] at e
                      exact e
                    · exfalso; omega
                · skip
                  refine y_iload rfl rfl ?_
                  refine y_goto rfl ?_
                  refine y_istore (L' := [some (2, 547), some (0, m), some (0, c), some (0, i), some (0, 3), some (0, 27), some (0, r.1), some (0, 7), some (0, 7), some (0, 7), some (0, 7), some (0, 1), some (0, 1), some (0, 1), none]) rfl rfl rfl rfl ?_
                  refine y_iload rfl rfl ?_
                  refine y_ifeq rfl (fun q219 => ?_) (fun q219 => ?_)
                  · exfalso; omega
                  · skip
                    refine y_aload rfl rfl rfl ?_
                    refine y_gfr (t := 554) rfl rfl (by decide) rfl (by decide) ?_
                    refine y_iload rfl rfl ?_
                    refine y_iald (v := (s12 554 c)) (n := 9) rfl rfl (by decide) rfl (by omega) (yne (by omega) rfl) ?_
                    refine y_iload rfl rfl ?_
                    refine y_icle rfl (fun q230 => ?_) (fun q230 => ?_)
                    · exfalso; omega
                    · skip
                      refine y_aload rfl rfl rfl ?_
                      refine y_gfr (t := 554) rfl rfl (by decide) rfl (by decide) ?_
                      refine y_iload rfl rfl ?_
                      refine y_iald (v := (s12 554 c)) (n := 9) rfl rfl (by decide) rfl (by omega) (yne (by omega) rfl) ?_
                      refine y_goto rfl ?_
                      refine y_istore (L' := [some (2, 547), some (0, m), some (0, c), some (0, i), some (0, 3), some (0, 27), some (0, (s12 554 c)), some (0, 7), some (0, 7), some (0, 7), some (0, 7), some (0, 1), some (0, 1), some (0, 1), none]) rfl rfl rfl rfl ?_
                      refine y_iinc (L' := [some (2, 547), some (0, m), some (0, c), some (0, i), some (0, 3), some (0, 27), some (0, (s12 554 c)), some (0, 7), some (0, 8), some (0, 7), some (0, 7), some (0, 1), some (0, 1), some (0, 1), none]) rfl rfl rfl rfl rfl (by decide) ?_
                      refine y_goto rfl ?_
                      refine y_forget (M := [some (2, 547), some (0, m), some (0, c), some (0, i), some (0, 3), some (0, 27), some (0, (s12 554 c)), some (0, 7), some (0, 8), none, none, none, none, none, none]) ⟨Or.inr rfl, ⟨Or.inr rfl, ⟨Or.inr rfl, ⟨Or.inr rfl, ⟨Or.inr rfl, ⟨Or.inr rfl, ⟨Or.inr rfl, ⟨Or.inr rfl, ⟨Or.inr rfl, ⟨Or.inl rfl, ⟨Or.inl rfl, ⟨Or.inl rfl, ⟨Or.inl rfl, ⟨Or.inl rfl, ⟨Or.inl rfl, trivial⟩⟩⟩⟩⟩⟩⟩⟩⟩⟩⟩⟩⟩⟩⟩ ?_
                      have e := hk _ (mfs_s (k := 558) (j := 1) (v := 1) f3 (by omega))
                      rw [show mbx r ((mem1 (Z 0) m.toNat (mem1 (Z 0) m.toNat (mem1 (Z 0) m.toNat (Z 1) 0) 2) 1) 0 c) 7 = ((s12 554 c), 7) from (if_pos (by first | omega | (rw [← hv]; omega))).trans (by rw [hv])] at e
                      exact e
          · exfalso; omega
theorem lm_f3_8 {g : Launch × XG × va_G} {σ : YS} {τ : YS} {Z : YZ} {I : Int → YZ} {M : YS} {N : Int} {m c i : Int} {r : Int × Int} {P0 : Int → YS → Prop}  (hx : mW σ Z I M) (hg : wG Z I M N) (hN : N < 100000) (hm : (0 ≤ m ∧ m ≤ 60) ∧ (0 ≤ c ∧ c < Z 0 0 0) ∧ -1 ≤ i) (hw : Z 0 1 0 = 3) (h1 : mfs σ τ) (hk : ∀ s, mfs σ s → YW g 93 82 [some (2, 547), some (0, m), some (0, c), some (0, i), some (0, 3), some (0, 27), some (0, r.1), some (0, r.2), some (0, 9), none, none, none, none, none, none] [] s (fun rv σ' => ∃ b, rv = some (0, b) ∧ (P0 b σ'))) : YW g 93 82 [some (2, 547), some (0, m), some (0, c), some (0, i), some (0, 3), some (0, 27), some (0, r.1), some (0, r.2), some (0, 8), none, none, none, none, none, none] [] τ (fun rv σ' => ∃ b, rv = some (0, b) ∧ (P0 b σ')) := by
  have e1 := hg.1.1.1
  have hn5 := hg.1.2.2.1
  refine y_iload rfl rfl ?_
  refine y_iload rfl rfl ?_
  refine y_icge rfl (fun q86 => ?_) (fun q86 => ?_)
  · exfalso; omega
  · skip
    refine y_aload rfl rfl rfl ?_
    refine y_vu (as := [(2, 547)]) (S := []) rfl rfl rfl rfl rfl rfl (by decide) rfl (m_layNow (mzs_cong hg.1.1 hx.1.1 (fun y a b => h1 548 y (by omega))) hg.1.1 hg.1.2.1 hg.1.2.2.2.2.1.1) ?_
    rintro s1 ⟨l1, l2⟩
    refine y_push rfl ?_
    refine y_istore (L' := [some (2, 547), some (0, m), some (0, c), some (0, i), some (0, 3), some (0, 27), some (0, r.1), some (0, r.2), some (0, 8), some (0, 0), none, none, none, none, none]) rfl rfl rfl rfl ?_
    refine y_iload rfl rfl ?_
    refine y_istore (L' := [some (2, 547), some (0, m), some (0, c), some (0, i), some (0, 3), some (0, 27), some (0, r.1), some (0, r.2), some (0, 8), some (0, 0), some (0, 8), none, none, none, none]) rfl rfl rfl rfl ?_
    refine y_iload rfl rfl ?_
    refine y_istore (L' := [some (2, 547), some (0, m), some (0, c), some (0, i), some (0, 3), some (0, 27), some (0, r.1), some (0, r.2), some (0, 8), some (0, 0), some (0, 8), some (0, 27), none, none, none]) rfl rfl rfl rfl ?_
    refine y_push rfl ?_
    refine y_istore (L' := [some (2, 547), some (0, m), some (0, c), some (0, i), some (0, 3), some (0, 27), some (0, r.1), some (0, r.2), some (0, 8), some (0, 0), some (0, 8), some (0, 27), some (0, 0), none, none]) rfl rfl rfl rfl ?_
    refine y_iload rfl rfl ?_
    refine y_iload rfl rfl ?_
    refine y_icge rfl (fun q111 => ?_) (fun q111 => ?_)
    · exfalso; omega
    · skip
      refine y_iload rfl rfl ?_
      refine y_iload rfl rfl ?_
      refine y_idiv (v := 9) rfl rfl (by omega) ?_
      refine y_istore (L' := [some (2, 547), some (0, m), some (0, c), some (0, i), some (0, 3), some (0, 27), some (0, r.1), some (0, r.2), some (0, 8), some (0, 0), some (0, 8), some (0, 9), some (0, 0), none, none]) rfl rfl rfl rfl ?_
      refine y_iload rfl rfl ?_
      refine y_iload rfl rfl ?_
      refine y_idiv (v := 0) rfl rfl (by omega) ?_
      refine y_iload rfl rfl ?_
      refine y_irem (v := 0) rfl rfl (by omega) ?_
      refine y_istore (L' := [some (2, 547), some (0, m), some (0, c), some (0, i), some (0, 3), some (0, 27), some (0, r.1), some (0, r.2), some (0, 8), some (0, 0), some (0, 8), some (0, 9), some (0, 0), some (0, 0), none]) rfl rfl rfl rfl ?_
      refine y_iload rfl rfl ?_
      refine y_push rfl ?_
      refine y_iload rfl rfl ?_
      refine y_ishl (v := 1) rfl rfl ?_
      refine y_ior (v := 1) rfl rfl ?_
      refine y_istore (L' := [some (2, 547), some (0, m), some (0, c), some (0, i), some (0, 3), some (0, 27), some (0, r.1), some (0, r.2), some (0, 8), some (0, 1), some (0, 8), some (0, 9), some (0, 0), some (0, 0), none]) rfl rfl rfl rfl ?_
      refine y_push rfl ?_
      refine y_istore (L' := [some (2, 547), some (0, m), some (0, c), some (0, i), some (0, 3), some (0, 27), some (0, r.1), some (0, r.2), some (0, 8), some (0, 1), some (0, 8), some (0, 9), some (0, 0), some (0, 0), some (0, 0)]) rfl rfl rfl rfl ?_
      refine lm_fT (C := (Z 1)) hx hg hN hm hg.1.2.1 (by omega) (fun s10 f1 r1 => ?_) 62 s1 0 (by omega) (by omega) (mfs_t h1 l2) l1
      refine y_aload rfl rfl rfl ?_
      refine y_gfr (t := 558) rfl rfl (by decide) rfl (by decide) ?_
      refine y_iload rfl rfl ?_
      refine y_push rfl ?_
      refine y_iast (n := 3) rfl rfl (by decide) rfl (by decide) ?_
      refine y_iinc (L' := [some (2, 547), some (0, m), some (0, c), some (0, i), some (0, 3), some (0, 27), some (0, r.1), some (0, r.2), some (0, 8), some (0, 1), some (0, 8), some (0, 9), some (0, 1), some (0, 0), none]) rfl rfl rfl rfl rfl (by decide) ?_
      refine y_goto rfl ?_
      refine y_iload rfl rfl ?_
      refine y_iload rfl rfl ?_
      refine y_icge rfl (fun q111 => ?_) (fun q111 => ?_)
      · exfalso; omega
      · skip
        refine y_iload rfl rfl ?_
        refine y_iload rfl rfl ?_
        refine y_idiv (v := 3) rfl rfl (by omega) ?_
        refine y_istore (L' := [some (2, 547), some (0, m), some (0, c), some (0, i), some (0, 3), some (0, 27), some (0, r.1), some (0, r.2), some (0, 8), some (0, 1), some (0, 8), some (0, 3), some (0, 1), some (0, 0), none]) rfl rfl rfl rfl ?_
        refine y_iload rfl rfl ?_
        refine y_iload rfl rfl ?_
        refine y_idiv (v := 2) rfl rfl (by omega) ?_
        refine y_iload rfl rfl ?_
        refine y_irem (v := 2) rfl rfl (by omega) ?_
        refine y_istore (L' := [some (2, 547), some (0, m), some (0, c), some (0, i), some (0, 3), some (0, 27), some (0, r.1), some (0, r.2), some (0, 8), some (0, 1), some (0, 8), some (0, 3), some (0, 1), some (0, 2), none]) rfl rfl rfl rfl ?_
        refine y_iload rfl rfl ?_
        refine y_push rfl ?_
        refine y_iload rfl rfl ?_
        refine y_ishl (v := 4) rfl rfl ?_
        refine y_ior (v := 5) rfl rfl ?_
        refine y_istore (L' := [some (2, 547), some (0, m), some (0, c), some (0, i), some (0, 3), some (0, 27), some (0, r.1), some (0, r.2), some (0, 8), some (0, 5), some (0, 8), some (0, 3), some (0, 1), some (0, 2), none]) rfl rfl rfl rfl ?_
        refine y_push rfl ?_
        refine y_istore (L' := [some (2, 547), some (0, m), some (0, c), some (0, i), some (0, 3), some (0, 27), some (0, r.1), some (0, r.2), some (0, 8), some (0, 5), some (0, 8), some (0, 3), some (0, 1), some (0, 2), some (0, 0)]) rfl rfl rfl rfl ?_
        have d1 : dG (Z 0) (mem1 (Z 0) m.toNat (Z 1) 0) := dG_mem1 hg.1.1 hg.1.2.1 (by omega)
        have v1 : (mem1 (Z 0) m.toNat (Z 1) 0) 5 0 = (Z 1) 5 0 + m.toNat := mem1_5
        refine lm_fT (C := (mem1 (Z 0) m.toNat (Z 1) 0)) hx hg hN hm d1 (by omega) (fun s11 f2 r2 => ?_) 62 (yset s10 558 0 1) 0 (by omega) (by omega) (mfs_s (k := 558) (j := 0) (v := 1) f1 (by omega)) (rm_m r1 (by omega) (by omega))
        refine y_aload rfl rfl rfl ?_
        refine y_gfr (t := 558) rfl rfl (by decide) rfl (by decide) ?_
        refine y_iload rfl rfl ?_
        refine y_push rfl ?_
        refine y_iast (n := 3) rfl rfl (by decide) rfl (by decide) ?_
        refine y_iinc (L' := [some (2, 547), some (0, m), some (0, c), some (0, i), some (0, 3), some (0, 27), some (0, r.1), some (0, r.2), some (0, 8), some (0, 5), some (0, 8), some (0, 3), some (0, 2), some (0, 2), none]) rfl rfl rfl rfl rfl (by decide) ?_
        refine y_goto rfl ?_
        refine y_iload rfl rfl ?_
        refine y_iload rfl rfl ?_
        refine y_icge rfl (fun q111 => ?_) (fun q111 => ?_)
        · exfalso; omega
        · skip
          refine y_iload rfl rfl ?_
          refine y_iload rfl rfl ?_
          refine y_idiv (v := 1) rfl rfl (by omega) ?_
          refine y_istore (L' := [some (2, 547), some (0, m), some (0, c), some (0, i), some (0, 3), some (0, 27), some (0, r.1), some (0, r.2), some (0, 8), some (0, 5), some (0, 8), some (0, 1), some (0, 2), some (0, 2), none]) rfl rfl rfl rfl ?_
          refine y_iload rfl rfl ?_
          refine y_iload rfl rfl ?_
          refine y_idiv (v := 8) rfl rfl (by omega) ?_
          refine y_iload rfl rfl ?_
          refine y_irem (v := 2) rfl rfl (by omega) ?_
          refine y_istore (L' := [some (2, 547), some (0, m), some (0, c), some (0, i), some (0, 3), some (0, 27), some (0, r.1), some (0, r.2), some (0, 8), some (0, 5), some (0, 8), some (0, 1), some (0, 2), some (0, 2), none]) rfl rfl rfl rfl ?_
          refine y_iload rfl rfl ?_
          refine y_push rfl ?_
          refine y_iload rfl rfl ?_
          refine y_ishl (v := 4) rfl rfl ?_
          refine y_ior (v := 5) rfl rfl ?_
          refine y_istore (L' := [some (2, 547), some (0, m), some (0, c), some (0, i), some (0, 3), some (0, 27), some (0, r.1), some (0, r.2), some (0, 8), some (0, 5), some (0, 8), some (0, 1), some (0, 2), some (0, 2), none]) rfl rfl rfl rfl ?_
          refine y_push rfl ?_
          refine y_istore (L' := [some (2, 547), some (0, m), some (0, c), some (0, i), some (0, 3), some (0, 27), some (0, r.1), some (0, r.2), some (0, 8), some (0, 5), some (0, 8), some (0, 1), some (0, 2), some (0, 2), some (0, 0)]) rfl rfl rfl rfl ?_
          have d2 : dG (Z 0) (mem1 (Z 0) m.toNat (mem1 (Z 0) m.toNat (Z 1) 0) 2) := dG_mem1 hg.1.1 d1 (by omega)
          have v2 : (mem1 (Z 0) m.toNat (mem1 (Z 0) m.toNat (Z 1) 0) 2) 5 0 = (mem1 (Z 0) m.toNat (Z 1) 0) 5 0 + m.toNat := mem1_5
          refine lm_fT (C := (mem1 (Z 0) m.toNat (mem1 (Z 0) m.toNat (Z 1) 0) 2)) hx hg hN hm d2 (by omega) (fun s12 f3 r3 => ?_) 62 (yset s11 558 2 1) 0 (by omega) (by omega) (mfs_s (k := 558) (j := 2) (v := 1) f2 (by omega)) (rm_m r2 (by omega) (by omega))
          refine y_aload rfl rfl rfl ?_
          refine y_gfr (t := 558) rfl rfl (by decide) rfl (by decide) ?_
          refine y_iload rfl rfl ?_
          refine y_push rfl ?_
          refine y_iast (n := 3) rfl rfl (by decide) rfl (by decide) ?_
          refine y_iinc (L' := [some (2, 547), some (0, m), some (0, c), some (0, i), some (0, 3), some (0, 27), some (0, r.1), some (0, r.2), some (0, 8), some (0, 5), some (0, 8), some (0, 1), some (0, 3), some (0, 2), none]) rfl rfl rfl rfl rfl (by decide) ?_
          refine y_goto rfl ?_
          refine y_iload rfl rfl ?_
          refine y_iload rfl rfl ?_
          refine y_icge rfl (fun q111 => ?_) (fun q111 => ?_)
          · skip
            refine y_iload rfl rfl ?_
            refine y_push rfl ?_
            refine y_iload rfl rfl ?_
            refine y_ishl (v := 8) rfl rfl ?_
            refine y_push rfl ?_
            refine y_isub (v := 7) rfl rfl (by decide) ?_
            refine y_icne rfl (fun q182 => ?_) (fun q182 => ?_)
            · skip
              refine y_push rfl ?_
              refine y_istore (L' := [some (2, 547), some (0, m), some (0, c), some (0, i), some (0, 3), some (0, 27), some (0, r.1), some (0, r.2), some (0, 8), some (0, 5), some (0, 8), some (0, 1), some (0, 0), some (0, 2), none]) rfl rfl rfl rfl ?_
              refine y_iload rfl rfl ?_
              refine y_ifeq rfl (fun q194 => ?_) (fun q194 => ?_)
              · skip
                refine y_iload rfl rfl ?_
                refine y_istore (L' := [some (2, 547), some (0, m), some (0, c), some (0, i), some (0, 3), some (0, 27), some (0, r.1), some (0, r.2), some (0, 8), some (0, 5), some (0, 8), some (0, 1), some (0, 0), some (0, 2), none]) rfl rfl rfl rfl ?_
                refine y_iload rfl rfl ?_
                refine y_ifeq rfl (fun q219 => ?_) (fun q219 => ?_)
                · skip
                  refine y_iload rfl rfl ?_
                  refine y_istore (L' := [some (2, 547), some (0, m), some (0, c), some (0, i), some (0, 3), some (0, 27), some (0, r.1), some (0, r.2), some (0, 8), some (0, 5), some (0, 8), some (0, 1), some (0, 0), some (0, 2), none]) rfl rfl rfl rfl ?_
                  refine y_iinc (L' := [some (2, 547), some (0, m), some (0, c), some (0, i), some (0, 3), some (0, 27), some (0, r.1), some (0, r.2), some (0, 9), some (0, 5), some (0, 8), some (0, 1), some (0, 0), some (0, 2), none]) rfl rfl rfl rfl rfl (by decide) ?_
                  refine y_goto rfl ?_
                  refine y_forget (M := [some (2, 547), some (0, m), some (0, c), some (0, i), some (0, 3), some (0, 27), some (0, r.1), some (0, r.2), some (0, 9), none, none, none, none, none, none]) ⟨Or.inr rfl, ⟨Or.inr rfl, ⟨Or.inr rfl, ⟨Or.inr rfl, ⟨Or.inr rfl, ⟨Or.inr rfl, ⟨Or.inr rfl, ⟨Or.inr rfl, ⟨Or.inr rfl, ⟨Or.inl rfl, ⟨Or.inl rfl, ⟨Or.inl rfl, ⟨Or.inl rfl, ⟨Or.inl rfl, ⟨Or.inl rfl, trivial⟩⟩⟩⟩⟩⟩⟩⟩⟩⟩⟩⟩⟩⟩⟩ ?_
                  exact hk _ (mfs_s (k := 558) (j := 2) (v := 1) f3 (by omega))
                · exfalso; omega
              · exfalso; omega
            · exfalso; omega
          · exfalso; omega
theorem lm_f3_9 {g : Launch × XG × va_G} {σ : YS} {τ : YS} {Z : YZ} {I : Int → YZ} {M : YS} {N : Int} {m c i : Int} {r : Int × Int} {P0 : Int → YS → Prop}  (hx : mW σ Z I M) (hg : wG Z I M N) (hN : N < 100000) (hm : (0 ≤ m ∧ m ≤ 60) ∧ (0 ≤ c ∧ c < Z 0 0 0) ∧ -1 ≤ i) (hw : Z 0 1 0 = 3) (h1 : mfs σ τ) (hk : ∀ s, mfs σ s → YW g 93 82 [some (2, 547), some (0, m), some (0, c), some (0, i), some (0, 3), some (0, 27), some (0, r.1), some (0, r.2), some (0, 10), none, none, none, none, none, none] [] s (fun rv σ' => ∃ b, rv = some (0, b) ∧ (P0 b σ'))) : YW g 93 82 [some (2, 547), some (0, m), some (0, c), some (0, i), some (0, 3), some (0, 27), some (0, r.1), some (0, r.2), some (0, 9), none, none, none, none, none, none] [] τ (fun rv σ' => ∃ b, rv = some (0, b) ∧ (P0 b σ')) := by
  have e1 := hg.1.1.1
  have hn5 := hg.1.2.2.1
  refine y_iload rfl rfl ?_
  refine y_iload rfl rfl ?_
  refine y_icge rfl (fun q86 => ?_) (fun q86 => ?_)
  · exfalso; omega
  · skip
    refine y_aload rfl rfl rfl ?_
    refine y_vu (as := [(2, 547)]) (S := []) rfl rfl rfl rfl rfl rfl (by decide) rfl (m_layNow (mzs_cong hg.1.1 hx.1.1 (fun y a b => h1 548 y (by omega))) hg.1.1 hg.1.2.1 hg.1.2.2.2.2.1.1) ?_
    rintro s1 ⟨l1, l2⟩
    refine y_push rfl ?_
    refine y_istore (L' := [some (2, 547), some (0, m), some (0, c), some (0, i), some (0, 3), some (0, 27), some (0, r.1), some (0, r.2), some (0, 9), some (0, 0), none, none, none, none, none]) rfl rfl rfl rfl ?_
    refine y_iload rfl rfl ?_
    refine y_istore (L' := [some (2, 547), some (0, m), some (0, c), some (0, i), some (0, 3), some (0, 27), some (0, r.1), some (0, r.2), some (0, 9), some (0, 0), some (0, 9), none, none, none, none]) rfl rfl rfl rfl ?_
    refine y_iload rfl rfl ?_
    refine y_istore (L' := [some (2, 547), some (0, m), some (0, c), some (0, i), some (0, 3), some (0, 27), some (0, r.1), some (0, r.2), some (0, 9), some (0, 0), some (0, 9), some (0, 27), none, none, none]) rfl rfl rfl rfl ?_
    refine y_push rfl ?_
    refine y_istore (L' := [some (2, 547), some (0, m), some (0, c), some (0, i), some (0, 3), some (0, 27), some (0, r.1), some (0, r.2), some (0, 9), some (0, 0), some (0, 9), some (0, 27), some (0, 0), none, none]) rfl rfl rfl rfl ?_
    refine y_iload rfl rfl ?_
    refine y_iload rfl rfl ?_
    refine y_icge rfl (fun q111 => ?_) (fun q111 => ?_)
    · exfalso; omega
    · skip
      refine y_iload rfl rfl ?_
      refine y_iload rfl rfl ?_
      refine y_idiv (v := 9) rfl rfl (by omega) ?_
      refine y_istore (L' := [some (2, 547), some (0, m), some (0, c), some (0, i), some (0, 3), some (0, 27), some (0, r.1), some (0, r.2), some (0, 9), some (0, 0), some (0, 9), some (0, 9), some (0, 0), none, none]) rfl rfl rfl rfl ?_
      refine y_iload rfl rfl ?_
      refine y_iload rfl rfl ?_
      refine y_idiv (v := 1) rfl rfl (by omega) ?_
      refine y_iload rfl rfl ?_
      refine y_irem (v := 1) rfl rfl (by omega) ?_
      refine y_istore (L' := [some (2, 547), some (0, m), some (0, c), some (0, i), some (0, 3), some (0, 27), some (0, r.1), some (0, r.2), some (0, 9), some (0, 0), some (0, 9), some (0, 9), some (0, 0), some (0, 1), none]) rfl rfl rfl rfl ?_
      refine y_iload rfl rfl ?_
      refine y_push rfl ?_
      refine y_iload rfl rfl ?_
      refine y_ishl (v := 2) rfl rfl ?_
      refine y_ior (v := 2) rfl rfl ?_
      refine y_istore (L' := [some (2, 547), some (0, m), some (0, c), some (0, i), some (0, 3), some (0, 27), some (0, r.1), some (0, r.2), some (0, 9), some (0, 2), some (0, 9), some (0, 9), some (0, 0), some (0, 1), none]) rfl rfl rfl rfl ?_
      refine y_push rfl ?_
      refine y_istore (L' := [some (2, 547), some (0, m), some (0, c), some (0, i), some (0, 3), some (0, 27), some (0, r.1), some (0, r.2), some (0, 9), some (0, 2), some (0, 9), some (0, 9), some (0, 0), some (0, 1), some (0, 0)]) rfl rfl rfl rfl ?_
      refine lm_fT (C := (Z 1)) hx hg hN hm hg.1.2.1 (by omega) (fun s10 f1 r1 => ?_) 62 s1 0 (by omega) (by omega) (mfs_t h1 l2) l1
      refine y_aload rfl rfl rfl ?_
      refine y_gfr (t := 558) rfl rfl (by decide) rfl (by decide) ?_
      refine y_iload rfl rfl ?_
      refine y_push rfl ?_
      refine y_iast (n := 3) rfl rfl (by decide) rfl (by decide) ?_
      refine y_iinc (L' := [some (2, 547), some (0, m), some (0, c), some (0, i), some (0, 3), some (0, 27), some (0, r.1), some (0, r.2), some (0, 9), some (0, 2), some (0, 9), some (0, 9), some (0, 1), some (0, 1), none]) rfl rfl rfl rfl rfl (by decide) ?_
      refine y_goto rfl ?_
      refine y_iload rfl rfl ?_
      refine y_iload rfl rfl ?_
      refine y_icge rfl (fun q111 => ?_) (fun q111 => ?_)
      · exfalso; omega
      · skip
        refine y_iload rfl rfl ?_
        refine y_iload rfl rfl ?_
        refine y_idiv (v := 3) rfl rfl (by omega) ?_
        refine y_istore (L' := [some (2, 547), some (0, m), some (0, c), some (0, i), some (0, 3), some (0, 27), some (0, r.1), some (0, r.2), some (0, 9), some (0, 2), some (0, 9), some (0, 3), some (0, 1), some (0, 1), none]) rfl rfl rfl rfl ?_
        refine y_iload rfl rfl ?_
        refine y_iload rfl rfl ?_
        refine y_idiv (v := 3) rfl rfl (by omega) ?_
        refine y_iload rfl rfl ?_
        refine y_irem (v := 0) rfl rfl (by omega) ?_
        refine y_istore (L' := [some (2, 547), some (0, m), some (0, c), some (0, i), some (0, 3), some (0, 27), some (0, r.1), some (0, r.2), some (0, 9), some (0, 2), some (0, 9), some (0, 3), some (0, 1), some (0, 0), none]) rfl rfl rfl rfl ?_
        refine y_iload rfl rfl ?_
        refine y_push rfl ?_
        refine y_iload rfl rfl ?_
        refine y_ishl (v := 1) rfl rfl ?_
        refine y_ior (v := 3) rfl rfl ?_
        refine y_istore (L' := [some (2, 547), some (0, m), some (0, c), some (0, i), some (0, 3), some (0, 27), some (0, r.1), some (0, r.2), some (0, 9), some (0, 3), some (0, 9), some (0, 3), some (0, 1), some (0, 0), none]) rfl rfl rfl rfl ?_
        refine y_push rfl ?_
        refine y_istore (L' := [some (2, 547), some (0, m), some (0, c), some (0, i), some (0, 3), some (0, 27), some (0, r.1), some (0, r.2), some (0, 9), some (0, 3), some (0, 9), some (0, 3), some (0, 1), some (0, 0), some (0, 0)]) rfl rfl rfl rfl ?_
        have d1 : dG (Z 0) (mem1 (Z 0) m.toNat (Z 1) 1) := dG_mem1 hg.1.1 hg.1.2.1 (by omega)
        have v1 : (mem1 (Z 0) m.toNat (Z 1) 1) 5 0 = (Z 1) 5 0 + m.toNat := mem1_5
        refine lm_fT (C := (mem1 (Z 0) m.toNat (Z 1) 1)) hx hg hN hm d1 (by omega) (fun s11 f2 r2 => ?_) 62 (yset s10 558 1 1) 0 (by omega) (by omega) (mfs_s (k := 558) (j := 1) (v := 1) f1 (by omega)) (rm_m r1 (by omega) (by omega))
        refine y_aload rfl rfl rfl ?_
        refine y_gfr (t := 558) rfl rfl (by decide) rfl (by decide) ?_
        refine y_iload rfl rfl ?_
        refine y_push rfl ?_
        refine y_iast (n := 3) rfl rfl (by decide) rfl (by decide) ?_
        refine y_iinc (L' := [some (2, 547), some (0, m), some (0, c), some (0, i), some (0, 3), some (0, 27), some (0, r.1), some (0, r.2), some (0, 9), some (0, 3), some (0, 9), some (0, 3), some (0, 2), some (0, 0), none]) rfl rfl rfl rfl rfl (by decide) ?_
        refine y_goto rfl ?_
        refine y_iload rfl rfl ?_
        refine y_iload rfl rfl ?_
        refine y_icge rfl (fun q111 => ?_) (fun q111 => ?_)
        · exfalso; omega
        · skip
          refine y_iload rfl rfl ?_
          refine y_iload rfl rfl ?_
          refine y_idiv (v := 1) rfl rfl (by omega) ?_
          refine y_istore (L' := [some (2, 547), some (0, m), some (0, c), some (0, i), some (0, 3), some (0, 27), some (0, r.1), some (0, r.2), some (0, 9), some (0, 3), some (0, 9), some (0, 1), some (0, 2), some (0, 0), none]) rfl rfl rfl rfl ?_
          refine y_iload rfl rfl ?_
          refine y_iload rfl rfl ?_
          refine y_idiv (v := 9) rfl rfl (by omega) ?_
          refine y_iload rfl rfl ?_
          refine y_irem (v := 0) rfl rfl (by omega) ?_
          refine y_istore (L' := [some (2, 547), some (0, m), some (0, c), some (0, i), some (0, 3), some (0, 27), some (0, r.1), some (0, r.2), some (0, 9), some (0, 3), some (0, 9), some (0, 1), some (0, 2), some (0, 0), none]) rfl rfl rfl rfl ?_
          refine y_iload rfl rfl ?_
          refine y_push rfl ?_
          refine y_iload rfl rfl ?_
          refine y_ishl (v := 1) rfl rfl ?_
          refine y_ior (v := 3) rfl rfl ?_
          refine y_istore (L' := [some (2, 547), some (0, m), some (0, c), some (0, i), some (0, 3), some (0, 27), some (0, r.1), some (0, r.2), some (0, 9), some (0, 3), some (0, 9), some (0, 1), some (0, 2), some (0, 0), none]) rfl rfl rfl rfl ?_
          refine y_push rfl ?_
          refine y_istore (L' := [some (2, 547), some (0, m), some (0, c), some (0, i), some (0, 3), some (0, 27), some (0, r.1), some (0, r.2), some (0, 9), some (0, 3), some (0, 9), some (0, 1), some (0, 2), some (0, 0), some (0, 0)]) rfl rfl rfl rfl ?_
          have d2 : dG (Z 0) (mem1 (Z 0) m.toNat (mem1 (Z 0) m.toNat (Z 1) 1) 0) := dG_mem1 hg.1.1 d1 (by omega)
          have v2 : (mem1 (Z 0) m.toNat (mem1 (Z 0) m.toNat (Z 1) 1) 0) 5 0 = (mem1 (Z 0) m.toNat (Z 1) 1) 5 0 + m.toNat := mem1_5
          refine lm_fT (C := (mem1 (Z 0) m.toNat (mem1 (Z 0) m.toNat (Z 1) 1) 0)) hx hg hN hm d2 (by omega) (fun s12 f3 r3 => ?_) 62 (yset s11 558 0 1) 0 (by omega) (by omega) (mfs_s (k := 558) (j := 0) (v := 1) f2 (by omega)) (rm_m r2 (by omega) (by omega))
          refine y_aload rfl rfl rfl ?_
          refine y_gfr (t := 558) rfl rfl (by decide) rfl (by decide) ?_
          refine y_iload rfl rfl ?_
          refine y_push rfl ?_
          refine y_iast (n := 3) rfl rfl (by decide) rfl (by decide) ?_
          refine y_iinc (L' := [some (2, 547), some (0, m), some (0, c), some (0, i), some (0, 3), some (0, 27), some (0, r.1), some (0, r.2), some (0, 9), some (0, 3), some (0, 9), some (0, 1), some (0, 3), some (0, 0), none]) rfl rfl rfl rfl rfl (by decide) ?_
          refine y_goto rfl ?_
          refine y_iload rfl rfl ?_
          refine y_iload rfl rfl ?_
          refine y_icge rfl (fun q111 => ?_) (fun q111 => ?_)
          · skip
            refine y_iload rfl rfl ?_
            refine y_push rfl ?_
            refine y_iload rfl rfl ?_
            refine y_ishl (v := 8) rfl rfl ?_
            refine y_push rfl ?_
            refine y_isub (v := 7) rfl rfl (by decide) ?_
            refine y_icne rfl (fun q182 => ?_) (fun q182 => ?_)
            · skip
              refine y_push rfl ?_
              refine y_istore (L' := [some (2, 547), some (0, m), some (0, c), some (0, i), some (0, 3), some (0, 27), some (0, r.1), some (0, r.2), some (0, 9), some (0, 3), some (0, 9), some (0, 1), some (0, 0), some (0, 0), none]) rfl rfl rfl rfl ?_
              refine y_iload rfl rfl ?_
              refine y_ifeq rfl (fun q194 => ?_) (fun q194 => ?_)
              · skip
                refine y_iload rfl rfl ?_
                refine y_istore (L' := [some (2, 547), some (0, m), some (0, c), some (0, i), some (0, 3), some (0, 27), some (0, r.1), some (0, r.2), some (0, 9), some (0, 3), some (0, 9), some (0, 1), some (0, 0), some (0, 0), none]) rfl rfl rfl rfl ?_
                refine y_iload rfl rfl ?_
                refine y_ifeq rfl (fun q219 => ?_) (fun q219 => ?_)
                · skip
                  refine y_iload rfl rfl ?_
                  refine y_istore (L' := [some (2, 547), some (0, m), some (0, c), some (0, i), some (0, 3), some (0, 27), some (0, r.1), some (0, r.2), some (0, 9), some (0, 3), some (0, 9), some (0, 1), some (0, 0), some (0, 0), none]) rfl rfl rfl rfl ?_
                  refine y_iinc (L' := [some (2, 547), some (0, m), some (0, c), some (0, i), some (0, 3), some (0, 27), some (0, r.1), some (0, r.2), some (0, 10), some (0, 3), some (0, 9), some (0, 1), some (0, 0), some (0, 0), none]) rfl rfl rfl rfl rfl (by decide) ?_
                  refine y_goto rfl ?_
                  refine y_forget (M := [some (2, 547), some (0, m), some (0, c), some (0, i), some (0, 3), some (0, 27), some (0, r.1), some (0, r.2), some (0, 10), none, none, none, none, none, none]) ⟨Or.inr rfl, ⟨Or.inr rfl, ⟨Or.inr rfl, ⟨Or.inr rfl, ⟨Or.inr rfl, ⟨Or.inr rfl, ⟨Or.inr rfl, ⟨Or.inr rfl, ⟨Or.inr rfl, ⟨Or.inl rfl, ⟨Or.inl rfl, ⟨Or.inl rfl, ⟨Or.inl rfl, ⟨Or.inl rfl, ⟨Or.inl rfl, trivial⟩⟩⟩⟩⟩⟩⟩⟩⟩⟩⟩⟩⟩⟩⟩ ?_
                  exact hk _ (mfs_s (k := 558) (j := 0) (v := 1) f3 (by omega))
                · exfalso; omega
              · exfalso; omega
            · exfalso; omega
          · exfalso; omega
theorem lm_f3_10 {g : Launch × XG × va_G} {σ : YS} {τ : YS} {Z : YZ} {I : Int → YZ} {M : YS} {N : Int} {m c i : Int} {r : Int × Int} {P0 : Int → YS → Prop}  (hx : mW σ Z I M) (hg : wG Z I M N) (hN : N < 100000) (hm : (0 ≤ m ∧ m ≤ 60) ∧ (0 ≤ c ∧ c < Z 0 0 0) ∧ -1 ≤ i) (hw : Z 0 1 0 = 3) (h1 : mfs σ τ) (hk : ∀ s, mfs σ s → YW g 93 82 [some (2, 547), some (0, m), some (0, c), some (0, i), some (0, 3), some (0, 27), some (0, r.1), some (0, r.2), some (0, 11), none, none, none, none, none, none] [] s (fun rv σ' => ∃ b, rv = some (0, b) ∧ (P0 b σ'))) : YW g 93 82 [some (2, 547), some (0, m), some (0, c), some (0, i), some (0, 3), some (0, 27), some (0, r.1), some (0, r.2), some (0, 10), none, none, none, none, none, none] [] τ (fun rv σ' => ∃ b, rv = some (0, b) ∧ (P0 b σ')) := by
  have e1 := hg.1.1.1
  have hn5 := hg.1.2.2.1
  refine y_iload rfl rfl ?_
  refine y_iload rfl rfl ?_
  refine y_icge rfl (fun q86 => ?_) (fun q86 => ?_)
  · exfalso; omega
  · skip
    refine y_aload rfl rfl rfl ?_
    refine y_vu (as := [(2, 547)]) (S := []) rfl rfl rfl rfl rfl rfl (by decide) rfl (m_layNow (mzs_cong hg.1.1 hx.1.1 (fun y a b => h1 548 y (by omega))) hg.1.1 hg.1.2.1 hg.1.2.2.2.2.1.1) ?_
    rintro s1 ⟨l1, l2⟩
    refine y_push rfl ?_
    refine y_istore (L' := [some (2, 547), some (0, m), some (0, c), some (0, i), some (0, 3), some (0, 27), some (0, r.1), some (0, r.2), some (0, 10), some (0, 0), none, none, none, none, none]) rfl rfl rfl rfl ?_
    refine y_iload rfl rfl ?_
    refine y_istore (L' := [some (2, 547), some (0, m), some (0, c), some (0, i), some (0, 3), some (0, 27), some (0, r.1), some (0, r.2), some (0, 10), some (0, 0), some (0, 10), none, none, none, none]) rfl rfl rfl rfl ?_
    refine y_iload rfl rfl ?_
    refine y_istore (L' := [some (2, 547), some (0, m), some (0, c), some (0, i), some (0, 3), some (0, 27), some (0, r.1), some (0, r.2), some (0, 10), some (0, 0), some (0, 10), some (0, 27), none, none, none]) rfl rfl rfl rfl ?_
    refine y_push rfl ?_
    refine y_istore (L' := [some (2, 547), some (0, m), some (0, c), some (0, i), some (0, 3), some (0, 27), some (0, r.1), some (0, r.2), some (0, 10), some (0, 0), some (0, 10), some (0, 27), some (0, 0), none, none]) rfl rfl rfl rfl ?_
    refine y_iload rfl rfl ?_
    refine y_iload rfl rfl ?_
    refine y_icge rfl (fun q111 => ?_) (fun q111 => ?_)
    · exfalso; omega
    · skip
      refine y_iload rfl rfl ?_
      refine y_iload rfl rfl ?_
      refine y_idiv (v := 9) rfl rfl (by omega) ?_
      refine y_istore (L' := [some (2, 547), some (0, m), some (0, c), some (0, i), some (0, 3), some (0, 27), some (0, r.1), some (0, r.2), some (0, 10), some (0, 0), some (0, 10), some (0, 9), some (0, 0), none, none]) rfl rfl rfl rfl ?_
      refine y_iload rfl rfl ?_
      refine y_iload rfl rfl ?_
      refine y_idiv (v := 1) rfl rfl (by omega) ?_
      refine y_iload rfl rfl ?_
      refine y_irem (v := 1) rfl rfl (by omega) ?_
      refine y_istore (L' := [some (2, 547), some (0, m), some (0, c), some (0, i), some (0, 3), some (0, 27), some (0, r.1), some (0, r.2), some (0, 10), some (0, 0), some (0, 10), some (0, 9), some (0, 0), some (0, 1), none]) rfl rfl rfl rfl ?_
      refine y_iload rfl rfl ?_
      refine y_push rfl ?_
      refine y_iload rfl rfl ?_
      refine y_ishl (v := 2) rfl rfl ?_
      refine y_ior (v := 2) rfl rfl ?_
      refine y_istore (L' := [some (2, 547), some (0, m), some (0, c), some (0, i), some (0, 3), some (0, 27), some (0, r.1), some (0, r.2), some (0, 10), some (0, 2), some (0, 10), some (0, 9), some (0, 0), some (0, 1), none]) rfl rfl rfl rfl ?_
      refine y_push rfl ?_
      refine y_istore (L' := [some (2, 547), some (0, m), some (0, c), some (0, i), some (0, 3), some (0, 27), some (0, r.1), some (0, r.2), some (0, 10), some (0, 2), some (0, 10), some (0, 9), some (0, 0), some (0, 1), some (0, 0)]) rfl rfl rfl rfl ?_
      refine lm_fT (C := (Z 1)) hx hg hN hm hg.1.2.1 (by omega) (fun s10 f1 r1 => ?_) 62 s1 0 (by omega) (by omega) (mfs_t h1 l2) l1
      refine y_aload rfl rfl rfl ?_
      refine y_gfr (t := 558) rfl rfl (by decide) rfl (by decide) ?_
      refine y_iload rfl rfl ?_
      refine y_push rfl ?_
      refine y_iast (n := 3) rfl rfl (by decide) rfl (by decide) ?_
      refine y_iinc (L' := [some (2, 547), some (0, m), some (0, c), some (0, i), some (0, 3), some (0, 27), some (0, r.1), some (0, r.2), some (0, 10), some (0, 2), some (0, 10), some (0, 9), some (0, 1), some (0, 1), none]) rfl rfl rfl rfl rfl (by decide) ?_
      refine y_goto rfl ?_
      refine y_iload rfl rfl ?_
      refine y_iload rfl rfl ?_
      refine y_icge rfl (fun q111 => ?_) (fun q111 => ?_)
      · exfalso; omega
      · skip
        refine y_iload rfl rfl ?_
        refine y_iload rfl rfl ?_
        refine y_idiv (v := 3) rfl rfl (by omega) ?_
        refine y_istore (L' := [some (2, 547), some (0, m), some (0, c), some (0, i), some (0, 3), some (0, 27), some (0, r.1), some (0, r.2), some (0, 10), some (0, 2), some (0, 10), some (0, 3), some (0, 1), some (0, 1), none]) rfl rfl rfl rfl ?_
        refine y_iload rfl rfl ?_
        refine y_iload rfl rfl ?_
        refine y_idiv (v := 3) rfl rfl (by omega) ?_
        refine y_iload rfl rfl ?_
        refine y_irem (v := 0) rfl rfl (by omega) ?_
        refine y_istore (L' := [some (2, 547), some (0, m), some (0, c), some (0, i), some (0, 3), some (0, 27), some (0, r.1), some (0, r.2), some (0, 10), some (0, 2), some (0, 10), some (0, 3), some (0, 1), some (0, 0), none]) rfl rfl rfl rfl ?_
        refine y_iload rfl rfl ?_
        refine y_push rfl ?_
        refine y_iload rfl rfl ?_
        refine y_ishl (v := 1) rfl rfl ?_
        refine y_ior (v := 3) rfl rfl ?_
        refine y_istore (L' := [some (2, 547), some (0, m), some (0, c), some (0, i), some (0, 3), some (0, 27), some (0, r.1), some (0, r.2), some (0, 10), some (0, 3), some (0, 10), some (0, 3), some (0, 1), some (0, 0), none]) rfl rfl rfl rfl ?_
        refine y_push rfl ?_
        refine y_istore (L' := [some (2, 547), some (0, m), some (0, c), some (0, i), some (0, 3), some (0, 27), some (0, r.1), some (0, r.2), some (0, 10), some (0, 3), some (0, 10), some (0, 3), some (0, 1), some (0, 0), some (0, 0)]) rfl rfl rfl rfl ?_
        have d1 : dG (Z 0) (mem1 (Z 0) m.toNat (Z 1) 1) := dG_mem1 hg.1.1 hg.1.2.1 (by omega)
        have v1 : (mem1 (Z 0) m.toNat (Z 1) 1) 5 0 = (Z 1) 5 0 + m.toNat := mem1_5
        refine lm_fT (C := (mem1 (Z 0) m.toNat (Z 1) 1)) hx hg hN hm d1 (by omega) (fun s11 f2 r2 => ?_) 62 (yset s10 558 1 1) 0 (by omega) (by omega) (mfs_s (k := 558) (j := 1) (v := 1) f1 (by omega)) (rm_m r1 (by omega) (by omega))
        refine y_aload rfl rfl rfl ?_
        refine y_gfr (t := 558) rfl rfl (by decide) rfl (by decide) ?_
        refine y_iload rfl rfl ?_
        refine y_push rfl ?_
        refine y_iast (n := 3) rfl rfl (by decide) rfl (by decide) ?_
        refine y_iinc (L' := [some (2, 547), some (0, m), some (0, c), some (0, i), some (0, 3), some (0, 27), some (0, r.1), some (0, r.2), some (0, 10), some (0, 3), some (0, 10), some (0, 3), some (0, 2), some (0, 0), none]) rfl rfl rfl rfl rfl (by decide) ?_
        refine y_goto rfl ?_
        refine y_iload rfl rfl ?_
        refine y_iload rfl rfl ?_
        refine y_icge rfl (fun q111 => ?_) (fun q111 => ?_)
        · exfalso; omega
        · skip
          refine y_iload rfl rfl ?_
          refine y_iload rfl rfl ?_
          refine y_idiv (v := 1) rfl rfl (by omega) ?_
          refine y_istore (L' := [some (2, 547), some (0, m), some (0, c), some (0, i), some (0, 3), some (0, 27), some (0, r.1), some (0, r.2), some (0, 10), some (0, 3), some (0, 10), some (0, 1), some (0, 2), some (0, 0), none]) rfl rfl rfl rfl ?_
          refine y_iload rfl rfl ?_
          refine y_iload rfl rfl ?_
          refine y_idiv (v := 10) rfl rfl (by omega) ?_
          refine y_iload rfl rfl ?_
          refine y_irem (v := 1) rfl rfl (by omega) ?_
          refine y_istore (L' := [some (2, 547), some (0, m), some (0, c), some (0, i), some (0, 3), some (0, 27), some (0, r.1), some (0, r.2), some (0, 10), some (0, 3), some (0, 10), some (0, 1), some (0, 2), some (0, 1), none]) rfl rfl rfl rfl ?_
          refine y_iload rfl rfl ?_
          refine y_push rfl ?_
          refine y_iload rfl rfl ?_
          refine y_ishl (v := 2) rfl rfl ?_
          refine y_ior (v := 3) rfl rfl ?_
          refine y_istore (L' := [some (2, 547), some (0, m), some (0, c), some (0, i), some (0, 3), some (0, 27), some (0, r.1), some (0, r.2), some (0, 10), some (0, 3), some (0, 10), some (0, 1), some (0, 2), some (0, 1), none]) rfl rfl rfl rfl ?_
          refine y_push rfl ?_
          refine y_istore (L' := [some (2, 547), some (0, m), some (0, c), some (0, i), some (0, 3), some (0, 27), some (0, r.1), some (0, r.2), some (0, 10), some (0, 3), some (0, 10), some (0, 1), some (0, 2), some (0, 1), some (0, 0)]) rfl rfl rfl rfl ?_
          have d2 : dG (Z 0) (mem1 (Z 0) m.toNat (mem1 (Z 0) m.toNat (Z 1) 1) 0) := dG_mem1 hg.1.1 d1 (by omega)
          have v2 : (mem1 (Z 0) m.toNat (mem1 (Z 0) m.toNat (Z 1) 1) 0) 5 0 = (mem1 (Z 0) m.toNat (Z 1) 1) 5 0 + m.toNat := mem1_5
          refine lm_fT (C := (mem1 (Z 0) m.toNat (mem1 (Z 0) m.toNat (Z 1) 1) 0)) hx hg hN hm d2 (by omega) (fun s12 f3 r3 => ?_) 62 (yset s11 558 0 1) 0 (by omega) (by omega) (mfs_s (k := 558) (j := 0) (v := 1) f2 (by omega)) (rm_m r2 (by omega) (by omega))
          refine y_aload rfl rfl rfl ?_
          refine y_gfr (t := 558) rfl rfl (by decide) rfl (by decide) ?_
          refine y_iload rfl rfl ?_
          refine y_push rfl ?_
          refine y_iast (n := 3) rfl rfl (by decide) rfl (by decide) ?_
          refine y_iinc (L' := [some (2, 547), some (0, m), some (0, c), some (0, i), some (0, 3), some (0, 27), some (0, r.1), some (0, r.2), some (0, 10), some (0, 3), some (0, 10), some (0, 1), some (0, 3), some (0, 1), none]) rfl rfl rfl rfl rfl (by decide) ?_
          refine y_goto rfl ?_
          refine y_iload rfl rfl ?_
          refine y_iload rfl rfl ?_
          refine y_icge rfl (fun q111 => ?_) (fun q111 => ?_)
          · skip
            refine y_iload rfl rfl ?_
            refine y_push rfl ?_
            refine y_iload rfl rfl ?_
            refine y_ishl (v := 8) rfl rfl ?_
            refine y_push rfl ?_
            refine y_isub (v := 7) rfl rfl (by decide) ?_
            refine y_icne rfl (fun q182 => ?_) (fun q182 => ?_)
            · skip
              refine y_push rfl ?_
              refine y_istore (L' := [some (2, 547), some (0, m), some (0, c), some (0, i), some (0, 3), some (0, 27), some (0, r.1), some (0, r.2), some (0, 10), some (0, 3), some (0, 10), some (0, 1), some (0, 0), some (0, 1), none]) rfl rfl rfl rfl ?_
              refine y_iload rfl rfl ?_
              refine y_ifeq rfl (fun q194 => ?_) (fun q194 => ?_)
              · skip
                refine y_iload rfl rfl ?_
                refine y_istore (L' := [some (2, 547), some (0, m), some (0, c), some (0, i), some (0, 3), some (0, 27), some (0, r.1), some (0, r.2), some (0, 10), some (0, 3), some (0, 10), some (0, 1), some (0, 0), some (0, 1), none]) rfl rfl rfl rfl ?_
                refine y_iload rfl rfl ?_
                refine y_ifeq rfl (fun q219 => ?_) (fun q219 => ?_)
                · skip
                  refine y_iload rfl rfl ?_
                  refine y_istore (L' := [some (2, 547), some (0, m), some (0, c), some (0, i), some (0, 3), some (0, 27), some (0, r.1), some (0, r.2), some (0, 10), some (0, 3), some (0, 10), some (0, 1), some (0, 0), some (0, 1), none]) rfl rfl rfl rfl ?_
                  refine y_iinc (L' := [some (2, 547), some (0, m), some (0, c), some (0, i), some (0, 3), some (0, 27), some (0, r.1), some (0, r.2), some (0, 11), some (0, 3), some (0, 10), some (0, 1), some (0, 0), some (0, 1), none]) rfl rfl rfl rfl rfl (by decide) ?_
                  refine y_goto rfl ?_
                  refine y_forget (M := [some (2, 547), some (0, m), some (0, c), some (0, i), some (0, 3), some (0, 27), some (0, r.1), some (0, r.2), some (0, 11), none, none, none, none, none, none]) ⟨Or.inr rfl, ⟨Or.inr rfl, ⟨Or.inr rfl, ⟨Or.inr rfl, ⟨Or.inr rfl, ⟨Or.inr rfl, ⟨Or.inr rfl, ⟨Or.inr rfl, ⟨Or.inr rfl, ⟨Or.inl rfl, ⟨Or.inl rfl, ⟨Or.inl rfl, ⟨Or.inl rfl, ⟨Or.inl rfl, ⟨Or.inl rfl, trivial⟩⟩⟩⟩⟩⟩⟩⟩⟩⟩⟩⟩⟩⟩⟩ ?_
                  exact hk _ (mfs_s (k := 558) (j := 1) (v := 1) f3 (by omega))
                · exfalso; omega
              · exfalso; omega
            · exfalso; omega
          · exfalso; omega
theorem lm_f3_11 {g : Launch × XG × va_G} {σ : YS} {τ : YS} {Z : YZ} {I : Int → YZ} {M : YS} {N : Int} {m c i : Int} {r : Int × Int} {P0 : Int → YS → Prop}  (hx : mW σ Z I M) (hg : wG Z I M N) (hN : N < 100000) (hm : (0 ≤ m ∧ m ≤ 60) ∧ (0 ≤ c ∧ c < Z 0 0 0) ∧ -1 ≤ i) (hw : Z 0 1 0 = 3) (h1 : mfs σ τ) (hk : ∀ s, mfs σ s → YW g 93 82 [some (2, 547), some (0, m), some (0, c), some (0, i), some (0, 3), some (0, 27), some (0, (mbx r ((mem1 (Z 0) m.toNat (mem1 (Z 0) m.toNat (mem1 (Z 0) m.toNat (Z 1) 1) 0) 2) 0 c) 11).1), some (0, (mbx r ((mem1 (Z 0) m.toNat (mem1 (Z 0) m.toNat (mem1 (Z 0) m.toNat (Z 1) 1) 0) 2) 0 c) 11).2), some (0, 12), none, none, none, none, none, none] [] s (fun rv σ' => ∃ b, rv = some (0, b) ∧ (P0 b σ'))) : YW g 93 82 [some (2, 547), some (0, m), some (0, c), some (0, i), some (0, 3), some (0, 27), some (0, r.1), some (0, r.2), some (0, 11), none, none, none, none, none, none] [] τ (fun rv σ' => ∃ b, rv = some (0, b) ∧ (P0 b σ')) := by
  have e1 := hg.1.1.1
  have hn5 := hg.1.2.2.1
  refine y_iload rfl rfl ?_
  refine y_iload rfl rfl ?_
  refine y_icge rfl (fun q86 => ?_) (fun q86 => ?_)
  · exfalso; omega
  · skip
    refine y_aload rfl rfl rfl ?_
    refine y_vu (as := [(2, 547)]) (S := []) rfl rfl rfl rfl rfl rfl (by decide) rfl (m_layNow (mzs_cong hg.1.1 hx.1.1 (fun y a b => h1 548 y (by omega))) hg.1.1 hg.1.2.1 hg.1.2.2.2.2.1.1) ?_
    rintro s1 ⟨l1, l2⟩
    refine y_push rfl ?_
    refine y_istore (L' := [some (2, 547), some (0, m), some (0, c), some (0, i), some (0, 3), some (0, 27), some (0, r.1), some (0, r.2), some (0, 11), some (0, 0), none, none, none, none, none]) rfl rfl rfl rfl ?_
    refine y_iload rfl rfl ?_
    refine y_istore (L' := [some (2, 547), some (0, m), some (0, c), some (0, i), some (0, 3), some (0, 27), some (0, r.1), some (0, r.2), some (0, 11), some (0, 0), some (0, 11), none, none, none, none]) rfl rfl rfl rfl ?_
    refine y_iload rfl rfl ?_
    refine y_istore (L' := [some (2, 547), some (0, m), some (0, c), some (0, i), some (0, 3), some (0, 27), some (0, r.1), some (0, r.2), some (0, 11), some (0, 0), some (0, 11), some (0, 27), none, none, none]) rfl rfl rfl rfl ?_
    refine y_push rfl ?_
    refine y_istore (L' := [some (2, 547), some (0, m), some (0, c), some (0, i), some (0, 3), some (0, 27), some (0, r.1), some (0, r.2), some (0, 11), some (0, 0), some (0, 11), some (0, 27), some (0, 0), none, none]) rfl rfl rfl rfl ?_
    refine y_iload rfl rfl ?_
    refine y_iload rfl rfl ?_
    refine y_icge rfl (fun q111 => ?_) (fun q111 => ?_)
    · exfalso; omega
    · skip
      refine y_iload rfl rfl ?_
      refine y_iload rfl rfl ?_
      refine y_idiv (v := 9) rfl rfl (by omega) ?_
      refine y_istore (L' := [some (2, 547), some (0, m), some (0, c), some (0, i), some (0, 3), some (0, 27), some (0, r.1), some (0, r.2), some (0, 11), some (0, 0), some (0, 11), some (0, 9), some (0, 0), none, none]) rfl rfl rfl rfl ?_
      refine y_iload rfl rfl ?_
      refine y_iload rfl rfl ?_
      refine y_idiv (v := 1) rfl rfl (by omega) ?_
      refine y_iload rfl rfl ?_
      refine y_irem (v := 1) rfl rfl (by omega) ?_
      refine y_istore (L' := [some (2, 547), some (0, m), some (0, c), some (0, i), some (0, 3), some (0, 27), some (0, r.1), some (0, r.2), some (0, 11), some (0, 0), some (0, 11), some (0, 9), some (0, 0), some (0, 1), none]) rfl rfl rfl rfl ?_
      refine y_iload rfl rfl ?_
      refine y_push rfl ?_
      refine y_iload rfl rfl ?_
      refine y_ishl (v := 2) rfl rfl ?_
      refine y_ior (v := 2) rfl rfl ?_
      refine y_istore (L' := [some (2, 547), some (0, m), some (0, c), some (0, i), some (0, 3), some (0, 27), some (0, r.1), some (0, r.2), some (0, 11), some (0, 2), some (0, 11), some (0, 9), some (0, 0), some (0, 1), none]) rfl rfl rfl rfl ?_
      refine y_push rfl ?_
      refine y_istore (L' := [some (2, 547), some (0, m), some (0, c), some (0, i), some (0, 3), some (0, 27), some (0, r.1), some (0, r.2), some (0, 11), some (0, 2), some (0, 11), some (0, 9), some (0, 0), some (0, 1), some (0, 0)]) rfl rfl rfl rfl ?_
      refine lm_fT (C := (Z 1)) hx hg hN hm hg.1.2.1 (by omega) (fun s10 f1 r1 => ?_) 62 s1 0 (by omega) (by omega) (mfs_t h1 l2) l1
      refine y_aload rfl rfl rfl ?_
      refine y_gfr (t := 558) rfl rfl (by decide) rfl (by decide) ?_
      refine y_iload rfl rfl ?_
      refine y_push rfl ?_
      refine y_iast (n := 3) rfl rfl (by decide) rfl (by decide) ?_
      refine y_iinc (L' := [some (2, 547), some (0, m), some (0, c), some (0, i), some (0, 3), some (0, 27), some (0, r.1), some (0, r.2), some (0, 11), some (0, 2), some (0, 11), some (0, 9), some (0, 1), some (0, 1), none]) rfl rfl rfl rfl rfl (by decide) ?_
      refine y_goto rfl ?_
      refine y_iload rfl rfl ?_
      refine y_iload rfl rfl ?_
      refine y_icge rfl (fun q111 => ?_) (fun q111 => ?_)
      · exfalso; omega
      · skip
        refine y_iload rfl rfl ?_
        refine y_iload rfl rfl ?_
        refine y_idiv (v := 3) rfl rfl (by omega) ?_
        refine y_istore (L' := [some (2, 547), some (0, m), some (0, c), some (0, i), some (0, 3), some (0, 27), some (0, r.1), some (0, r.2), some (0, 11), some (0, 2), some (0, 11), some (0, 3), some (0, 1), some (0, 1), none]) rfl rfl rfl rfl ?_
        refine y_iload rfl rfl ?_
        refine y_iload rfl rfl ?_
        refine y_idiv (v := 3) rfl rfl (by omega) ?_
        refine y_iload rfl rfl ?_
        refine y_irem (v := 0) rfl rfl (by omega) ?_
        refine y_istore (L' := [some (2, 547), some (0, m), some (0, c), some (0, i), some (0, 3), some (0, 27), some (0, r.1), some (0, r.2), some (0, 11), some (0, 2), some (0, 11), some (0, 3), some (0, 1), some (0, 0), none]) rfl rfl rfl rfl ?_
        refine y_iload rfl rfl ?_
        refine y_push rfl ?_
        refine y_iload rfl rfl ?_
        refine y_ishl (v := 1) rfl rfl ?_
        refine y_ior (v := 3) rfl rfl ?_
        refine y_istore (L' := [some (2, 547), some (0, m), some (0, c), some (0, i), some (0, 3), some (0, 27), some (0, r.1), some (0, r.2), some (0, 11), some (0, 3), some (0, 11), some (0, 3), some (0, 1), some (0, 0), none]) rfl rfl rfl rfl ?_
        refine y_push rfl ?_
        refine y_istore (L' := [some (2, 547), some (0, m), some (0, c), some (0, i), some (0, 3), some (0, 27), some (0, r.1), some (0, r.2), some (0, 11), some (0, 3), some (0, 11), some (0, 3), some (0, 1), some (0, 0), some (0, 0)]) rfl rfl rfl rfl ?_
        have d1 : dG (Z 0) (mem1 (Z 0) m.toNat (Z 1) 1) := dG_mem1 hg.1.1 hg.1.2.1 (by omega)
        have v1 : (mem1 (Z 0) m.toNat (Z 1) 1) 5 0 = (Z 1) 5 0 + m.toNat := mem1_5
        refine lm_fT (C := (mem1 (Z 0) m.toNat (Z 1) 1)) hx hg hN hm d1 (by omega) (fun s11 f2 r2 => ?_) 62 (yset s10 558 1 1) 0 (by omega) (by omega) (mfs_s (k := 558) (j := 1) (v := 1) f1 (by omega)) (rm_m r1 (by omega) (by omega))
        refine y_aload rfl rfl rfl ?_
        refine y_gfr (t := 558) rfl rfl (by decide) rfl (by decide) ?_
        refine y_iload rfl rfl ?_
        refine y_push rfl ?_
        refine y_iast (n := 3) rfl rfl (by decide) rfl (by decide) ?_
        refine y_iinc (L' := [some (2, 547), some (0, m), some (0, c), some (0, i), some (0, 3), some (0, 27), some (0, r.1), some (0, r.2), some (0, 11), some (0, 3), some (0, 11), some (0, 3), some (0, 2), some (0, 0), none]) rfl rfl rfl rfl rfl (by decide) ?_
        refine y_goto rfl ?_
        refine y_iload rfl rfl ?_
        refine y_iload rfl rfl ?_
        refine y_icge rfl (fun q111 => ?_) (fun q111 => ?_)
        · exfalso; omega
        · skip
          refine y_iload rfl rfl ?_
          refine y_iload rfl rfl ?_
          refine y_idiv (v := 1) rfl rfl (by omega) ?_
          refine y_istore (L' := [some (2, 547), some (0, m), some (0, c), some (0, i), some (0, 3), some (0, 27), some (0, r.1), some (0, r.2), some (0, 11), some (0, 3), some (0, 11), some (0, 1), some (0, 2), some (0, 0), none]) rfl rfl rfl rfl ?_
          refine y_iload rfl rfl ?_
          refine y_iload rfl rfl ?_
          refine y_idiv (v := 11) rfl rfl (by omega) ?_
          refine y_iload rfl rfl ?_
          refine y_irem (v := 2) rfl rfl (by omega) ?_
          refine y_istore (L' := [some (2, 547), some (0, m), some (0, c), some (0, i), some (0, 3), some (0, 27), some (0, r.1), some (0, r.2), some (0, 11), some (0, 3), some (0, 11), some (0, 1), some (0, 2), some (0, 2), none]) rfl rfl rfl rfl ?_
          refine y_iload rfl rfl ?_
          refine y_push rfl ?_
          refine y_iload rfl rfl ?_
          refine y_ishl (v := 4) rfl rfl ?_
          refine y_ior (v := 7) rfl rfl ?_
          refine y_istore (L' := [some (2, 547), some (0, m), some (0, c), some (0, i), some (0, 3), some (0, 27), some (0, r.1), some (0, r.2), some (0, 11), some (0, 7), some (0, 11), some (0, 1), some (0, 2), some (0, 2), none]) rfl rfl rfl rfl ?_
          refine y_push rfl ?_
          refine y_istore (L' := [some (2, 547), some (0, m), some (0, c), some (0, i), some (0, 3), some (0, 27), some (0, r.1), some (0, r.2), some (0, 11), some (0, 7), some (0, 11), some (0, 1), some (0, 2), some (0, 2), some (0, 0)]) rfl rfl rfl rfl ?_
          have d2 : dG (Z 0) (mem1 (Z 0) m.toNat (mem1 (Z 0) m.toNat (Z 1) 1) 0) := dG_mem1 hg.1.1 d1 (by omega)
          have v2 : (mem1 (Z 0) m.toNat (mem1 (Z 0) m.toNat (Z 1) 1) 0) 5 0 = (mem1 (Z 0) m.toNat (Z 1) 1) 5 0 + m.toNat := mem1_5
          refine lm_fT (C := (mem1 (Z 0) m.toNat (mem1 (Z 0) m.toNat (Z 1) 1) 0)) hx hg hN hm d2 (by omega) (fun s12 f3 r3 => ?_) 62 (yset s11 558 0 1) 0 (by omega) (by omega) (mfs_s (k := 558) (j := 0) (v := 1) f2 (by omega)) (rm_m r2 (by omega) (by omega))
          refine y_aload rfl rfl rfl ?_
          refine y_gfr (t := 558) rfl rfl (by decide) rfl (by decide) ?_
          refine y_iload rfl rfl ?_
          refine y_push rfl ?_
          refine y_iast (n := 3) rfl rfl (by decide) rfl (by decide) ?_
          refine y_iinc (L' := [some (2, 547), some (0, m), some (0, c), some (0, i), some (0, 3), some (0, 27), some (0, r.1), some (0, r.2), some (0, 11), some (0, 7), some (0, 11), some (0, 1), some (0, 3), some (0, 2), none]) rfl rfl rfl rfl rfl (by decide) ?_
          refine y_goto rfl ?_
          refine y_iload rfl rfl ?_
          refine y_iload rfl rfl ?_
          refine y_icge rfl (fun q111 => ?_) (fun q111 => ?_)
          · skip
            refine y_iload rfl rfl ?_
            refine y_push rfl ?_
            refine y_iload rfl rfl ?_
            refine y_ishl (v := 8) rfl rfl ?_
            refine y_push rfl ?_
            refine y_isub (v := 7) rfl rfl (by decide) ?_
            refine y_icne rfl (fun q182 => ?_) (fun q182 => ?_)
            · exfalso; omega
            · skip
              refine y_push rfl ?_
              refine y_goto rfl ?_
              refine y_istore (L' := [some (2, 547), some (0, m), some (0, c), some (0, i), some (0, 3), some (0, 27), some (0, r.1), some (0, r.2), some (0, 11), some (0, 7), some (0, 11), some (0, 1), some (0, 1), some (0, 2), none]) rfl rfl rfl rfl ?_
              have hv : s12 554 c = ((mem1 (Z 0) m.toNat (mem1 (Z 0) m.toNat (mem1 (Z 0) m.toNat (Z 1) 1) 0) 2) 0 c) := (r3.2.1 c (by omega) (by omega)).trans (yne (by omega) rfl).symm
              refine y_iload rfl rfl ?_
              refine y_ifeq rfl (fun q194 => ?_) (fun q194 => ?_)
              · exfalso; omega
              · skip
                refine y_aload rfl rfl rfl ?_
                refine y_gfr (t := 554) rfl rfl (by decide) rfl (by decide) ?_
                refine y_iload rfl rfl ?_
                refine y_iald (v := (s12 554 c)) (n := 9) rfl rfl (by decide) rfl (by omega) (yne (by omega) rfl) ?_
                refine y_iload rfl rfl ?_
                refine y_icle rfl (fun q205 => ?_) (fun q205 => ?_)
                · skip
                  refine y_iload rfl rfl ?_
                  refine y_istore (L' := [some (2, 547), some (0, m), some (0, c), some (0, i), some (0, 3), some (0, 27), some (0, r.1), some (0, r.2), some (0, 11), some (0, 7), some (0, 11), some (0, 1), some (0, 1), some (0, 2), none]) rfl rfl rfl rfl ?_
                  refine y_iload rfl rfl ?_
                  refine y_ifeq rfl (fun q219 => ?_) (fun q219 => ?_)
                  · exfalso; omega
                  · skip
                    refine y_aload rfl rfl rfl ?_
                    refine y_gfr (t := 554) rfl rfl (by decide) rfl (by decide) ?_
                    refine y_iload rfl rfl ?_
                    refine y_iald (v := (s12 554 c)) (n := 9) rfl rfl (by decide) rfl (by omega) (yne (by omega) rfl) ?_
                    refine y_iload rfl rfl ?_
                    refine y_icle rfl (fun q230 => ?_) (fun q230 => ?_)
                    · skip
                      refine y_iload rfl rfl ?_
                      refine y_istore (L' := [some (2, 547), some (0, m), some (0, c), some (0, i), some (0, 3), some (0, 27), some (0, r.1), some (0, r.2), some (0, 11), some (0, 7), some (0, 11), some (0, 1), some (0, 1), some (0, 2), none]) rfl rfl rfl rfl ?_
                      refine y_iinc (L' := [some (2, 547), some (0, m), some (0, c), some (0, i), some (0, 3), some (0, 27), some (0, r.1), some (0, r.2), some (0, 12), some (0, 7), some (0, 11), some (0, 1), some (0, 1), some (0, 2), none]) rfl rfl rfl rfl rfl (by decide) ?_
                      refine y_goto rfl ?_
                      refine y_forget (M := [some (2, 547), some (0, m), some (0, c), some (0, i), some (0, 3), some (0, 27), some (0, r.1), some (0, r.2), some (0, 12), none, none, none, none, none, none]) ⟨Or.inr rfl, ⟨Or.inr rfl, ⟨Or.inr rfl, ⟨Or.inr rfl, ⟨Or.inr rfl, ⟨Or.inr rfl, ⟨Or.inr rfl, ⟨Or.inr rfl, ⟨Or.inr rfl, ⟨Or.inl rfl, ⟨Or.inl rfl, ⟨Or.inl rfl, ⟨Or.inl rfl, ⟨Or.inl rfl, ⟨Or.inl rfl, trivial⟩⟩⟩⟩⟩⟩⟩⟩⟩⟩⟩⟩⟩⟩⟩ ?_
                      have e := hk _ (mfs_s (k := 558) (j := 2) (v := 1) f3 (by omega))
                      rw [show mbx r ((mem1 (Z 0) m.toNat (mem1 (Z 0) m.toNat (mem1 (Z 0) m.toNat (Z 1) 1) 0) 2) 0 c) 11 = r from if_neg (by first | omega | (rw [← hv]; omega))] at e
                      exact e
                    · exfalso; omega
                · skip
                  refine y_iload rfl rfl ?_
                  refine y_goto rfl ?_
                  refine y_istore (L' := [some (2, 547), some (0, m), some (0, c), some (0, i), some (0, 3), some (0, 27), some (0, r.1), some (0, 11), some (0, 11), some (0, 7), some (0, 11), some (0, 1), some (0, 1), some (0, 2), none]) rfl rfl rfl rfl ?_
                  refine y_iload rfl rfl ?_
                  refine y_ifeq rfl (fun q219 => ?_) (fun q219 => ?_)
                  · exfalso; omega
                  · skip
                    refine y_aload rfl rfl rfl ?_
                    refine y_gfr (t := 554) rfl rfl (by decide) rfl (by decide) ?_
                    refine y_iload rfl rfl ?_
                    refine y_iald (v := (s12 554 c)) (n := 9) rfl rfl (by decide) rfl (by omega) (yne (by omega) rfl) ?_
                    refine y_iload rfl rfl ?_
                    refine y_icle rfl (fun q230 => ?_) (fun q230 => ?_)
                    · exfalso; omega
                    · skip
                      refine y_aload rfl rfl rfl ?_
                      refine y_gfr (t := 554) rfl rfl (by decide) rfl (by decide) ?_
                      refine y_iload rfl rfl ?_
                      refine y_iald (v := (s12 554 c)) (n := 9) rfl rfl (by decide) rfl (by omega) (yne (by omega) rfl) ?_
                      refine y_goto rfl ?_
                      refine y_istore (L' := [some (2, 547), some (0, m), some (0, c), some (0, i), some (0, 3), some (0, 27), some (0, (s12 554 c)), some (0, 11), some (0, 11), some (0, 7), some (0, 11), some (0, 1), some (0, 1), some (0, 2), none]) rfl rfl rfl rfl ?_
                      refine y_iinc (L' := [some (2, 547), some (0, m), some (0, c), some (0, i), some (0, 3), some (0, 27), some (0, (s12 554 c)), some (0, 11), some (0, 12), some (0, 7), some (0, 11), some (0, 1), some (0, 1), some (0, 2), none]) rfl rfl rfl rfl rfl (by decide) ?_
                      refine y_goto rfl ?_
                      refine y_forget (M := [some (2, 547), some (0, m), some (0, c), some (0, i), some (0, 3), some (0, 27), some (0, (s12 554 c)), some (0, 11), some (0, 12), none, none, none, none, none, none]) ⟨Or.inr rfl, ⟨Or.inr rfl, ⟨Or.inr rfl, ⟨Or.inr rfl, ⟨Or.inr rfl, ⟨Or.inr rfl, ⟨Or.inr rfl, ⟨Or.inr rfl, ⟨Or.inr rfl, ⟨Or.inl rfl, ⟨Or.inl rfl, ⟨Or.inl rfl, ⟨Or.inl rfl, ⟨Or.inl rfl, ⟨Or.inl rfl, trivial⟩⟩⟩⟩⟩⟩⟩⟩⟩⟩⟩⟩⟩⟩⟩ ?_
                      have e := hk _ (mfs_s (k := 558) (j := 2) (v := 1) f3 (by omega))
                      rw [show mbx r ((mem1 (Z 0) m.toNat (mem1 (Z 0) m.toNat (mem1 (Z 0) m.toNat (Z 1) 1) 0) 2) 0 c) 11 = ((s12 554 c), 11) from (if_pos (by first | omega | (rw [← hv]; omega))).trans (by rw [hv])] at e
                      exact e
          · exfalso; omega
