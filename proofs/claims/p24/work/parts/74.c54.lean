theorem lm_f3_21 {g : Launch × XG × va_G} {σ : YS} {τ : YS} {Z : YZ} {I : Int → YZ} {M : YS} {N : Int} {m c i : Int} {r : Int × Int} {P0 : Int → YS → Prop}  (hx : mW σ Z I M) (hg : wG Z I M N) (hN : N < 100000) (hm : (0 ≤ m ∧ m ≤ 60) ∧ (0 ≤ c ∧ c < Z 0 0 0) ∧ -1 ≤ i) (hw : Z 0 1 0 = 3) (h1 : mfs σ τ) (hk : ∀ s, mfs σ s → YW g 93 82 [some (2, 547), some (0, m), some (0, c), some (0, i), some (0, 3), some (0, 27), some (0, (mbx r ((mem1 (Z 0) m.toNat (mem1 (Z 0) m.toNat (mem1 (Z 0) m.toNat (Z 1) 2) 1) 0) 0 c) 21).1), some (0, (mbx r ((mem1 (Z 0) m.toNat (mem1 (Z 0) m.toNat (mem1 (Z 0) m.toNat (Z 1) 2) 1) 0) 0 c) 21).2), some (0, 22), none, none, none, none, none, none] [] s (fun rv σ' => ∃ b, rv = some (0, b) ∧ (P0 b σ'))) : YW g 93 82 [some (2, 547), some (0, m), some (0, c), some (0, i), some (0, 3), some (0, 27), some (0, r.1), some (0, r.2), some (0, 21), none, none, none, none, none, none] [] τ (fun rv σ' => ∃ b, rv = some (0, b) ∧ (P0 b σ')) := by
  have e1 := hg.1.1.1
  have hn5 := hg.1.2.2.1
  refine y_iload rfl rfl ?_
  refine y_iload rfl rfl ?_
  refine y_icge rfl (fun q86 => ?_) (fun q86 => ?_)
  · exfalso; omega
  · skip
    refine y_aload rfl rfl rfl ?_
    refine y_vu (as := [(2, 547)]) (S := []) rfl rfl rfl rfl rfl rfl (by decide) rfl (m_layNow (mzs_cong hg.1.1 hx.1.1 (fun y a b => h1 548 y (by omega))) hg.1.1 hg.1.2.1 hg.1.2.2.2.2.1.1) ?_
    rintro s1 ⟨l1, l2⟩
    refine y_push rfl ?_
    refine y_istore (L' := [some (2, 547), some (0, m), some (0, c), some (0, i), some (0, 3), some (0, 27), some (0, r.1), some (0, r.2), some (0, 21), some (0, 0), none, none, none, none, none]) rfl rfl rfl rfl ?_
    refine y_iload rfl rfl ?_
    refine y_istore (L' := [some (2, 547), some (0, m), some (0, c), some (0, i), some (0, 3), some (0, 27), some (0, r.1), some (0, r.2), some (0, 21), some (0, 0), some (0, 21), none, none, none, none]) rfl rfl rfl rfl ?_
    refine y_iload rfl rfl ?_
    refine y_istore (L' := [some (2, 547), some (0, m), some (0, c), some (0, i), some (0, 3), some (0, 27), some (0, r.1), some (0, r.2), some (0, 21), some (0, 0), some (0, 21), some (0, 27), none, none, none]) rfl rfl rfl rfl ?_
    refine y_push rfl ?_
    refine y_istore (L' := [some (2, 547), some (0, m), some (0, c), some (0, i), some (0, 3), some (0, 27), some (0, r.1), some (0, r.2), some (0, 21), some (0, 0), some (0, 21), some (0, 27), some (0, 0), none, none]) rfl rfl rfl rfl ?_
    refine y_iload rfl rfl ?_
    refine y_iload rfl rfl ?_
    refine y_icge rfl (fun q111 => ?_) (fun q111 => ?_)
    · exfalso; omega
    · skip
      refine y_iload rfl rfl ?_
      refine y_iload rfl rfl ?_
      refine y_idiv (v := 9) rfl rfl (by omega) ?_
      refine y_istore (L' := [some (2, 547), some (0, m), some (0, c), some (0, i), some (0, 3), some (0, 27), some (0, r.1), some (0, r.2), some (0, 21), some (0, 0), some (0, 21), some (0, 9), some (0, 0), none, none]) rfl rfl rfl rfl ?_
      refine y_iload rfl rfl ?_
      refine y_iload rfl rfl ?_
      refine y_idiv (v := 2) rfl rfl (by omega) ?_
      refine y_iload rfl rfl ?_
      refine y_irem (v := 2) rfl rfl (by omega) ?_
      refine y_istore (L' := [some (2, 547), some (0, m), some (0, c), some (0, i), some (0, 3), some (0, 27), some (0, r.1), some (0, r.2), some (0, 21), some (0, 0), some (0, 21), some (0, 9), some (0, 0), some (0, 2), none]) rfl rfl rfl rfl ?_
      refine y_iload rfl rfl ?_
      refine y_push rfl ?_
      refine y_iload rfl rfl ?_
      refine y_ishl (v := 4) rfl rfl ?_
      refine y_ior (v := 4) rfl rfl ?_
      refine y_istore (L' := [some (2, 547), some (0, m), some (0, c), some (0, i), some (0, 3), some (0, 27), some (0, r.1), some (0, r.2), some (0, 21), some (0, 4), some (0, 21), some (0, 9), some (0, 0), some (0, 2), none]) rfl rfl rfl rfl ?_
      refine y_push rfl ?_
      refine y_istore (L' := [some (2, 547), some (0, m), some (0, c), some (0, i), some (0, 3), some (0, 27), some (0, r.1), some (0, r.2), some (0, 21), some (0, 4), some (0, 21), some (0, 9), some (0, 0), some (0, 2), some (0, 0)]) rfl rfl rfl rfl ?_
      refine lm_fT (C := (Z 1)) hx hg hN hm hg.1.2.1 (by omega) (fun s10 f1 r1 => ?_) 62 s1 0 (by omega) (by omega) (mfs_t h1 l2) l1
      refine y_aload rfl rfl rfl ?_
      refine y_gfr (t := 558) rfl rfl (by decide) rfl (by decide) ?_
      refine y_iload rfl rfl ?_
      refine y_push rfl ?_
      refine y_iast (n := 3) rfl rfl (by decide) rfl (by decide) ?_
      refine y_iinc (L' := [some (2, 547), some (0, m), some (0, c), some (0, i), some (0, 3), some (0, 27), some (0, r.1), some (0, r.2), some (0, 21), some (0, 4), some (0, 21), some (0, 9), some (0, 1), some (0, 2), none]) rfl rfl rfl rfl rfl (by decide) ?_
      refine y_goto rfl ?_
      refine y_iload rfl rfl ?_
      refine y_iload rfl rfl ?_
      refine y_icge rfl (fun q111 => ?_) (fun q111 => ?_)
      · exfalso; omega
      · skip
        refine y_iload rfl rfl ?_
        refine y_iload rfl rfl ?_
        refine y_idiv (v := 3) rfl rfl (by omega) ?_
        refine y_istore (L' := [some (2, 547), some (0, m), some (0, c), some (0, i), some (0, 3), some (0, 27), some (0, r.1), some (0, r.2), some (0, 21), some (0, 4), some (0, 21), some (0, 3), some (0, 1), some (0, 2), none]) rfl rfl rfl rfl ?_
        refine y_iload rfl rfl ?_
        refine y_iload rfl rfl ?_
        refine y_idiv (v := 7) rfl rfl (by omega) ?_
        refine y_iload rfl rfl ?_
        refine y_irem (v := 1) rfl rfl (by omega) ?_
        refine y_istore (L' := [some (2, 547), some (0, m), some (0, c), some (0, i), some (0, 3), some (0, 27), some (0, r.1), some (0, r.2), some (0, 21), some (0, 4), some (0, 21), some (0, 3), some (0, 1), some (0, 1), none]) rfl rfl rfl rfl ?_
        refine y_iload rfl rfl ?_
        refine y_push rfl ?_
        refine y_iload rfl rfl ?_
        refine y_ishl (v := 2) rfl rfl ?_
        refine y_ior (v := 6) rfl rfl ?_
        refine y_istore (L' := [some (2, 547), some (0, m), some (0, c), some (0, i), some (0, 3), some (0, 27), some (0, r.1), some (0, r.2), some (0, 21), some (0, 6), some (0, 21), some (0, 3), some (0, 1), some (0, 1), none]) rfl rfl rfl rfl ?_
        refine y_push rfl ?_
        refine y_istore (L' := [some (2, 547), some (0, m), some (0, c), some (0, i), some (0, 3), some (0, 27), some (0, r.1), some (0, r.2), some (0, 21), some (0, 6), some (0, 21), some (0, 3), some (0, 1), some (0, 1), some (0, 0)]) rfl rfl rfl rfl ?_
        have d1 : dG (Z 0) (mem1 (Z 0) m.toNat (Z 1) 2) := dG_mem1 hg.1.1 hg.1.2.1 (by omega)
        have v1 : (mem1 (Z 0) m.toNat (Z 1) 2) 5 0 = (Z 1) 5 0 + m.toNat := mem1_5
        refine lm_fT (C := (mem1 (Z 0) m.toNat (Z 1) 2)) hx hg hN hm d1 (by omega) (fun s11 f2 r2 => ?_) 62 (yset s10 558 2 1) 0 (by omega) (by omega) (mfs_s (k := 558) (j := 2) (v := 1) f1 (by omega)) (rm_m r1 (by omega) (by omega))
        refine y_aload rfl rfl rfl ?_
        refine y_gfr (t := 558) rfl rfl (by decide) rfl (by decide) ?_
        refine y_iload rfl rfl ?_
        refine y_push rfl ?_
        refine y_iast (n := 3) rfl rfl (by decide) rfl (by decide) ?_
        refine y_iinc (L' := [some (2, 547), some (0, m), some (0, c), some (0, i), some (0, 3), some (0, 27), some (0, r.1), some (0, r.2), some (0, 21), some (0, 6), some (0, 21), some (0, 3), some (0, 2), some (0, 1), none]) rfl rfl rfl rfl rfl (by decide) ?_
        refine y_goto rfl ?_
        refine y_iload rfl rfl ?_
        refine y_iload rfl rfl ?_
        refine y_icge rfl (fun q111 => ?_) (fun q111 => ?_)
        · exfalso; omega
        · skip
          refine y_iload rfl rfl ?_
          refine y_iload rfl rfl ?_
          refine y_idiv (v := 1) rfl rfl (by omega) ?_
          refine y_istore (L' := [some (2, 547), some (0, m), some (0, c), some (0, i), some (0, 3), some (0, 27), some (0, r.1), some (0, r.2), some (0, 21), some (0, 6), some (0, 21), some (0, 1), some (0, 2), some (0, 1), none]) rfl rfl rfl rfl ?_
          refine y_iload rfl rfl ?_
          refine y_iload rfl rfl ?_
          refine y_idiv (v := 21) rfl rfl (by omega) ?_
          refine y_iload rfl rfl ?_
          refine y_irem (v := 0) rfl rfl (by omega) ?_
          refine y_istore (L' := [some (2, 547), some (0, m), some (0, c), some (0, i), some (0, 3), some (0, 27), some (0, r.1), some (0, r.2), some (0, 21), some (0, 6), some (0, 21), some (0, 1), some (0, 2), some (0, 0), none]) rfl rfl rfl rfl ?_
          refine y_iload rfl rfl ?_
          refine y_push rfl ?_
          refine y_iload rfl rfl ?_
          refine y_ishl (v := 1) rfl rfl ?_
          refine y_ior (v := 7) rfl rfl ?_
          refine y_istore (L' := [some (2, 547), some (0, m), some (0, c), some (0, i), some (0, 3), some (0, 27), some (0, r.1), some (0, r.2), some (0, 21), some (0, 7), some (0, 21), some (0, 1), some (0, 2), some (0, 0), none]) rfl rfl rfl rfl ?_
          refine y_push rfl ?_
          refine y_istore (L' := [some (2, 547), some (0, m), some (0, c), some (0, i), some (0, 3), some (0, 27), some (0, r.1), some (0, r.2), some (0, 21), some (0, 7), some (0, 21), some (0, 1), some (0, 2), some (0, 0), some (0, 0)]) rfl rfl rfl rfl ?_
          have d2 : dG (Z 0) (mem1 (Z 0) m.toNat (mem1 (Z 0) m.toNat (Z 1) 2) 1) := dG_mem1 hg.1.1 d1 (by omega)
          have v2 : (mem1 (Z 0) m.toNat (mem1 (Z 0) m.toNat (Z 1) 2) 1) 5 0 = (mem1 (Z 0) m.toNat (Z 1) 2) 5 0 + m.toNat := mem1_5
          refine lm_fT (C := (mem1 (Z 0) m.toNat (mem1 (Z 0) m.toNat (Z 1) 2) 1)) hx hg hN hm d2 (by omega) (fun s12 f3 r3 => ?_) 62 (yset s11 558 1 1) 0 (by omega) (by omega) (mfs_s (k := 558) (j := 1) (v := 1) f2 (by omega)) (rm_m r2 (by omega) (by omega))
          refine y_aload rfl rfl rfl ?_
          refine y_gfr (t := 558) rfl rfl (by decide) rfl (by decide) ?_
          refine y_iload rfl rfl ?_
          refine y_push rfl ?_
          refine y_iast (n := 3) rfl rfl (by decide) rfl (by decide) ?_
          refine y_iinc (L' := [some (2, 547), some (0, m), some (0, c), some (0, i), some (0, 3), some (0, 27), some (0, r.1), some (0, r.2), some (0, 21), some (0, 7), some (0, 21), some (0, 1), some (0, 3), some (0, 0), none]) rfl rfl rfl rfl rfl (by decide) ?_
          refine y_goto rfl ?_
          refine y_iload rfl rfl ?_
          refine y_iload rfl rfl ?_
          refine y_icge rfl (fun q111 => ?_) (fun q111 => ?_)
          · skip
            refine y_iload rfl rfl ?_
            refine y_push rfl ?_
            refine y_iload rfl rfl ?_
            refine y_ishl (v := 8) rfl rfl ?_
            refine y_push rfl ?_
            refine y_isub (v := 7) rfl rfl (by decide) ?_
            refine y_icne rfl (fun q182 => ?_) (fun q182 => ?_)
            · exfalso; omega
            · skip
              refine y_push rfl ?_
              refine y_goto rfl ?_
              refine y_istore (L' := [some (2, 547), some (0, m), some (0, c), some (0, i), some (0, 3), some (0, 27), some (0, r.1), some (0, r.2), some (0, 21), some (0, 7), some (0, 21), some (0, 1), some (0, 1), some (0, 0), none]) rfl rfl rfl rfl ?_
              have hv : s12 554 c = ((mem1 (Z 0) m.toNat (mem1 (Z 0) m.toNat (mem1 (Z 0) m.toNat (Z 1) 2) 1) 0) 0 c) := (r3.2.1 c (by omega) (by omega)).trans (yne (by omega) rfl).symm
              refine y_iload rfl rfl ?_
              refine y_ifeq rfl (fun q194 => ?_) (fun q194 => ?_)
              · exfalso; omega
              · skip
                refine y_aload rfl rfl rfl ?_
                refine y_gfr (t := 554) rfl rfl (by decide) rfl (by decide) ?_
                refine y_iload rfl rfl ?_
                refine y_iald (v := (s12 554 c)) (n := 9) rfl rfl (by decide) rfl (by omega) (yne (by omega) rfl) ?_
                refine y_iload rfl rfl ?_
                refine y_icle rfl (fun q205 => ?_) (fun q205 => ?_)
                · skip
                  refine y_iload rfl rfl ?_
                  refine y_istore (L' := [some (2, 547), some (0, m), some (0, c), some (0, i), some (0, 3), some (0, 27), some (0, r.1), some (0, r.2), some (0, 21), some (0, 7), some (0, 21), some (0, 1), some (0, 1), some (0, 0), none]) rfl rfl rfl rfl ?_
                  refine y_iload rfl rfl ?_
                  refine y_ifeq rfl (fun q219 => ?_) (fun q219 => ?_)
                  · exfalso; omega
                  · skip
                    refine y_aload rfl rfl rfl ?_
                    refine y_gfr (t := 554) rfl rfl (by decide) rfl (by decide) ?_
                    refine y_iload rfl rfl ?_
                    refine y_iald (v := (s12 554 c)) (n := 9) rfl rfl (by decide) rfl (by omega) (yne (by omega) rfl) ?_
                    refine y_iload rfl rfl ?_
                    refine y_icle rfl (fun q230 => ?_) (fun q230 => ?_)
                    · skip
                      refine y_iload rfl rfl ?_
                      refine y_istore (L' := [some (2, 547), some (0, m), some (0, c), some (0, i), some (0, 3), some (0, 27), some (0, r.1), some (0, r.2), some (0, 21), some (0, 7), some (0, 21), some (0, 1), some (0, 1), some (0, 0), none]) rfl rfl rfl rfl ?_
                      refine y_iinc (L' := [some (2, 547), some (0, m), some (0, c), some (0, i), some (0, 3), some (0, 27), some (0, r.1), some (0, r.2), some (0, 22), some (0, 7), some (0, 21), some (0, 1), some (0, 1), some (0, 0), none]) rfl rfl rfl rfl rfl (by decide) ?_
                      refine y_goto rfl ?_
                      refine y_forget (M := [some (2, 547), some (0, m), some (0, c), some (0, i), some (0, 3), some (0, 27), some (0, r.1), some (0, r.2), some (0, 22), none, none, none, none, none, none]) ⟨Or.inr rfl, ⟨Or.inr rfl, ⟨Or.inr rfl, ⟨Or.inr rfl, ⟨Or.inr rfl, ⟨Or.inr rfl, ⟨Or.inr rfl, ⟨Or.inr rfl, ⟨Or.inr rfl, ⟨Or.inl rfl, ⟨Or.inl rfl, ⟨Or.inl rfl, ⟨Or.inl rfl, ⟨Or.inl rfl, ⟨Or.inl rfl, trivial⟩⟩⟩⟩⟩⟩⟩⟩⟩⟩⟩⟩⟩⟩⟩ ?_
                      have e := hk _ (mfs_s (k := 558) (j := 0) (v := 1) f3 (by omega))
                      rw [show mbx r ((mem1 (Z 0) m.toNat (mem1 (Z 0) m.toNat (mem1 (Z 0) m.toNat (Z 1) 2) 1) 0) 0 c) 21 = r from if_neg (by first | omega | (rw [← hv]; omega))] at e
                      exact e
                    · exfalso; omega
                · skip
                  refine y_iload rfl rfl ?_
                  refine y_goto rfl ?_
                  refine y_istore (L' := [some (2, 547), some (0, m), some (0, c), some (0, i), some (0, 3), some (0, 27), some (0, r.1), some (0, 21), some (0, 21), some (0, 7), some (0, 21), some (0, 1), some (0, 1), some (0, 0), none]) rfl rfl rfl rfl ?_
                  refine y_iload rfl rfl ?_
                  refine y_ifeq rfl (fun q219 => ?_) (fun q219 => ?_)
                  · exfalso; omega
                  · skip
                    refine y_aload rfl rfl rfl ?_
                    refine y_gfr (t := 554) rfl rfl (by decide) rfl (by decide) ?_
                    refine y_iload rfl rfl ?_
                    refine y_iald (v := (s12 554 c)) (n := 9) rfl rfl (by decide) rfl (by omega) (yne (by omega) rfl) ?_
                    refine y_iload rfl rfl ?_
                    refine y_icle rfl (fun q230 => ?_) (fun q230 => ?_)
                    · exfalso; omega
                    · skip
                      refine y_aload rfl rfl rfl ?_
                      refine y_gfr (t := 554) rfl rfl (by decide) rfl (by decide) ?_
                      refine y_iload rfl rfl ?_
                      refine y_iald (v := (s12 554 c)) (n := 9) rfl rfl (by decide) rfl (by omega) (yne (by omega) rfl) ?_
                      refine y_goto rfl ?_
                      refine y_istore (L' := [some (2, 547), some (0, m), some (0, c), some (0, i), some (0, 3), some (0, 27), some (0, (s12 554 c)), some (0, 21), some (0, 21), some (0, 7), some (0, 21), some (0, 1), some (0, 1), some (0, 0), none]) rfl rfl rfl rfl ?_
                      refine y_iinc (L' := [some (2, 547), some (0, m), some (0, c), some (0, i), some (0, 3), some (0, 27), some (0, (s12 554 c)), some (0, 21), some (0, 22), some (0, 7), some (0, 21), some (0, 1), some (0, 1), some (0, 0), none]) rfl rfl rfl rfl rfl (by decide) ?_
                      refine y_goto rfl ?_
                      refine y_forget (M := [some (2, 547), some (0, m), some (0, c), some (0, i), some (0, 3), some (0, 27), some (0, (s12 554 c)), some (0, 21), some (0, 22), none, none, none, none, none, none]) ⟨Or.inr rfl, ⟨Or.inr rfl, ⟨Or.inr rfl, ⟨Or.inr rfl, ⟨Or.inr rfl, ⟨Or.inr rfl, ⟨Or.inr rfl, ⟨Or.inr rfl, ⟨Or.inr rfl, ⟨Or.inl rfl, ⟨Or.inl rfl, ⟨Or.inl rfl, ⟨Or.inl rfl, ⟨Or.inl rfl, ⟨Or.inl rfl, trivial⟩⟩⟩⟩⟩⟩⟩⟩⟩⟩⟩⟩⟩⟩⟩ ?_
                      have e := hk _ (mfs_s (k := 558) (j := 0) (v := 1) f3 (by omega))
                      rw [show mbx r ((mem1 (Z 0) m.toNat (mem1 (Z 0) m.toNat (mem1 (Z 0) m.toNat (Z 1) 2) 1) 0) 0 c) 21 = ((s12 554 c), 21) from (if_pos (by first | omega | (rw [← hv]; omega))).trans (by rw [hv])] at e
                      exact e
          · exfalso; omega
theorem lm_f3_22 {g : Launch × XG × va_G} {σ : YS} {τ : YS} {Z : YZ} {I : Int → YZ} {M : YS} {N : Int} {m c i : Int} {r : Int × Int} {P0 : Int → YS → Prop}  (hx : mW σ Z I M) (hg : wG Z I M N) (hN : N < 100000) (hm : (0 ≤ m ∧ m ≤ 60) ∧ (0 ≤ c ∧ c < Z 0 0 0) ∧ -1 ≤ i) (hw : Z 0 1 0 = 3) (h1 : mfs σ τ) (hk : ∀ s, mfs σ s → YW g 93 82 [some (2, 547), some (0, m), some (0, c), some (0, i), some (0, 3), some (0, 27), some (0, r.1), some (0, r.2), some (0, 23), none, none, none, none, none, none] [] s (fun rv σ' => ∃ b, rv = some (0, b) ∧ (P0 b σ'))) : YW g 93 82 [some (2, 547), some (0, m), some (0, c), some (0, i), some (0, 3), some (0, 27), some (0, r.1), some (0, r.2), some (0, 22), none, none, none, none, none, none] [] τ (fun rv σ' => ∃ b, rv = some (0, b) ∧ (P0 b σ')) := by
  have e1 := hg.1.1.1
  have hn5 := hg.1.2.2.1
  refine y_iload rfl rfl ?_
  refine y_iload rfl rfl ?_
  refine y_icge rfl (fun q86 => ?_) (fun q86 => ?_)
  · exfalso; omega
  · skip
    refine y_aload rfl rfl rfl ?_
    refine y_vu (as := [(2, 547)]) (S := []) rfl rfl rfl rfl rfl rfl (by decide) rfl (m_layNow (mzs_cong hg.1.1 hx.1.1 (fun y a b => h1 548 y (by omega))) hg.1.1 hg.1.2.1 hg.1.2.2.2.2.1.1) ?_
    rintro s1 ⟨l1, l2⟩
    refine y_push rfl ?_
    refine y_istore (L' := [some (2, 547), some (0, m), some (0, c), some (0, i), some (0, 3), some (0, 27), some (0, r.1), some (0, r.2), some (0, 22), some (0, 0), none, none, none, none, none]) rfl rfl rfl rfl ?_
    refine y_iload rfl rfl ?_
    refine y_istore (L' := [some (2, 547), some (0, m), some (0, c), some (0, i), some (0, 3), some (0, 27), some (0, r.1), some (0, r.2), some (0, 22), some (0, 0), some (0, 22), none, none, none, none]) rfl rfl rfl rfl ?_
    refine y_iload rfl rfl ?_
    refine y_istore (L' := [some (2, 547), some (0, m), some (0, c), some (0, i), some (0, 3), some (0, 27), some (0, r.1), some (0, r.2), some (0, 22), some (0, 0), some (0, 22), some (0, 27), none, none, none]) rfl rfl rfl rfl ?_
    refine y_push rfl ?_
    refine y_istore (L' := [some (2, 547), some (0, m), some (0, c), some (0, i), some (0, 3), some (0, 27), some (0, r.1), some (0, r.2), some (0, 22), some (0, 0), some (0, 22), some (0, 27), some (0, 0), none, none]) rfl rfl rfl rfl ?_
    refine y_iload rfl rfl ?_
    refine y_iload rfl rfl ?_
    refine y_icge rfl (fun q111 => ?_) (fun q111 => ?_)
    · exfalso; omega
    · skip
      refine y_iload rfl rfl ?_
      refine y_iload rfl rfl ?_
      refine y_idiv (v := 9) rfl rfl (by omega) ?_
      refine y_istore (L' := [some (2, 547), some (0, m), some (0, c), some (0, i), some (0, 3), some (0, 27), some (0, r.1), some (0, r.2), some (0, 22), some (0, 0), some (0, 22), some (0, 9), some (0, 0), none, none]) rfl rfl rfl rfl ?_
      refine y_iload rfl rfl ?_
      refine y_iload rfl rfl ?_
      refine y_idiv (v := 2) rfl rfl (by omega) ?_
      refine y_iload rfl rfl ?_
      refine y_irem (v := 2) rfl rfl (by omega) ?_
      refine y_istore (L' := [some (2, 547), some (0, m), some (0, c), some (0, i), some (0, 3), some (0, 27), some (0, r.1), some (0, r.2), some (0, 22), some (0, 0), some (0, 22), some (0, 9), some (0, 0), some (0, 2), none]) rfl rfl rfl rfl ?_
      refine y_iload rfl rfl ?_
      refine y_push rfl ?_
      refine y_iload rfl rfl ?_
      refine y_ishl (v := 4) rfl rfl ?_
      refine y_ior (v := 4) rfl rfl ?_
      refine y_istore (L' := [some (2, 547), some (0, m), some (0, c), some (0, i), some (0, 3), some (0, 27), some (0, r.1), some (0, r.2), some (0, 22), some (0, 4), some (0, 22), some (0, 9), some (0, 0), some (0, 2), none]) rfl rfl rfl rfl ?_
      refine y_push rfl ?_
      refine y_istore (L' := [some (2, 547), some (0, m), some (0, c), some (0, i), some (0, 3), some (0, 27), some (0, r.1), some (0, r.2), some (0, 22), some (0, 4), some (0, 22), some (0, 9), some (0, 0), some (0, 2), some (0, 0)]) rfl rfl rfl rfl ?_
      refine lm_fT (C := (Z 1)) hx hg hN hm hg.1.2.1 (by omega) (fun s10 f1 r1 => ?_) 62 s1 0 (by omega) (by omega) (mfs_t h1 l2) l1
      refine y_aload rfl rfl rfl ?_
      refine y_gfr (t := 558) rfl rfl (by decide) rfl (by decide) ?_
      refine y_iload rfl rfl ?_
      refine y_push rfl ?_
      refine y_iast (n := 3) rfl rfl (by decide) rfl (by decide) ?_
      refine y_iinc (L' := [some (2, 547), some (0, m), some (0, c), some (0, i), some (0, 3), some (0, 27), some (0, r.1), some (0, r.2), some (0, 22), some (0, 4), some (0, 22), some (0, 9), some (0, 1), some (0, 2), none]) rfl rfl rfl rfl rfl (by decide) ?_
      refine y_goto rfl ?_
      refine y_iload rfl rfl ?_
      refine y_iload rfl rfl ?_
      refine y_icge rfl (fun q111 => ?_) (fun q111 => ?_)
      · exfalso; omega
      · skip
        refine y_iload rfl rfl ?_
        refine y_iload rfl rfl ?_
        refine y_idiv (v := 3) rfl rfl (by omega) ?_
        refine y_istore (L' := [some (2, 547), some (0, m), some (0, c), some (0, i), some (0, 3), some (0, 27), some (0, r.1), some (0, r.2), some (0, 22), some (0, 4), some (0, 22), some (0, 3), some (0, 1), some (0, 2), none]) rfl rfl rfl rfl ?_
        refine y_iload rfl rfl ?_
        refine y_iload rfl rfl ?_
        refine y_idiv (v := 7) rfl rfl (by omega) ?_
        refine y_iload rfl rfl ?_
        refine y_irem (v := 1) rfl rfl (by omega) ?_
        refine y_istore (L' := [some (2, 547), some (0, m), some (0, c), some (0, i), some (0, 3), some (0, 27), some (0, r.1), some (0, r.2), some (0, 22), some (0, 4), some (0, 22), some (0, 3), some (0, 1), some (0, 1), none]) rfl rfl rfl rfl ?_
        refine y_iload rfl rfl ?_
        refine y_push rfl ?_
        refine y_iload rfl rfl ?_
        refine y_ishl (v := 2) rfl rfl ?_
        refine y_ior (v := 6) rfl rfl ?_
        refine y_istore (L' := [some (2, 547), some (0, m), some (0, c), some (0, i), some (0, 3), some (0, 27), some (0, r.1), some (0, r.2), some (0, 22), some (0, 6), some (0, 22), some (0, 3), some (0, 1), some (0, 1), none]) rfl rfl rfl rfl ?_
        refine y_push rfl ?_
        refine y_istore (L' := [some (2, 547), some (0, m), some (0, c), some (0, i), some (0, 3), some (0, 27), some (0, r.1), some (0, r.2), some (0, 22), some (0, 6), some (0, 22), some (0, 3), some (0, 1), some (0, 1), some (0, 0)]) rfl rfl rfl rfl ?_
        have d1 : dG (Z 0) (mem1 (Z 0) m.toNat (Z 1) 2) := dG_mem1 hg.1.1 hg.1.2.1 (by omega)
        have v1 : (mem1 (Z 0) m.toNat (Z 1) 2) 5 0 = (Z 1) 5 0 + m.toNat := mem1_5
        refine lm_fT (C := (mem1 (Z 0) m.toNat (Z 1) 2)) hx hg hN hm d1 (by omega) (fun s11 f2 r2 => ?_) 62 (yset s10 558 2 1) 0 (by omega) (by omega) (mfs_s (k := 558) (j := 2) (v := 1) f1 (by omega)) (rm_m r1 (by omega) (by omega))
        refine y_aload rfl rfl rfl ?_
        refine y_gfr (t := 558) rfl rfl (by decide) rfl (by decide) ?_
        refine y_iload rfl rfl ?_
        refine y_push rfl ?_
        refine y_iast (n := 3) rfl rfl (by decide) rfl (by decide) ?_
        refine y_iinc (L' := [some (2, 547), some (0, m), some (0, c), some (0, i), some (0, 3), some (0, 27), some (0, r.1), some (0, r.2), some (0, 22), some (0, 6), some (0, 22), some (0, 3), some (0, 2), some (0, 1), none]) rfl rfl rfl rfl rfl (by decide) ?_
        refine y_goto rfl ?_
        refine y_iload rfl rfl ?_
        refine y_iload rfl rfl ?_
        refine y_icge rfl (fun q111 => ?_) (fun q111 => ?_)
        · exfalso; omega
        · skip
          refine y_iload rfl rfl ?_
          refine y_iload rfl rfl ?_
          refine y_idiv (v := 1) rfl rfl (by omega) ?_
          refine y_istore (L' := [some (2, 547), some (0, m), some (0, c), some (0, i), some (0, 3), some (0, 27), some (0, r.1), some (0, r.2), some (0, 22), some (0, 6), some (0, 22), some (0, 1), some (0, 2), some (0, 1), none]) rfl rfl rfl rfl ?_
          refine y_iload rfl rfl ?_
          refine y_iload rfl rfl ?_
          refine y_idiv (v := 22) rfl rfl (by omega) ?_
          refine y_iload rfl rfl ?_
          refine y_irem (v := 1) rfl rfl (by omega) ?_
          refine y_istore (L' := [some (2, 547), some (0, m), some (0, c), some (0, i), some (0, 3), some (0, 27), some (0, r.1), some (0, r.2), some (0, 22), some (0, 6), some (0, 22), some (0, 1), some (0, 2), some (0, 1), none]) rfl rfl rfl rfl ?_
          refine y_iload rfl rfl ?_
          refine y_push rfl ?_
          refine y_iload rfl rfl ?_
          refine y_ishl (v := 2) rfl rfl ?_
          refine y_ior (v := 6) rfl rfl ?_
          refine y_istore (L' := [some (2, 547), some (0, m), some (0, c), some (0, i), some (0, 3), some (0, 27), some (0, r.1), some (0, r.2), some (0, 22), some (0, 6), some (0, 22), some (0, 1), some (0, 2), some (0, 1), none]) rfl rfl rfl rfl ?_
          refine y_push rfl ?_
          refine y_istore (L' := [some (2, 547), some (0, m), some (0, c), some (0, i), some (0, 3), some (0, 27), some (0, r.1), some (0, r.2), some (0, 22), some (0, 6), some (0, 22), some (0, 1), some (0, 2), some (0, 1), some (0, 0)]) rfl rfl rfl rfl ?_
          have d2 : dG (Z 0) (mem1 (Z 0) m.toNat (mem1 (Z 0) m.toNat (Z 1) 2) 1) := dG_mem1 hg.1.1 d1 (by omega)
          have v2 : (mem1 (Z 0) m.toNat (mem1 (Z 0) m.toNat (Z 1) 2) 1) 5 0 = (mem1 (Z 0) m.toNat (Z 1) 2) 5 0 + m.toNat := mem1_5
          refine lm_fT (C := (mem1 (Z 0) m.toNat (mem1 (Z 0) m.toNat (Z 1) 2) 1)) hx hg hN hm d2 (by omega) (fun s12 f3 r3 => ?_) 62 (yset s11 558 1 1) 0 (by omega) (by omega) (mfs_s (k := 558) (j := 1) (v := 1) f2 (by omega)) (rm_m r2 (by omega) (by omega))
          refine y_aload rfl rfl rfl ?_
          refine y_gfr (t := 558) rfl rfl (by decide) rfl (by decide) ?_
          refine y_iload rfl rfl ?_
          refine y_push rfl ?_
          refine y_iast (n := 3) rfl rfl (by decide) rfl (by decide) ?_
          refine y_iinc (L' := [some (2, 547), some (0, m), some (0, c), some (0, i), some (0, 3), some (0, 27), some (0, r.1), some (0, r.2), some (0, 22), some (0, 6), some (0, 22), some (0, 1), some (0, 3), some (0, 1), none]) rfl rfl rfl rfl rfl (by decide) ?_
          refine y_goto rfl ?_
          refine y_iload rfl rfl ?_
          refine y_iload rfl rfl ?_
          refine y_icge rfl (fun q111 => ?_) (fun q111 => ?_)
          · skip
            refine y_iload rfl rfl ?_
            refine y_push rfl ?_
            refine y_iload rfl rfl ?_
            refine y_ishl (v := 8) rfl rfl ?_
            refine y_push rfl ?_
            refine y_isub (v := 7) rfl rfl (by decide) ?_
            refine y_icne rfl (fun q182 => ?_) (fun q182 => ?_)
            · skip
              refine y_push rfl ?_
              refine y_istore (L' := [some (2, 547), some (0, m), some (0, c), some (0, i), some (0, 3), some (0, 27), some (0, r.1), some (0, r.2), some (0, 22), some (0, 6), some (0, 22), some (0, 1), some (0, 0), some (0, 1), none]) rfl rfl rfl rfl ?_
              refine y_iload rfl rfl ?_
              refine y_ifeq rfl (fun q194 => ?_) (fun q194 => ?_)
              · skip
                refine y_iload rfl rfl ?_
                refine y_istore (L' := [some (2, 547), some (0, m), some (0, c), some (0, i), some (0, 3), some (0, 27), some (0, r.1), some (0, r.2), some (0, 22), some (0, 6), some (0, 22), some (0, 1), some (0, 0), some (0, 1), none]) rfl rfl rfl rfl ?_
                refine y_iload rfl rfl ?_
                refine y_ifeq rfl (fun q219 => ?_) (fun q219 => ?_)
                · skip
                  refine y_iload rfl rfl ?_
                  refine y_istore (L' := [some (2, 547), some (0, m), some (0, c), some (0, i), some (0, 3), some (0, 27), some (0, r.1), some (0, r.2), some (0, 22), some (0, 6), some (0, 22), some (0, 1), some (0, 0), some (0, 1), none]) rfl rfl rfl rfl ?_
                  refine y_iinc (L' := [some (2, 547), some (0, m), some (0, c), some (0, i), some (0, 3), some (0, 27), some (0, r.1), some (0, r.2), some (0, 23), some (0, 6), some (0, 22), some (0, 1), some (0, 0), some (0, 1), none]) rfl rfl rfl rfl rfl (by decide) ?_
                  refine y_goto rfl ?_
                  refine y_forget (M := [some (2, 547), some (0, m), some (0, c), some (0, i), some (0, 3), some (0, 27), some (0, r.1), some (0, r.2), some (0, 23), none, none, none, none, none, none]) ⟨Or.inr rfl, ⟨Or.inr rfl, ⟨Or.inr rfl, ⟨Or.inr rfl, ⟨Or.inr rfl, ⟨Or.inr rfl, ⟨Or.inr rfl, ⟨Or.inr rfl, ⟨Or.inr rfl, ⟨Or.inl rfl, ⟨Or.inl rfl, ⟨Or.inl rfl, ⟨Or.inl rfl, ⟨Or.inl rfl, ⟨Or.inl rfl, trivial⟩⟩⟩⟩⟩⟩⟩⟩⟩⟩⟩⟩⟩⟩⟩ ?_
                  exact hk _ (mfs_s (k := 558) (j := 1) (v := 1) f3 (by omega))
                · exfalso; omega
              · exfalso; omega
            · exfalso; omega
          · exfalso; omega
theorem lm_f3_23 {g : Launch × XG × va_G} {σ : YS} {τ : YS} {Z : YZ} {I : Int → YZ} {M : YS} {N : Int} {m c i : Int} {r : Int × Int} {P0 : Int → YS → Prop}  (hx : mW σ Z I M) (hg : wG Z I M N) (hN : N < 100000) (hm : (0 ≤ m ∧ m ≤ 60) ∧ (0 ≤ c ∧ c < Z 0 0 0) ∧ -1 ≤ i) (hw : Z 0 1 0 = 3) (h1 : mfs σ τ) (hk : ∀ s, mfs σ s → YW g 93 82 [some (2, 547), some (0, m), some (0, c), some (0, i), some (0, 3), some (0, 27), some (0, r.1), some (0, r.2), some (0, 24), none, none, none, none, none, none] [] s (fun rv σ' => ∃ b, rv = some (0, b) ∧ (P0 b σ'))) : YW g 93 82 [some (2, 547), some (0, m), some (0, c), some (0, i), some (0, 3), some (0, 27), some (0, r.1), some (0, r.2), some (0, 23), none, none, none, none, none, none] [] τ (fun rv σ' => ∃ b, rv = some (0, b) ∧ (P0 b σ')) := by
  have e1 := hg.1.1.1
  have hn5 := hg.1.2.2.1
  refine y_iload rfl rfl ?_
  refine y_iload rfl rfl ?_
  refine y_icge rfl (fun q86 => ?_) (fun q86 => ?_)
  · exfalso; omega
  · skip
    refine y_aload rfl rfl rfl ?_
    refine y_vu (as := [(2, 547)]) (S := []) rfl rfl rfl rfl rfl rfl (by decide) rfl (m_layNow (mzs_cong hg.1.1 hx.1.1 (fun y a b => h1 548 y (by omega))) hg.1.1 hg.1.2.1 hg.1.2.2.2.2.1.1) ?_
    rintro s1 ⟨l1, l2⟩
    refine y_push rfl ?_
    refine y_istore (L' := [some (2, 547), some (0, m), some (0, c), some (0, i), some (0, 3), some (0, 27), some (0, r.1), some (0, r.2), some (0, 23), some (0, 0), none, none, none, none, none]) rfl rfl rfl rfl ?_
    refine y_iload rfl rfl ?_
    refine y_istore (L' := [some (2, 547), some (0, m), some (0, c), some (0, i), some (0, 3), some (0, 27), some (0, r.1), some (0, r.2), some (0, 23), some (0, 0), some (0, 23), none, none, none, none]) rfl rfl rfl rfl ?_
    refine y_iload rfl rfl ?_
    refine y_istore (L' := [some (2, 547), some (0, m), some (0, c), some (0, i), some (0, 3), some (0, 27), some (0, r.1), some (0, r.2), some (0, 23), some (0, 0), some (0, 23), some (0, 27), none, none, none]) rfl rfl rfl rfl ?_
    refine y_push rfl ?_
    refine y_istore (L' := [some (2, 547), some (0, m), some (0, c), some (0, i), some (0, 3), some (0, 27), some (0, r.1), some (0, r.2), some (0, 23), some (0, 0), some (0, 23), some (0, 27), some (0, 0), none, none]) rfl rfl rfl rfl ?_
    refine y_iload rfl rfl ?_
    refine y_iload rfl rfl ?_
    refine y_icge rfl (fun q111 => ?_) (fun q111 => ?_)
    · exfalso; omega
    · skip
      refine y_iload rfl rfl ?_
      refine y_iload rfl rfl ?_
      refine y_idiv (v := 9) rfl rfl (by omega) ?_
      refine y_istore (L' := [some (2, 547), some (0, m), some (0, c), some (0, i), some (0, 3), some (0, 27), some (0, r.1), some (0, r.2), some (0, 23), some (0, 0), some (0, 23), some (0, 9), some (0, 0), none, none]) rfl rfl rfl rfl ?_
      refine y_iload rfl rfl ?_
      refine y_iload rfl rfl ?_
      refine y_idiv (v := 2) rfl rfl (by omega) ?_
      refine y_iload rfl rfl ?_
      refine y_irem (v := 2) rfl rfl (by omega) ?_
      refine y_istore (L' := [some (2, 547), some (0, m), some (0, c), some (0, i), some (0, 3), some (0, 27), some (0, r.1), some (0, r.2), some (0, 23), some (0, 0), some (0, 23), some (0, 9), some (0, 0), some (0, 2), none]) rfl rfl rfl rfl ?_
      refine y_iload rfl rfl ?_
      refine y_push rfl ?_
      refine y_iload rfl rfl ?_
      refine y_ishl (v := 4) rfl rfl ?_
      refine y_ior (v := 4) rfl rfl ?_
      refine y_istore (L' := [some (2, 547), some (0, m), some (0, c), some (0, i), some (0, 3), some (0, 27), some (0, r.1), some (0, r.2), some (0, 23), some (0, 4), some (0, 23), some (0, 9), some (0, 0), some (0, 2), none]) rfl rfl rfl rfl ?_
      refine y_push rfl ?_
      refine y_istore (L' := [some (2, 547), some (0, m), some (0, c), some (0, i), some (0, 3), some (0, 27), some (0, r.1), some (0, r.2), some (0, 23), some (0, 4), some (0, 23), some (0, 9), some (0, 0), some (0, 2), some (0, 0)]) rfl rfl rfl rfl ?_
      refine lm_fT (C := (Z 1)) hx hg hN hm hg.1.2.1 (by omega) (fun s10 f1 r1 => ?_) 62 s1 0 (by omega) (by omega) (mfs_t h1 l2) l1
      refine y_aload rfl rfl rfl ?_
      refine y_gfr (t := 558) rfl rfl (by decide) rfl (by decide) ?_
      refine y_iload rfl rfl ?_
      refine y_push rfl ?_
      refine y_iast (n := 3) rfl rfl (by decide) rfl (by decide) ?_
      refine y_iinc (L' := [some (2, 547), some (0, m), some (0, c), some (0, i), some (0, 3), some (0, 27), some (0, r.1), some (0, r.2), some (0, 23), some (0, 4), some (0, 23), some (0, 9), some (0, 1), some (0, 2), none]) rfl rfl rfl rfl rfl (by decide) ?_
      refine y_goto rfl ?_
      refine y_iload rfl rfl ?_
      refine y_iload rfl rfl ?_
      refine y_icge rfl (fun q111 => ?_) (fun q111 => ?_)
      · exfalso; omega
      · skip
        refine y_iload rfl rfl ?_
        refine y_iload rfl rfl ?_
        refine y_idiv (v := 3) rfl rfl (by omega) ?_
        refine y_istore (L' := [some (2, 547), some (0, m), some (0, c), some (0, i), some (0, 3), some (0, 27), some (0, r.1), some (0, r.2), some (0, 23), some (0, 4), some (0, 23), some (0, 3), some (0, 1), some (0, 2), none]) rfl rfl rfl rfl ?_
        refine y_iload rfl rfl ?_
        refine y_iload rfl rfl ?_
        refine y_idiv (v := 7) rfl rfl (by omega) ?_
        refine y_iload rfl rfl ?_
        refine y_irem (v := 1) rfl rfl (by omega) ?_
        refine y_istore (L' := [some (2, 547), some (0, m), some (0, c), some (0, i), some (0, 3), some (0, 27), some (0, r.1), some (0, r.2), some (0, 23), some (0, 4), some (0, 23), some (0, 3), some (0, 1), some (0, 1), none]) rfl rfl rfl rfl ?_
        refine y_iload rfl rfl ?_
        refine y_push rfl ?_
        refine y_iload rfl rfl ?_
        refine y_ishl (v := 2) rfl rfl ?_
        refine y_ior (v := 6) rfl rfl ?_
        refine y_istore (L' := [some (2, 547), some (0, m), some (0, c), some (0, i), some (0, 3), some (0, 27), some (0, r.1), some (0, r.2), some (0, 23), some (0, 6), some (0, 23), some (0, 3), some (0, 1), some (0, 1), none]) rfl rfl rfl rfl ?_
        refine y_push rfl ?_
        refine y_istore (L' := [some (2, 547), some (0, m), some (0, c), some (0, i), some (0, 3), some (0, 27), some (0, r.1), some (0, r.2), some (0, 23), some (0, 6), some (0, 23), some (0, 3), some (0, 1), some (0, 1), some (0, 0)]) rfl rfl rfl rfl ?_
        have d1 : dG (Z 0) (mem1 (Z 0) m.toNat (Z 1) 2) := dG_mem1 hg.1.1 hg.1.2.1 (by omega)
        have v1 : (mem1 (Z 0) m.toNat (Z 1) 2) 5 0 = (Z 1) 5 0 + m.toNat := mem1_5
        refine lm_fT (C := (mem1 (Z 0) m.toNat (Z 1) 2)) hx hg hN hm d1 (by omega) (fun s11 f2 r2 => ?_) 62 (yset s10 558 2 1) 0 (by omega) (by omega) (mfs_s (k := 558) (j := 2) (v := 1) f1 (by omega)) (rm_m r1 (by omega) (by omega))
        refine y_aload rfl rfl rfl ?_
        refine y_gfr (t := 558) rfl rfl (by decide) rfl (by decide) ?_
        refine y_iload rfl rfl ?_
        refine y_push rfl ?_
        refine y_iast (n := 3) rfl rfl (by decide) rfl (by decide) ?_
        refine y_iinc (L' := [some (2, 547), some (0, m), some (0, c), some (0, i), some (0, 3), some (0, 27), some (0, r.1), some (0, r.2), some (0, 23), some (0, 6), some (0, 23), some (0, 3), some (0, 2), some (0, 1), none]) rfl rfl rfl rfl rfl (by decide) ?_
        refine y_goto rfl ?_
        refine y_iload rfl rfl ?_
        refine y_iload rfl rfl ?_
        refine y_icge rfl (fun q111 => ?_) (fun q111 => ?_)
        · exfalso; omega
        · skip
          refine y_iload rfl rfl ?_
          refine y_iload rfl rfl ?_
          refine y_idiv (v := 1) rfl rfl (by omega) ?_
          refine y_istore (L' := [some (2, 547), some (0, m), some (0, c), some (0, i), some (0, 3), some (0, 27), some (0, r.1), some (0, r.2), some (0, 23), some (0, 6), some (0, 23), some (0, 1), some (0, 2), some (0, 1), none]) rfl rfl rfl rfl ?_
          refine y_iload rfl rfl ?_
          refine y_iload rfl rfl ?_
          refine y_idiv (v := 23) rfl rfl (by omega) ?_
          refine y_iload rfl rfl ?_
          refine y_irem (v := 2) rfl rfl (by omega) ?_
          refine y_istore (L' := [some (2, 547), some (0, m), some (0, c), some (0, i), some (0, 3), some (0, 27), some (0, r.1), some (0, r.2), some (0, 23), some (0, 6), some (0, 23), some (0, 1), some (0, 2), some (0, 2), none]) rfl rfl rfl rfl ?_
          refine y_iload rfl rfl ?_
          refine y_push rfl ?_
          refine y_iload rfl rfl ?_
          refine y_ishl (v := 4) rfl rfl ?_
          refine y_ior (v := 6) rfl rfl ?_
          refine y_istore (L' := [some (2, 547), some (0, m), some (0, c), some (0, i), some (0, 3), some (0, 27), some (0, r.1), some (0, r.2), some (0, 23), some (0, 6), some (0, 23), some (0, 1), some (0, 2), some (0, 2), none]) rfl rfl rfl rfl ?_
          refine y_push rfl ?_
          refine y_istore (L' := [some (2, 547), some (0, m), some (0, c), some (0, i), some (0, 3), some (0, 27), some (0, r.1), some (0, r.2), some (0, 23), some (0, 6), some (0, 23), some (0, 1), some (0, 2), some (0, 2), some (0, 0)]) rfl rfl rfl rfl ?_
          have d2 : dG (Z 0) (mem1 (Z 0) m.toNat (mem1 (Z 0) m.toNat (Z 1) 2) 1) := dG_mem1 hg.1.1 d1 (by omega)
          have v2 : (mem1 (Z 0) m.toNat (mem1 (Z 0) m.toNat (Z 1) 2) 1) 5 0 = (mem1 (Z 0) m.toNat (Z 1) 2) 5 0 + m.toNat := mem1_5
          refine lm_fT (C := (mem1 (Z 0) m.toNat (mem1 (Z 0) m.toNat (Z 1) 2) 1)) hx hg hN hm d2 (by omega) (fun s12 f3 r3 => ?_) 62 (yset s11 558 1 1) 0 (by omega) (by omega) (mfs_s (k := 558) (j := 1) (v := 1) f2 (by omega)) (rm_m r2 (by omega) (by omega))
          refine y_aload rfl rfl rfl ?_
          refine y_gfr (t := 558) rfl rfl (by decide) rfl (by decide) ?_
          refine y_iload rfl rfl ?_
          refine y_push rfl ?_
          refine y_iast (n := 3) rfl rfl (by decide) rfl (by decide) ?_
          refine y_iinc (L' := [some (2, 547), some (0, m), some (0, c), some (0, i), some (0, 3), some (0, 27), some (0, r.1), some (0, r.2), some (0, 23), some (0, 6), some (0, 23), some (0, 1), some (0, 3), some (0, 2), none]) rfl rfl rfl rfl rfl (by decide) ?_
          refine y_goto rfl ?_
          refine y_iload rfl rfl ?_
          refine y_iload rfl rfl ?_
          refine y_icge rfl (fun q111 => ?_) (fun q111 => ?_)
          · skip
            refine y_iload rfl rfl ?_
            refine y_push rfl ?_
            refine y_iload rfl rfl ?_
            refine y_ishl (v := 8) rfl rfl ?_
            refine y_push rfl ?_
            refine y_isub (v := 7) rfl rfl (by decide) ?_
            refine y_icne rfl (fun q182 => ?_) (fun q182 => ?_)
            · skip
              refine y_push rfl ?_
              refine y_istore (L' := [some (2, 547), some (0, m), some (0, c), some (0, i), some (0, 3), some (0, 27), some (0, r.1), some (0, r.2), some (0, 23), some (0, 6), some (0, 23), some (0, 1), some (0, 0), some (0, 2), none]) rfl rfl rfl rfl ?_
              refine y_iload rfl rfl ?_
              refine y_ifeq rfl (fun q194 => ?_) (fun q194 => ?_)
              · skip
                refine y_iload rfl rfl ?_
                refine y_istore (L' := [some (2, 547), some (0, m), some (0, c), some (0, i), some (0, 3), some (0, 27), some (0, r.1), some (0, r.2), some (0, 23), some (0, 6), some (0, 23), some (0, 1), some (0, 0), some (0, 2), none]) rfl rfl rfl rfl ?_
                refine y_iload rfl rfl ?_
                refine y_ifeq rfl (fun q219 => ?_) (fun q219 => ?_)
                · skip
                  refine y_iload rfl rfl ?_
                  refine y_istore (L' := [some (2, 547), some (0, m), some (0, c), some (0, i), some (0, 3), some (0, 27), some (0, r.1), some (0, r.2), some (0, 23), some (0, 6), some (0, 23), some (0, 1), some (0, 0), some (0, 2), none]) rfl rfl rfl rfl ?_
                  refine y_iinc (L' := [some (2, 547), some (0, m), some (0, c), some (0, i), some (0, 3), some (0, 27), some (0, r.1), some (0, r.2), some (0, 24), some (0, 6), some (0, 23), some (0, 1), some (0, 0), some (0, 2), none]) rfl rfl rfl rfl rfl (by decide) ?_
                  refine y_goto rfl ?_
                  refine y_forget (M := [some (2, 547), some (0, m), some (0, c), some (0, i), some (0, 3), some (0, 27), some (0, r.1), some (0, r.2), some (0, 24), none, none, none, none, none, none]) ⟨Or.inr rfl, ⟨Or.inr rfl, ⟨Or.inr rfl, ⟨Or.inr rfl, ⟨Or.inr rfl, ⟨Or.inr rfl, ⟨Or.inr rfl, ⟨Or.inr rfl, ⟨Or.inr rfl, ⟨Or.inl rfl, ⟨Or.inl rfl, ⟨Or.inl rfl, ⟨Or.inl rfl, ⟨Or.inl rfl, ⟨Or.inl rfl, trivial⟩⟩⟩⟩⟩⟩⟩⟩⟩⟩⟩⟩⟩⟩⟩ ?_
                  exact hk _ (mfs_s (k := 558) (j := 2) (v := 1) f3 (by omega))
                · exfalso; omega
              · exfalso; omega
            · exfalso; omega
          · exfalso; omega
theorem lm_f3_24 {g : Launch × XG × va_G} {σ : YS} {τ : YS} {Z : YZ} {I : Int → YZ} {M : YS} {N : Int} {m c i : Int} {r : Int × Int} {P0 : Int → YS → Prop}  (hx : mW σ Z I M) (hg : wG Z I M N) (hN : N < 100000) (hm : (0 ≤ m ∧ m ≤ 60) ∧ (0 ≤ c ∧ c < Z 0 0 0) ∧ -1 ≤ i) (hw : Z 0 1 0 = 3) (h1 : mfs σ τ) (hk : ∀ s, mfs σ s → YW g 93 82 [some (2, 547), some (0, m), some (0, c), some (0, i), some (0, 3), some (0, 27), some (0, r.1), some (0, r.2), some (0, 25), none, none, none, none, none, none] [] s (fun rv σ' => ∃ b, rv = some (0, b) ∧ (P0 b σ'))) : YW g 93 82 [some (2, 547), some (0, m), some (0, c), some (0, i), some (0, 3), some (0, 27), some (0, r.1), some (0, r.2), some (0, 24), none, none, none, none, none, none] [] τ (fun rv σ' => ∃ b, rv = some (0, b) ∧ (P0 b σ')) := by
  have e1 := hg.1.1.1
  have hn5 := hg.1.2.2.1
  refine y_iload rfl rfl ?_
  refine y_iload rfl rfl ?_
  refine y_icge rfl (fun q86 => ?_) (fun q86 => ?_)
  · exfalso; omega
  · skip
    refine y_aload rfl rfl rfl ?_
    refine y_vu (as := [(2, 547)]) (S := []) rfl rfl rfl rfl rfl rfl (by decide) rfl (m_layNow (mzs_cong hg.1.1 hx.1.1 (fun y a b => h1 548 y (by omega))) hg.1.1 hg.1.2.1 hg.1.2.2.2.2.1.1) ?_
    rintro s1 ⟨l1, l2⟩
    refine y_push rfl ?_
    refine y_istore (L' := [some (2, 547), some (0, m), some (0, c), some (0, i), some (0, 3), some (0, 27), some (0, r.1), some (0, r.2), some (0, 24), some (0, 0), none, none, none, none, none]) rfl rfl rfl rfl ?_
    refine y_iload rfl rfl ?_
    refine y_istore (L' := [some (2, 547), some (0, m), some (0, c), some (0, i), some (0, 3), some (0, 27), some (0, r.1), some (0, r.2), some (0, 24), some (0, 0), some (0, 24), none, none, none, none]) rfl rfl rfl rfl ?_
    refine y_iload rfl rfl ?_
    refine y_istore (L' := [some (2, 547), some (0, m), some (0, c), some (0, i), some (0, 3), some (0, 27), some (0, r.1), some (0, r.2), some (0, 24), some (0, 0), some (0, 24), some (0, 27), none, none, none]) rfl rfl rfl rfl ?_
    refine y_push rfl ?_
    refine y_istore (L' := [some (2, 547), some (0, m), some (0, c), some (0, i), some (0, 3), some (0, 27), some (0, r.1), some (0, r.2), some (0, 24), some (0, 0), some (0, 24), some (0, 27), some (0, 0), none, none]) rfl rfl rfl rfl ?_
    refine y_iload rfl rfl ?_
    refine y_iload rfl rfl ?_
    refine y_icge rfl (fun q111 => ?_) (fun q111 => ?_)
    · exfalso; omega
    · skip
      refine y_iload rfl rfl ?_
      refine y_iload rfl rfl ?_
      refine y_idiv (v := 9) rfl rfl (by omega) ?_
      refine y_istore (L' := [some (2, 547), some (0, m), some (0, c), some (0, i), some (0, 3), some (0, 27), some (0, r.1), some (0, r.2), some (0, 24), some (0, 0), some (0, 24), some (0, 9), some (0, 0), none, none]) rfl rfl rfl rfl ?_
      refine y_iload rfl rfl ?_
      refine y_iload rfl rfl ?_
      refine y_idiv (v := 2) rfl rfl (by omega) ?_
      refine y_iload rfl rfl ?_
      refine y_irem (v := 2) rfl rfl (by omega) ?_
      refine y_istore (L' := [some (2, 547), some (0, m), some (0, c), some (0, i), some (0, 3), some (0, 27), some (0, r.1), some (0, r.2), some (0, 24), some (0, 0), some (0, 24), some (0, 9), some (0, 0), some (0, 2), none]) rfl rfl rfl rfl ?_
      refine y_iload rfl rfl ?_
      refine y_push rfl ?_
      refine y_iload rfl rfl ?_
      refine y_ishl (v := 4) rfl rfl ?_
      refine y_ior (v := 4) rfl rfl ?_
      refine y_istore (L' := [some (2, 547), some (0, m), some (0, c), some (0, i), some (0, 3), some (0, 27), some (0, r.1), some (0, r.2), some (0, 24), some (0, 4), some (0, 24), some (0, 9), some (0, 0), some (0, 2), none]) rfl rfl rfl rfl ?_
      refine y_push rfl ?_
      refine y_istore (L' := [some (2, 547), some (0, m), some (0, c), some (0, i), some (0, 3), some (0, 27), some (0, r.1), some (0, r.2), some (0, 24), some (0, 4), some (0, 24), some (0, 9), some (0, 0), some (0, 2), some (0, 0)]) rfl rfl rfl rfl ?_
      refine lm_fT (C := (Z 1)) hx hg hN hm hg.1.2.1 (by omega) (fun s10 f1 r1 => ?_) 62 s1 0 (by omega) (by omega) (mfs_t h1 l2) l1
      refine y_aload rfl rfl rfl ?_
      refine y_gfr (t := 558) rfl rfl (by decide) rfl (by decide) ?_
      refine y_iload rfl rfl ?_
      refine y_push rfl ?_
      refine y_iast (n := 3) rfl rfl (by decide) rfl (by decide) ?_
      refine y_iinc (L' := [some (2, 547), some (0, m), some (0, c), some (0, i), some (0, 3), some (0, 27), some (0, r.1), some (0, r.2), some (0, 24), some (0, 4), some (0, 24), some (0, 9), some (0, 1), some (0, 2), none]) rfl rfl rfl rfl rfl (by decide) ?_
      refine y_goto rfl ?_
      refine y_iload rfl rfl ?_
      refine y_iload rfl rfl ?_
      refine y_icge rfl (fun q111 => ?_) (fun q111 => ?_)
      · exfalso; omega
      · skip
        refine y_iload rfl rfl ?_
        refine y_iload rfl rfl ?_
        refine y_idiv (v := 3) rfl rfl (by omega) ?_
        refine y_istore (L' := [some (2, 547), some (0, m), some (0, c), some (0, i), some (0, 3), some (0, 27), some (0, r.1), some (0, r.2), some (0, 24), some (0, 4), some (0, 24), some (0, 3), some (0, 1), some (0, 2), none]) rfl rfl rfl rfl ?_
        refine y_iload rfl rfl ?_
        refine y_iload rfl rfl ?_
        refine y_idiv (v := 8) rfl rfl (by omega) ?_
        refine y_iload rfl rfl ?_
        refine y_irem (v := 2) rfl rfl (by omega) ?_
        refine y_istore (L' := [some (2, 547), some (0, m), some (0, c), some (0, i), some (0, 3), some (0, 27), some (0, r.1), some (0, r.2), some (0, 24), some (0, 4), some (0, 24), some (0, 3), some (0, 1), some (0, 2), none]) rfl rfl rfl rfl ?_
        refine y_iload rfl rfl ?_
        refine y_push rfl ?_
        refine y_iload rfl rfl ?_
        refine y_ishl (v := 4) rfl rfl ?_
        refine y_ior (v := 4) rfl rfl ?_
        refine y_istore (L' := [some (2, 547), some (0, m), some (0, c), some (0, i), some (0, 3), some (0, 27), some (0, r.1), some (0, r.2), some (0, 24), some (0, 4), some (0, 24), some (0, 3), some (0, 1), some (0, 2), none]) rfl rfl rfl rfl ?_
        refine y_push rfl ?_
        refine y_istore (L' := [some (2, 547), some (0, m), some (0, c), some (0, i), some (0, 3), some (0, 27), some (0, r.1), some (0, r.2), some (0, 24), some (0, 4), some (0, 24), some (0, 3), some (0, 1), some (0, 2), some (0, 0)]) rfl rfl rfl rfl ?_
        have d1 : dG (Z 0) (mem1 (Z 0) m.toNat (Z 1) 2) := dG_mem1 hg.1.1 hg.1.2.1 (by omega)
        have v1 : (mem1 (Z 0) m.toNat (Z 1) 2) 5 0 = (Z 1) 5 0 + m.toNat := mem1_5
        refine lm_fT (C := (mem1 (Z 0) m.toNat (Z 1) 2)) hx hg hN hm d1 (by omega) (fun s11 f2 r2 => ?_) 62 (yset s10 558 2 1) 0 (by omega) (by omega) (mfs_s (k := 558) (j := 2) (v := 1) f1 (by omega)) (rm_m r1 (by omega) (by omega))
        refine y_aload rfl rfl rfl ?_
        refine y_gfr (t := 558) rfl rfl (by decide) rfl (by decide) ?_
        refine y_iload rfl rfl ?_
        refine y_push rfl ?_
        refine y_iast (n := 3) rfl rfl (by decide) rfl (by decide) ?_
        refine y_iinc (L' := [some (2, 547), some (0, m), some (0, c), some (0, i), some (0, 3), some (0, 27), some (0, r.1), some (0, r.2), some (0, 24), some (0, 4), some (0, 24), some (0, 3), some (0, 2), some (0, 2), none]) rfl rfl rfl rfl rfl (by decide) ?_
        refine y_goto rfl ?_
        refine y_iload rfl rfl ?_
        refine y_iload rfl rfl ?_
        refine y_icge rfl (fun q111 => ?_) (fun q111 => ?_)
        · exfalso; omega
        · skip
          refine y_iload rfl rfl ?_
          refine y_iload rfl rfl ?_
          refine y_idiv (v := 1) rfl rfl (by omega) ?_
          refine y_istore (L' := [some (2, 547), some (0, m), some (0, c), some (0, i), some (0, 3), some (0, 27), some (0, r.1), some (0, r.2), some (0, 24), some (0, 4), some (0, 24), some (0, 1), some (0, 2), some (0, 2), none]) rfl rfl rfl rfl ?_
          refine y_iload rfl rfl ?_
          refine y_iload rfl rfl ?_
          refine y_idiv (v := 24) rfl rfl (by omega) ?_
          refine y_iload rfl rfl ?_
          refine y_irem (v := 0) rfl rfl (by omega) ?_
          refine y_istore (L' := [some (2, 547), some (0, m), some (0, c), some (0, i), some (0, 3), some (0, 27), some (0, r.1), some (0, r.2), some (0, 24), some (0, 4), some (0, 24), some (0, 1), some (0, 2), some (0, 0), none]) rfl rfl rfl rfl ?_
          refine y_iload rfl rfl ?_
          refine y_push rfl ?_
          refine y_iload rfl rfl ?_
          refine y_ishl (v := 1) rfl rfl ?_
          refine y_ior (v := 5) rfl rfl ?_
          refine y_istore (L' := [some (2, 547), some (0, m), some (0, c), some (0, i), some (0, 3), some (0, 27), some (0, r.1), some (0, r.2), some (0, 24), some (0, 5), some (0, 24), some (0, 1), some (0, 2), some (0, 0), none]) rfl rfl rfl rfl ?_
          refine y_push rfl ?_
          refine y_istore (L' := [some (2, 547), some (0, m), some (0, c), some (0, i), some (0, 3), some (0, 27), some (0, r.1), some (0, r.2), some (0, 24), some (0, 5), some (0, 24), some (0, 1), some (0, 2), some (0, 0), some (0, 0)]) rfl rfl rfl rfl ?_
          have d2 : dG (Z 0) (mem1 (Z 0) m.toNat (mem1 (Z 0) m.toNat (Z 1) 2) 2) := dG_mem1 hg.1.1 d1 (by omega)
          have v2 : (mem1 (Z 0) m.toNat (mem1 (Z 0) m.toNat (Z 1) 2) 2) 5 0 = (mem1 (Z 0) m.toNat (Z 1) 2) 5 0 + m.toNat := mem1_5
          refine lm_fT (C := (mem1 (Z 0) m.toNat (mem1 (Z 0) m.toNat (Z 1) 2) 2)) hx hg hN hm d2 (by omega) (fun s12 f3 r3 => ?_) 62 (yset s11 558 2 1) 0 (by omega) (by omega) (mfs_s (k := 558) (j := 2) (v := 1) f2 (by omega)) (rm_m r2 (by omega) (by omega))
          refine y_aload rfl rfl rfl ?_
          refine y_gfr (t := 558) rfl rfl (by decide) rfl (by decide) ?_
          refine y_iload rfl rfl ?_
          refine y_push rfl ?_
          refine y_iast (n := 3) rfl rfl (by decide) rfl (by decide) ?_
          refine y_iinc (L' := [some (2, 547), some (0, m), some (0, c), some (0, i), some (0, 3), some (0, 27), some (0, r.1), some (0, r.2), some (0, 24), some (0, 5), some (0, 24), some (0, 1), some (0, 3), some (0, 0), none]) rfl rfl rfl rfl rfl (by decide) ?_
          refine y_goto rfl ?_
          refine y_iload rfl rfl ?_
          refine y_iload rfl rfl ?_
          refine y_icge rfl (fun q111 => ?_) (fun q111 => ?_)
          · skip
            refine y_iload rfl rfl ?_
            refine y_push rfl ?_
            refine y_iload rfl rfl ?_
            refine y_ishl (v := 8) rfl rfl ?_
            refine y_push rfl ?_
            refine y_isub (v := 7) rfl rfl (by decide) ?_
            refine y_icne rfl (fun q182 => ?_) (fun q182 => ?_)
            · skip
              refine y_push rfl ?_
              refine y_istore (L' := [some (2, 547), some (0, m), some (0, c), some (0, i), some (0, 3), some (0, 27), some (0, r.1), some (0, r.2), some (0, 24), some (0, 5), some (0, 24), some (0, 1), some (0, 0), some (0, 0), none]) rfl rfl rfl rfl ?_
              refine y_iload rfl rfl ?_
              refine y_ifeq rfl (fun q194 => ?_) (fun q194 => ?_)
              · skip
                refine y_iload rfl rfl ?_
                refine y_istore (L' := [some (2, 547), some (0, m), some (0, c), some (0, i), some (0, 3), some (0, 27), some (0, r.1), some (0, r.2), some (0, 24), some (0, 5), some (0, 24), some (0, 1), some (0, 0), some (0, 0), none]) rfl rfl rfl rfl ?_
                refine y_iload rfl rfl ?_
                refine y_ifeq rfl (fun q219 => ?_) (fun q219 => ?_)
                · skip
                  refine y_iload rfl rfl ?_
                  refine y_istore (L' := [some (2, 547), some (0, m), some (0, c), some (0, i), some (0, 3), some (0, 27), some (0, r.1), some (0, r.2), some (0, 24), some (0, 5), some (0, 24), some (0, 1), some (0, 0), some (0, 0), none]) rfl rfl rfl rfl ?_
                  refine y_iinc (L' := [some (2, 547), some (0, m), some (0, c), some (0, i), some (0, 3), some (0, 27), some (0, r.1), some (0, r.2), some (0, 25), some (0, 5), some (0, 24), some (0, 1), some (0, 0), some (0, 0), none]) rfl rfl rfl rfl rfl (by decide) ?_
                  refine y_goto rfl ?_
                  refine y_forget (M := [some (2, 547), some (0, m), some (0, c), some (0, i), some (0, 3), some (0, 27), some (0, r.1), some (0, r.2), some (0, 25), none, none, none, none, none, none]) ⟨Or.inr rfl, ⟨Or.inr rfl, ⟨Or.inr rfl, ⟨Or.inr rfl, ⟨Or.inr rfl, ⟨Or.inr rfl, ⟨Or.inr rfl, ⟨Or.inr rfl, ⟨Or.inr rfl, ⟨Or.inl rfl, ⟨Or.inl rfl, ⟨Or.inl rfl, ⟨Or.inl rfl, ⟨Or.inl rfl, ⟨Or.inl rfl, trivial⟩⟩⟩⟩⟩⟩⟩⟩⟩⟩⟩⟩⟩⟩⟩ ?_
                  exact hk _ (mfs_s (k := 558) (j := 0) (v := 1) f3 (by omega))
                · exfalso; omega
              · exfalso; omega
            · exfalso; omega
          · exfalso; omega
theorem lm_f3_25 {g : Launch × XG × va_G} {σ : YS} {τ : YS} {Z : YZ} {I : Int → YZ} {M : YS} {N : Int} {m c i : Int} {r : Int × Int} {P0 : Int → YS → Prop}  (hx : mW σ Z I M) (hg : wG Z I M N) (hN : N < 100000) (hm : (0 ≤ m ∧ m ≤ 60) ∧ (0 ≤ c ∧ c < Z 0 0 0) ∧ -1 ≤ i) (hw : Z 0 1 0 = 3) (h1 : mfs σ τ) (hk : ∀ s, mfs σ s → YW g 93 82 [some (2, 547), some (0, m), some (0, c), some (0, i), some (0, 3), some (0, 27), some (0, r.1), some (0, r.2), some (0, 26), none, none, none, none, none, none] [] s (fun rv σ' => ∃ b, rv = some (0, b) ∧ (P0 b σ'))) : YW g 93 82 [some (2, 547), some (0, m), some (0, c), some (0, i), some (0, 3), some (0, 27), some (0, r.1), some (0, r.2), some (0, 25), none, none, none, none, none, none] [] τ (fun rv σ' => ∃ b, rv = some (0, b) ∧ (P0 b σ')) := by
  have e1 := hg.1.1.1
  have hn5 := hg.1.2.2.1
  refine y_iload rfl rfl ?_
  refine y_iload rfl rfl ?_
  refine y_icge rfl (fun q86 => ?_) (fun q86 => ?_)
  · exfalso; omega
  · skip
    refine y_aload rfl rfl rfl ?_
    refine y_vu (as := [(2, 547)]) (S := []) rfl rfl rfl rfl rfl rfl (by decide) rfl (m_layNow (mzs_cong hg.1.1 hx.1.1 (fun y a b => h1 548 y (by omega))) hg.1.1 hg.1.2.1 hg.1.2.2.2.2.1.1) ?_
    rintro s1 ⟨l1, l2⟩
    refine y_push rfl ?_
    refine y_istore (L' := [some (2, 547), some (0, m), some (0, c), some (0, i), some (0, 3), some (0, 27), some (0, r.1), some (0, r.2), some (0, 25), some (0, 0), none, none, none, none, none]) rfl rfl rfl rfl ?_
    refine y_iload rfl rfl ?_
    refine y_istore (L' := [some (2, 547), some (0, m), some (0, c), some (0, i), some (0, 3), some (0, 27), some (0, r.1), some (0, r.2), some (0, 25), some (0, 0), some (0, 25), none, none, none, none]) rfl rfl rfl rfl ?_
    refine y_iload rfl rfl ?_
    refine y_istore (L' := [some (2, 547), some (0, m), some (0, c), some (0, i), some (0, 3), some (0, 27), some (0, r.1), some (0, r.2), some (0, 25), some (0, 0), some (0, 25), some (0, 27), none, none, none]) rfl rfl rfl rfl ?_
    refine y_push rfl ?_
    refine y_istore (L' := [some (2, 547), some (0, m), some (0, c), some (0, i), some (0, 3), some (0, 27), some (0, r.1), some (0, r.2), some (0, 25), some (0, 0), some (0, 25), some (0, 27), some (0, 0), none, none]) rfl rfl rfl rfl ?_
    refine y_iload rfl rfl ?_
    refine y_iload rfl rfl ?_
    refine y_icge rfl (fun q111 => ?_) (fun q111 => ?_)
    · exfalso; omega
    · skip
      refine y_iload rfl rfl ?_
      refine y_iload rfl rfl ?_
      refine y_idiv (v := 9) rfl rfl (by omega) ?_
      refine y_istore (L' := [some (2, 547), some (0, m), some (0, c), some (0, i), some (0, 3), some (0, 27), some (0, r.1), some (0, r.2), some (0, 25), some (0, 0), some (0, 25), some (0, 9), some (0, 0), none, none]) rfl rfl rfl rfl ?_
      refine y_iload rfl rfl ?_
      refine y_iload rfl rfl ?_
      refine y_idiv (v := 2) rfl rfl (by omega) ?_
      refine y_iload rfl rfl ?_
      refine y_irem (v := 2) rfl rfl (by omega) ?_
      refine y_istore (L' := [some (2, 547), some (0, m), some (0, c), some (0, i), some (0, 3), some (0, 27), some (0, r.1), some (0, r.2), some (0, 25), some (0, 0), some (0, 25), some (0, 9), some (0, 0), some (0, 2), none]) rfl rfl rfl rfl ?_
      refine y_iload rfl rfl ?_
      refine y_push rfl ?_
      refine y_iload rfl rfl ?_
      refine y_ishl (v := 4) rfl rfl ?_
      refine y_ior (v := 4) rfl rfl ?_
      refine y_istore (L' := [some (2, 547), some (0, m), some (0, c), some (0, i), some (0, 3), some (0, 27), some (0, r.1), some (0, r.2), some (0, 25), some (0, 4), some (0, 25), some (0, 9), some (0, 0), some (0, 2), none]) rfl rfl rfl rfl ?_
      refine y_push rfl ?_
      refine y_istore (L' := [some (2, 547), some (0, m), some (0, c), some (0, i), some (0, 3), some (0, 27), some (0, r.1), some (0, r.2), some (0, 25), some (0, 4), some (0, 25), some (0, 9), some (0, 0), some (0, 2), some (0, 0)]) rfl rfl rfl rfl ?_
      refine lm_fT (C := (Z 1)) hx hg hN hm hg.1.2.1 (by omega) (fun s10 f1 r1 => ?_) 62 s1 0 (by omega) (by omega) (mfs_t h1 l2) l1
      refine y_aload rfl rfl rfl ?_
      refine y_gfr (t := 558) rfl rfl (by decide) rfl (by decide) ?_
      refine y_iload rfl rfl ?_
      refine y_push rfl ?_
      refine y_iast (n := 3) rfl rfl (by decide) rfl (by decide) ?_
      refine y_iinc (L' := [some (2, 547), some (0, m), some (0, c), some (0, i), some (0, 3), some (0, 27), some (0, r.1), some (0, r.2), some (0, 25), some (0, 4), some (0, 25), some (0, 9), some (0, 1), some (0, 2), none]) rfl rfl rfl rfl rfl (by decide) ?_
      refine y_goto rfl ?_
      refine y_iload rfl rfl ?_
      refine y_iload rfl rfl ?_
      refine y_icge rfl (fun q111 => ?_) (fun q111 => ?_)
      · exfalso; omega
      · skip
        refine y_iload rfl rfl ?_
        refine y_iload rfl rfl ?_
        refine y_idiv (v := 3) rfl rfl (by omega) ?_
        refine y_istore (L' := [some (2, 547), some (0, m), some (0, c), some (0, i), some (0, 3), some (0, 27), some (0, r.1), some (0, r.2), some (0, 25), some (0, 4), some (0, 25), some (0, 3), some (0, 1), some (0, 2), none]) rfl rfl rfl rfl ?_
        refine y_iload rfl rfl ?_
        refine y_iload rfl rfl ?_
        refine y_idiv (v := 8) rfl rfl (by omega) ?_
        refine y_iload rfl rfl ?_
        refine y_irem (v := 2) rfl rfl (by omega) ?_
        refine y_istore (L' := [some (2, 547), some (0, m), some (0, c), some (0, i), some (0, 3), some (0, 27), some (0, r.1), some (0, r.2), some (0, 25), some (0, 4), some (0, 25), some (0, 3), some (0, 1), some (0, 2), none]) rfl rfl rfl rfl ?_
        refine y_iload rfl rfl ?_
        refine y_push rfl ?_
        refine y_iload rfl rfl ?_
        refine y_ishl (v := 4) rfl rfl ?_
        refine y_ior (v := 4) rfl rfl ?_
        refine y_istore (L' := [some (2, 547), some (0, m), some (0, c), some (0, i), some (0, 3), some (0, 27), some (0, r.1), some (0, r.2), some (0, 25), some (0, 4), some (0, 25), some (0, 3), some (0, 1), some (0, 2), none]) rfl rfl rfl rfl ?_
        refine y_push rfl ?_
        refine y_istore (L' := [some (2, 547), some (0, m), some (0, c), some (0, i), some (0, 3), some (0, 27), some (0, r.1), some (0, r.2), some (0, 25), some (0, 4), some (0, 25), some (0, 3), some (0, 1), some (0, 2), some (0, 0)]) rfl rfl rfl rfl ?_
        have d1 : dG (Z 0) (mem1 (Z 0) m.toNat (Z 1) 2) := dG_mem1 hg.1.1 hg.1.2.1 (by omega)
        have v1 : (mem1 (Z 0) m.toNat (Z 1) 2) 5 0 = (Z 1) 5 0 + m.toNat := mem1_5
        refine lm_fT (C := (mem1 (Z 0) m.toNat (Z 1) 2)) hx hg hN hm d1 (by omega) (fun s11 f2 r2 => ?_) 62 (yset s10 558 2 1) 0 (by omega) (by omega) (mfs_s (k := 558) (j := 2) (v := 1) f1 (by omega)) (rm_m r1 (by omega) (by omega))
        refine y_aload rfl rfl rfl ?_
        refine y_gfr (t := 558) rfl rfl (by decide) rfl (by decide) ?_
        refine y_iload rfl rfl ?_
        refine y_push rfl ?_
        refine y_iast (n := 3) rfl rfl (by decide) rfl (by decide) ?_
        refine y_iinc (L' := [some (2, 547), some (0, m), some (0, c), some (0, i), some (0, 3), some (0, 27), some (0, r.1), some (0, r.2), some (0, 25), some (0, 4), some (0, 25), some (0, 3), some (0, 2), some (0, 2), none]) rfl rfl rfl rfl rfl (by decide) ?_
        refine y_goto rfl ?_
        refine y_iload rfl rfl ?_
        refine y_iload rfl rfl ?_
        refine y_icge rfl (fun q111 => ?_) (fun q111 => ?_)
        · exfalso; omega
        · skip
          refine y_iload rfl rfl ?_
          refine y_iload rfl rfl ?_
          refine y_idiv (v := 1) rfl rfl (by omega) ?_
          refine y_istore (L' := [some (2, 547), some (0, m), some (0, c), some (0, i), some (0, 3), some (0, 27), some (0, r.1), some (0, r.2), some (0, 25), some (0, 4), some (0, 25), some (0, 1), some (0, 2), some (0, 2), none]) rfl rfl rfl rfl ?_
          refine y_iload rfl rfl ?_
          refine y_iload rfl rfl ?_
          refine y_idiv (v := 25) rfl rfl (by omega) ?_
          refine y_iload rfl rfl ?_
          refine y_irem (v := 1) rfl rfl (by omega) ?_
          refine y_istore (L' := [some (2, 547), some (0, m), some (0, c), some (0, i), some (0, 3), some (0, 27), some (0, r.1), some (0, r.2), some (0, 25), some (0, 4), some (0, 25), some (0, 1), some (0, 2), some (0, 1), none]) rfl rfl rfl rfl ?_
          refine y_iload rfl rfl ?_
          refine y_push rfl ?_
          refine y_iload rfl rfl ?_
          refine y_ishl (v := 2) rfl rfl ?_
          refine y_ior (v := 6) rfl rfl ?_
          refine y_istore (L' := [some (2, 547), some (0, m), some (0, c), some (0, i), some (0, 3), some (0, 27), some (0, r.1), some (0, r.2), some (0, 25), some (0, 6), some (0, 25), some (0, 1), some (0, 2), some (0, 1), none]) rfl rfl rfl rfl ?_
          refine y_push rfl ?_
          refine y_istore (L' := [some (2, 547), some (0, m), some (0, c), some (0, i), some (0, 3), some (0, 27), some (0, r.1), some (0, r.2), some (0, 25), some (0, 6), some (0, 25), some (0, 1), some (0, 2), some (0, 1), some (0, 0)]) rfl rfl rfl rfl ?_
          have d2 : dG (Z 0) (mem1 (Z 0) m.toNat (mem1 (Z 0) m.toNat (Z 1) 2) 2) := dG_mem1 hg.1.1 d1 (by omega)
          have v2 : (mem1 (Z 0) m.toNat (mem1 (Z 0) m.toNat (Z 1) 2) 2) 5 0 = (mem1 (Z 0) m.toNat (Z 1) 2) 5 0 + m.toNat := mem1_5
          refine lm_fT (C := (mem1 (Z 0) m.toNat (mem1 (Z 0) m.toNat (Z 1) 2) 2)) hx hg hN hm d2 (by omega) (fun s12 f3 r3 => ?_) 62 (yset s11 558 2 1) 0 (by omega) (by omega) (mfs_s (k := 558) (j := 2) (v := 1) f2 (by omega)) (rm_m r2 (by omega) (by omega))
          refine y_aload rfl rfl rfl ?_
          refine y_gfr (t := 558) rfl rfl (by decide) rfl (by decide) ?_
          refine y_iload rfl rfl ?_
          refine y_push rfl ?_
          refine y_iast (n := 3) rfl rfl (by decide) rfl (by decide) ?_
          refine y_iinc (L' := [some (2, 547), some (0, m), some (0, c), some (0, i), some (0, 3), some (0, 27), some (0, r.1), some (0, r.2), some (0, 25), some (0, 6), some (0, 25), some (0, 1), some (0, 3), some (0, 1), none]) rfl rfl rfl rfl rfl (by decide) ?_
          refine y_goto rfl ?_
          refine y_iload rfl rfl ?_
          refine y_iload rfl rfl ?_
          refine y_icge rfl (fun q111 => ?_) (fun q111 => ?_)
          · skip
            refine y_iload rfl rfl ?_
            refine y_push rfl ?_
            refine y_iload rfl rfl ?_
            refine y_ishl (v := 8) rfl rfl ?_
            refine y_push rfl ?_
            refine y_isub (v := 7) rfl rfl (by decide) ?_
            refine y_icne rfl (fun q182 => ?_) (fun q182 => ?_)
            · skip
              refine y_push rfl ?_
              refine y_istore (L' := [some (2, 547), some (0, m), some (0, c), some (0, i), some (0, 3), some (0, 27), some (0, r.1), some (0, r.2), some (0, 25), some (0, 6), some (0, 25), some (0, 1), some (0, 0), some (0, 1), none]) rfl rfl rfl rfl ?_
              refine y_iload rfl rfl ?_
              refine y_ifeq rfl (fun q194 => ?_) (fun q194 => ?_)
              · skip
                refine y_iload rfl rfl ?_
                refine y_istore (L' := [some (2, 547), some (0, m), some (0, c), some (0, i), some (0, 3), some (0, 27), some (0, r.1), some (0, r.2), some (0, 25), some (0, 6), some (0, 25), some (0, 1), some (0, 0), some (0, 1), none]) rfl rfl rfl rfl ?_
                refine y_iload rfl rfl ?_
                refine y_ifeq rfl (fun q219 => ?_) (fun q219 => ?_)
                · skip
                  refine y_iload rfl rfl ?_
                  refine y_istore (L' := [some (2, 547), some (0, m), some (0, c), some (0, i), some (0, 3), some (0, 27), some (0, r.1), some (0, r.2), some (0, 25), some (0, 6), some (0, 25), some (0, 1), some (0, 0), some (0, 1), none]) rfl rfl rfl rfl ?_
                  refine y_iinc (L' := [some (2, 547), some (0, m), some (0, c), some (0, i), some (0, 3), some (0, 27), some (0, r.1), some (0, r.2), some (0, 26), some (0, 6), some (0, 25), some (0, 1), some (0, 0), some (0, 1), none]) rfl rfl rfl rfl rfl (by decide) ?_
                  refine y_goto rfl ?_
                  refine y_forget (M := [some (2, 547), some (0, m), some (0, c), some (0, i), some (0, 3), some (0, 27), some (0, r.1), some (0, r.2), some (0, 26), none, none, none, none, none, none]) ⟨Or.inr rfl, ⟨Or.inr rfl, ⟨Or.inr rfl, ⟨Or.inr rfl, ⟨Or.inr rfl, ⟨Or.inr rfl, ⟨Or.inr rfl, ⟨Or.inr rfl, ⟨Or.inr rfl, ⟨Or.inl rfl, ⟨Or.inl rfl, ⟨Or.inl rfl, ⟨Or.inl rfl, ⟨Or.inl rfl, ⟨Or.inl rfl, trivial⟩⟩⟩⟩⟩⟩⟩⟩⟩⟩⟩⟩⟩⟩⟩ ?_
                  exact hk _ (mfs_s (k := 558) (j := 1) (v := 1) f3 (by omega))
                · exfalso; omega
              · exfalso; omega
            · exfalso; omega
          · exfalso; omega
theorem lm_f3_26 {g : Launch × XG × va_G} {σ : YS} {τ : YS} {Z : YZ} {I : Int → YZ} {M : YS} {N : Int} {m c i : Int} {r : Int × Int} {P0 : Int → YS → Prop}  (hx : mW σ Z I M) (hg : wG Z I M N) (hN : N < 100000) (hm : (0 ≤ m ∧ m ≤ 60) ∧ (0 ≤ c ∧ c < Z 0 0 0) ∧ -1 ≤ i) (hw : Z 0 1 0 = 3) (h1 : mfs σ τ) (hk : ∀ s, mfs σ s → YW g 93 82 [some (2, 547), some (0, m), some (0, c), some (0, i), some (0, 3), some (0, 27), some (0, r.1), some (0, r.2), some (0, 27), none, none, none, none, none, none] [] s (fun rv σ' => ∃ b, rv = some (0, b) ∧ (P0 b σ'))) : YW g 93 82 [some (2, 547), some (0, m), some (0, c), some (0, i), some (0, 3), some (0, 27), some (0, r.1), some (0, r.2), some (0, 26), none, none, none, none, none, none] [] τ (fun rv σ' => ∃ b, rv = some (0, b) ∧ (P0 b σ')) := by
  have e1 := hg.1.1.1
  have hn5 := hg.1.2.2.1
  refine y_iload rfl rfl ?_
  refine y_iload rfl rfl ?_
  refine y_icge rfl (fun q86 => ?_) (fun q86 => ?_)
  · exfalso; omega
  · skip
    refine y_aload rfl rfl rfl ?_
    refine y_vu (as := [(2, 547)]) (S := []) rfl rfl rfl rfl rfl rfl (by decide) rfl (m_layNow (mzs_cong hg.1.1 hx.1.1 (fun y a b => h1 548 y (by omega))) hg.1.1 hg.1.2.1 hg.1.2.2.2.2.1.1) ?_
    rintro s1 ⟨l1, l2⟩
    refine y_push rfl ?_
    refine y_istore (L' := [some (2, 547), some (0, m), some (0, c), some (0, i), some (0, 3), some (0, 27), some (0, r.1), some (0, r.2), some (0, 26), some (0, 0), none, none, none, none, none]) rfl rfl rfl rfl ?_
    refine y_iload rfl rfl ?_
    refine y_istore (L' := [some (2, 547), some (0, m), some (0, c), some (0, i), some (0, 3), some (0, 27), some (0, r.1), some (0, r.2), some (0, 26), some (0, 0), some (0, 26), none, none, none, none]) rfl rfl rfl rfl ?_
    refine y_iload rfl rfl ?_
    refine y_istore (L' := [some (2, 547), some (0, m), some (0, c), some (0, i), some (0, 3), some (0, 27), some (0, r.1), some (0, r.2), some (0, 26), some (0, 0), some (0, 26), some (0, 27), none, none, none]) rfl rfl rfl rfl ?_
    refine y_push rfl ?_
    refine y_istore (L' := [some (2, 547), some (0, m), some (0, c), some (0, i), some (0, 3), some (0, 27), some (0, r.1), some (0, r.2), some (0, 26), some (0, 0), some (0, 26), some (0, 27), some (0, 0), none, none]) rfl rfl rfl rfl ?_
    refine y_iload rfl rfl ?_
    refine y_iload rfl rfl ?_
    refine y_icge rfl (fun q111 => ?_) (fun q111 => ?_)
    · exfalso; omega
    · skip
      refine y_iload rfl rfl ?_
      refine y_iload rfl rfl ?_
      refine y_idiv (v := 9) rfl rfl (by omega) ?_
      refine y_istore (L' := [some (2, 547), some (0, m), some (0, c), some (0, i), some (0, 3), some (0, 27), some (0, r.1), some (0, r.2), some (0, 26), some (0, 0), some (0, 26), some (0, 9), some (0, 0), none, none]) rfl rfl rfl rfl ?_
      refine y_iload rfl rfl ?_
      refine y_iload rfl rfl ?_
      refine y_idiv (v := 2) rfl rfl (by omega) ?_
      refine y_iload rfl rfl ?_
      refine y_irem (v := 2) rfl rfl (by omega) ?_
      refine y_istore (L' := [some (2, 547), some (0, m), some (0, c), some (0, i), some (0, 3), some (0, 27), some (0, r.1), some (0, r.2), some (0, 26), some (0, 0), some (0, 26), some (0, 9), some (0, 0), some (0, 2), none]) rfl rfl rfl rfl ?_
      refine y_iload rfl rfl ?_
      refine y_push rfl ?_
      refine y_iload rfl rfl ?_
      refine y_ishl (v := 4) rfl rfl ?_
      refine y_ior (v := 4) rfl rfl ?_
      refine y_istore (L' := [some (2, 547), some (0, m), some (0, c), some (0, i), some (0, 3), some (0, 27), some (0, r.1), some (0, r.2), some (0, 26), some (0, 4), some (0, 26), some (0, 9), some (0, 0), some (0, 2), none]) rfl rfl rfl rfl ?_
      refine y_push rfl ?_
      refine y_istore (L' := [some (2, 547), some (0, m), some (0, c), some (0, i), some (0, 3), some (0, 27), some (0, r.1), some (0, r.2), some (0, 26), some (0, 4), some (0, 26), some (0, 9), some (0, 0), some (0, 2), some (0, 0)]) rfl rfl rfl rfl ?_
      refine lm_fT (C := (Z 1)) hx hg hN hm hg.1.2.1 (by omega) (fun s10 f1 r1 => ?_) 62 s1 0 (by omega) (by omega) (mfs_t h1 l2) l1
      refine y_aload rfl rfl rfl ?_
      refine y_gfr (t := 558) rfl rfl (by decide) rfl (by decide) ?_
      refine y_iload rfl rfl ?_
      refine y_push rfl ?_
      refine y_iast (n := 3) rfl rfl (by decide) rfl (by decide) ?_
      refine y_iinc (L' := [some (2, 547), some (0, m), some (0, c), some (0, i), some (0, 3), some (0, 27), some (0, r.1), some (0, r.2), some (0, 26), some (0, 4), some (0, 26), some (0, 9), some (0, 1), some (0, 2), none]) rfl rfl rfl rfl rfl (by decide) ?_
      refine y_goto rfl ?_
      refine y_iload rfl rfl ?_
      refine y_iload rfl rfl ?_
      refine y_icge rfl (fun q111 => ?_) (fun q111 => ?_)
      · exfalso; omega
      · skip
        refine y_iload rfl rfl ?_
        refine y_iload rfl rfl ?_
        refine y_idiv (v := 3) rfl rfl (by omega) ?_
        refine y_istore (L' := [some (2, 547), some (0, m), some (0, c), some (0, i), some (0, 3), some (0, 27), some (0, r.1), some (0, r.2), some (0, 26), some (0, 4), some (0, 26), some (0, 3), some (0, 1), some (0, 2), none]) rfl rfl rfl rfl ?_
        refine y_iload rfl rfl ?_
        refine y_iload rfl rfl ?_
        refine y_idiv (v := 8) rfl rfl (by omega) ?_
        refine y_iload rfl rfl ?_
        refine y_irem (v := 2) rfl rfl (by omega) ?_
        refine y_istore (L' := [some (2, 547), some (0, m), some (0, c), some (0, i), some (0, 3), some (0, 27), some (0, r.1), some (0, r.2), some (0, 26), some (0, 4), some (0, 26), some (0, 3), some (0, 1), some (0, 2), none]) rfl rfl rfl rfl ?_
        refine y_iload rfl rfl ?_
        refine y_push rfl ?_
        refine y_iload rfl rfl ?_
        refine y_ishl (v := 4) rfl rfl ?_
        refine y_ior (v := 4) rfl rfl ?_
        refine y_istore (L' := [some (2, 547), some (0, m), some (0, c), some (0, i), some (0, 3), some (0, 27), some (0, r.1), some (0, r.2), some (0, 26), some (0, 4), some (0, 26), some (0, 3), some (0, 1), some (0, 2), none]) rfl rfl rfl rfl ?_
        refine y_push rfl ?_
        refine y_istore (L' := [some (2, 547), some (0, m), some (0, c), some (0, i), some (0, 3), some (0, 27), some (0, r.1), some (0, r.2), some (0, 26), some (0, 4), some (0, 26), some (0, 3), some (0, 1), some (0, 2), some (0, 0)]) rfl rfl rfl rfl ?_
        have d1 : dG (Z 0) (mem1 (Z 0) m.toNat (Z 1) 2) := dG_mem1 hg.1.1 hg.1.2.1 (by omega)
        have v1 : (mem1 (Z 0) m.toNat (Z 1) 2) 5 0 = (Z 1) 5 0 + m.toNat := mem1_5
        refine lm_fT (C := (mem1 (Z 0) m.toNat (Z 1) 2)) hx hg hN hm d1 (by omega) (fun s11 f2 r2 => ?_) 62 (yset s10 558 2 1) 0 (by omega) (by omega) (mfs_s (k := 558) (j := 2) (v := 1) f1 (by omega)) (rm_m r1 (by omega) (by omega))
        refine y_aload rfl rfl rfl ?_
        refine y_gfr (t := 558) rfl rfl (by decide) rfl (by decide) ?_
        refine y_iload rfl rfl ?_
        refine y_push rfl ?_
        refine y_iast (n := 3) rfl rfl (by decide) rfl (by decide) ?_
        refine y_iinc (L' := [some (2, 547), some (0, m), some (0, c), some (0, i), some (0, 3), some (0, 27), some (0, r.1), some (0, r.2), some (0, 26), some (0, 4), some (0, 26), some (0, 3), some (0, 2), some (0, 2), none]) rfl rfl rfl rfl rfl (by decide) ?_
        refine y_goto rfl ?_
        refine y_iload rfl rfl ?_
        refine y_iload rfl rfl ?_
        refine y_icge rfl (fun q111 => ?_) (fun q111 => ?_)
        · exfalso; omega
        · skip
          refine y_iload rfl rfl ?_
          refine y_iload rfl rfl ?_
          refine y_idiv (v := 1) rfl rfl (by omega) ?_
          refine y_istore (L' := [some (2, 547), some (0, m), some (0, c), some (0, i), some (0, 3), some (0, 27), some (0, r.1), some (0, r.2), some (0, 26), some (0, 4), some (0, 26), some (0, 1), some (0, 2), some (0, 2), none]) rfl rfl rfl rfl ?_
          refine y_iload rfl rfl ?_
          refine y_iload rfl rfl ?_
          refine y_idiv (v := 26) rfl rfl (by omega) ?_
          refine y_iload rfl rfl ?_
          refine y_irem (v := 2) rfl rfl (by omega) ?_
          refine y_istore (L' := [some (2, 547), some (0, m), some (0, c), some (0, i), some (0, 3), some (0, 27), some (0, r.1), some (0, r.2), some (0, 26), some (0, 4), some (0, 26), some (0, 1), some (0, 2), some (0, 2), none]) rfl rfl rfl rfl ?_
          refine y_iload rfl rfl ?_
          refine y_push rfl ?_
          refine y_iload rfl rfl ?_
          refine y_ishl (v := 4) rfl rfl ?_
          refine y_ior (v := 4) rfl rfl ?_
          refine y_istore (L' := [some (2, 547), some (0, m), some (0, c), some (0, i), some (0, 3), some (0, 27), some (0, r.1), some (0, r.2), some (0, 26), some (0, 4), some (0, 26), some (0, 1), some (0, 2), some (0, 2), none]) rfl rfl rfl rfl ?_
          refine y_push rfl ?_
          refine y_istore (L' := [some (2, 547), some (0, m), some (0, c), some (0, i), some (0, 3), some (0, 27), some (0, r.1), some (0, r.2), some (0, 26), some (0, 4), some (0, 26), some (0, 1), some (0, 2), some (0, 2), some (0, 0)]) rfl rfl rfl rfl ?_
          have d2 : dG (Z 0) (mem1 (Z 0) m.toNat (mem1 (Z 0) m.toNat (Z 1) 2) 2) := dG_mem1 hg.1.1 d1 (by omega)
          have v2 : (mem1 (Z 0) m.toNat (mem1 (Z 0) m.toNat (Z 1) 2) 2) 5 0 = (mem1 (Z 0) m.toNat (Z 1) 2) 5 0 + m.toNat := mem1_5
          refine lm_fT (C := (mem1 (Z 0) m.toNat (mem1 (Z 0) m.toNat (Z 1) 2) 2)) hx hg hN hm d2 (by omega) (fun s12 f3 r3 => ?_) 62 (yset s11 558 2 1) 0 (by omega) (by omega) (mfs_s (k := 558) (j := 2) (v := 1) f2 (by omega)) (rm_m r2 (by omega) (by omega))
          refine y_aload rfl rfl rfl ?_
          refine y_gfr (t := 558) rfl rfl (by decide) rfl (by decide) ?_
          refine y_iload rfl rfl ?_
          refine y_push rfl ?_
          refine y_iast (n := 3) rfl rfl (by decide) rfl (by decide) ?_
          refine y_iinc (L' := [some (2, 547), some (0, m), some (0, c), some (0, i), some (0, 3), some (0, 27), some (0, r.1), some (0, r.2), some (0, 26), some (0, 4), some (0, 26), some (0, 1), some (0, 3), some (0, 2), none]) rfl rfl rfl rfl rfl (by decide) ?_
          refine y_goto rfl ?_
          refine y_iload rfl rfl ?_
          refine y_iload rfl rfl ?_
          refine y_icge rfl (fun q111 => ?_) (fun q111 => ?_)
          · skip
            refine y_iload rfl rfl ?_
            refine y_push rfl ?_
            refine y_iload rfl rfl ?_
            refine y_ishl (v := 8) rfl rfl ?_
            refine y_push rfl ?_
            refine y_isub (v := 7) rfl rfl (by decide) ?_
            refine y_icne rfl (fun q182 => ?_) (fun q182 => ?_)
            · skip
              refine y_push rfl ?_
              refine y_istore (L' := [some (2, 547), some (0, m), some (0, c), some (0, i), some (0, 3), some (0, 27), some (0, r.1), some (0, r.2), some (0, 26), some (0, 4), some (0, 26), some (0, 1), some (0, 0), some (0, 2), none]) rfl rfl rfl rfl ?_
              refine y_iload rfl rfl ?_
              refine y_ifeq rfl (fun q194 => ?_) (fun q194 => ?_)
              · skip
                refine y_iload rfl rfl ?_
                refine y_istore (L' := [some (2, 547), some (0, m), some (0, c), some (0, i), some (0, 3), some (0, 27), some (0, r.1), some (0, r.2), some (0, 26), some (0, 4), some (0, 26), some (0, 1), some (0, 0), some (0, 2), none]) rfl rfl rfl rfl ?_
                refine y_iload rfl rfl ?_
                refine y_ifeq rfl (fun q219 => ?_) (fun q219 => ?_)
                · skip
                  refine y_iload rfl rfl ?_
                  refine y_istore (L' := [some (2, 547), some (0, m), some (0, c), some (0, i), some (0, 3), some (0, 27), some (0, r.1), some (0, r.2), some (0, 26), some (0, 4), some (0, 26), some (0, 1), some (0, 0), some (0, 2), none]) rfl rfl rfl rfl ?_
                  refine y_iinc (L' := [some (2, 547), some (0, m), some (0, c), some (0, i), some (0, 3), some (0, 27), some (0, r.1), some (0, r.2), some (0, 27), some (0, 4), some (0, 26), some (0, 1), some (0, 0), some (0, 2), none]) rfl rfl rfl rfl rfl (by decide) ?_
                  refine y_goto rfl ?_
                  refine y_forget (M := [some (2, 547), some (0, m), some (0, c), some (0, i), some (0, 3), some (0, 27), some (0, r.1), some (0, r.2), some (0, 27), none, none, none, none, none, none]) ⟨Or.inr rfl, ⟨Or.inr rfl, ⟨Or.inr rfl, ⟨Or.inr rfl, ⟨Or.inr rfl, ⟨Or.inr rfl, ⟨Or.inr rfl, ⟨Or.inr rfl, ⟨Or.inr rfl, ⟨Or.inl rfl, ⟨Or.inl rfl, ⟨Or.inl rfl, ⟨Or.inl rfl, ⟨Or.inl rfl, ⟨Or.inl rfl, trivial⟩⟩⟩⟩⟩⟩⟩⟩⟩⟩⟩⟩⟩⟩⟩ ?_
                  exact hk _ (mfs_s (k := 558) (j := 2) (v := 1) f3 (by omega))
                · exfalso; omega
              · exfalso; omega
            · exfalso; omega
          · exfalso; omega
theorem lm_fE3 {g : Launch × XG × va_G} {σ : YS} {τ : YS} {Z : YZ} {I : Int → YZ} {M : YS} {N : Int} {m c i : Int} {r : Int × Int} {P0 : Int → YS → Prop}  (hx : mW σ Z I M) (hg : wG Z I M N) (hN : N < 100000) (hm : (0 ≤ m ∧ m ≤ 60) ∧ (0 ≤ c ∧ c < Z 0 0 0) ∧ -1 ≤ i) (hr : 0 ≤ r.2) (hk : ∀ b, b = ransw 3 r i → P0 b τ) : YW g 93 82 [some (2, 547), some (0, m), some (0, c), some (0, i), some (0, 3), some (0, 27), some (0, r.1), some (0, r.2), some (0, 27), none, none, none, none, none, none] [] τ (fun rv σ' => ∃ b, rv = some (0, b) ∧ (P0 b σ')) := by
  refine y_iload rfl rfl ?_
  refine y_iload rfl rfl ?_
  refine y_icge rfl (fun q86 => ?_) (fun q86 => ?_)
  · skip
    refine y_push rfl ?_
    refine y_istore (L' := [some (2, 547), some (0, m), some (0, c), some (0, i), some (0, 3), some (0, 27), some (0, r.1), some (0, r.2), some (0, 1), none, none, none, none, none, none]) rfl rfl rfl rfl ?_
    refine y_iload rfl rfl ?_
    refine y_push rfl ?_
    refine y_isub (v := 2) rfl rfl (by decide) ?_
    refine y_istore (L' := [some (2, 547), some (0, m), some (0, c), some (0, i), some (0, 3), some (0, 27), some (0, r.1), some (0, r.2), some (0, 1), some (0, 2), none, none, none, none, none]) rfl rfl rfl rfl ?_
    refine y_iload rfl rfl ?_
    refine y_iload rfl rfl ?_
    refine y_icle rfl (fun q264 => ?_) (fun q264 => ?_)
    · skip
      refine y_iload rfl rfl ?_
      refine y_push rfl ?_
      refine y_icne rfl (fun q282 => ?_) (fun q282 => ?_)
      · skip
        refine y_iload rfl rfl ?_
        refine y_iload rfl rfl ?_
        refine y_icge rfl (fun q293 => ?_) (fun q293 => ?_)
        · skip
          refine y_push rfl ?_
          refine y_iret rfl rfl ⟨_, rfl, ?_⟩
          exact hk _ (by unfold ransw; (repeat' split) <;> omega)
        · skip
          refine y_iload rfl rfl ?_
          refine y_iload rfl rfl ?_
          refine y_idiv (v := (r.2 / 1)) rfl rfl (by omega) ?_
          refine y_iload rfl rfl ?_
          refine y_irem (v := ((r.2 / 1) % 3)) rfl rfl (by omega) ?_
          refine y_goto rfl ?_
          refine y_iret rfl rfl ⟨_, rfl, ?_⟩
          exact hk _ (by unfold ransw; (repeat' split) <;> omega)
      · skip
        refine y_iload rfl rfl ?_
        refine y_goto rfl ?_
        refine y_iret rfl rfl ⟨_, rfl, ?_⟩
        exact hk _ (by unfold ransw; (repeat' split) <;> omega)
    · skip
      refine y_iload rfl rfl ?_
      refine y_iload rfl rfl ?_
      refine y_imul (v := 3) rfl rfl (by decide) ?_
      refine y_istore (L' := [some (2, 547), some (0, m), some (0, c), some (0, i), some (0, 3), some (0, 27), some (0, r.1), some (0, r.2), some (0, 3), some (0, 2), none, none, none, none, none]) rfl rfl rfl rfl ?_
      refine y_iinc (L' := [some (2, 547), some (0, m), some (0, c), some (0, i), some (0, 3), some (0, 27), some (0, r.1), some (0, r.2), some (0, 3), some (0, 1), none, none, none, none, none]) rfl rfl rfl rfl rfl (by decide) ?_
      refine y_goto rfl ?_
      refine y_iload rfl rfl ?_
      refine y_iload rfl rfl ?_
      refine y_icle rfl (fun q264 => ?_) (fun q264 => ?_)
      · skip
        refine y_iload rfl rfl ?_
        refine y_push rfl ?_
        refine y_icne rfl (fun q282 => ?_) (fun q282 => ?_)
        · skip
          refine y_iload rfl rfl ?_
          refine y_iload rfl rfl ?_
          refine y_icge rfl (fun q293 => ?_) (fun q293 => ?_)
          · skip
            refine y_push rfl ?_
            refine y_iret rfl rfl ⟨_, rfl, ?_⟩
            exact hk _ (by unfold ransw; (repeat' split) <;> omega)
          · skip
            refine y_iload rfl rfl ?_
            refine y_iload rfl rfl ?_
            refine y_idiv (v := (r.2 / 3)) rfl rfl (by omega) ?_
            refine y_iload rfl rfl ?_
            refine y_irem (v := ((r.2 / 3) % 3)) rfl rfl (by omega) ?_
            refine y_goto rfl ?_
            refine y_iret rfl rfl ⟨_, rfl, ?_⟩
            exact hk _ (by unfold ransw; (repeat' split) <;> omega)
        · skip
          refine y_iload rfl rfl ?_
          refine y_goto rfl ?_
          refine y_iret rfl rfl ⟨_, rfl, ?_⟩
          exact hk _ (by unfold ransw; (repeat' split) <;> omega)
      · skip
        refine y_iload rfl rfl ?_
        refine y_iload rfl rfl ?_
        refine y_imul (v := 9) rfl rfl (by decide) ?_
        refine y_istore (L' := [some (2, 547), some (0, m), some (0, c), some (0, i), some (0, 3), some (0, 27), some (0, r.1), some (0, r.2), some (0, 9), some (0, 1), none, none, none, none, none]) rfl rfl rfl rfl ?_
        refine y_iinc (L' := [some (2, 547), some (0, m), some (0, c), some (0, i), some (0, 3), some (0, 27), some (0, r.1), some (0, r.2), some (0, 9), some (0, 0), none, none, none, none, none]) rfl rfl rfl rfl rfl (by decide) ?_
        refine y_goto rfl ?_
        refine y_iload rfl rfl ?_
        refine y_iload rfl rfl ?_
        refine y_icle rfl (fun q264 => ?_) (fun q264 => ?_)
        · skip
          refine y_iload rfl rfl ?_
          refine y_push rfl ?_
          refine y_icne rfl (fun q282 => ?_) (fun q282 => ?_)
          · skip
            refine y_iload rfl rfl ?_
            refine y_iload rfl rfl ?_
            refine y_icge rfl (fun q293 => ?_) (fun q293 => ?_)
            · skip
              refine y_push rfl ?_
              refine y_iret rfl rfl ⟨_, rfl, ?_⟩
              exact hk _ (by unfold ransw; (repeat' split) <;> omega)
            · skip
              refine y_iload rfl rfl ?_
              refine y_iload rfl rfl ?_
              refine y_idiv (v := (r.2 / 9)) rfl rfl (by omega) ?_
              refine y_iload rfl rfl ?_
              refine y_irem (v := ((r.2 / 9) % 3)) rfl rfl (by omega) ?_
              refine y_goto rfl ?_
              refine y_iret rfl rfl ⟨_, rfl, ?_⟩
              exact hk _ (by unfold ransw; (repeat' split) <;> omega)
          · skip
            refine y_iload rfl rfl ?_
            refine y_goto rfl ?_
            refine y_iret rfl rfl ⟨_, rfl, ?_⟩
            exact hk _ (by unfold ransw; (repeat' split) <;> omega)
        · skip
          refine y_iload rfl rfl ?_
          refine y_iload rfl rfl ?_
          refine y_imul (v := 27) rfl rfl (by decide) ?_
          refine y_istore (L' := [some (2, 547), some (0, m), some (0, c), some (0, i), some (0, 3), some (0, 27), some (0, r.1), some (0, r.2), some (0, 27), some (0, 0), none, none, none, none, none]) rfl rfl rfl rfl ?_
          refine y_iinc (L' := [some (2, 547), some (0, m), some (0, c), some (0, i), some (0, 3), some (0, 27), some (0, r.1), some (0, r.2), some (0, 27), some (0, (-1)), none, none, none, none, none]) rfl rfl rfl rfl rfl (by decide) ?_
          refine y_goto rfl ?_
          refine y_iload rfl rfl ?_
          refine y_iload rfl rfl ?_
          refine y_icle rfl (fun q264 => ?_) (fun q264 => ?_)
          · skip
            refine y_iload rfl rfl ?_
            refine y_push rfl ?_
            refine y_icne rfl (fun q282 => ?_) (fun q282 => ?_)
            · skip
              refine y_iload rfl rfl ?_
              refine y_iload rfl rfl ?_
              refine y_icge rfl (fun q293 => ?_) (fun q293 => ?_)
              · skip
                refine y_push rfl ?_
                refine y_iret rfl rfl ⟨_, rfl, ?_⟩
                exact hk _ (by unfold ransw; (repeat' split) <;> omega)
              · skip
                refine y_iload rfl rfl ?_
                refine y_iload rfl rfl ?_
                refine y_idiv (v := (r.2 / 27)) rfl rfl (by omega) ?_
                refine y_iload rfl rfl ?_
                refine y_irem (v := ((r.2 / 27) % 3)) rfl rfl (by omega) ?_
                refine y_goto rfl ?_
                refine y_iret rfl rfl ⟨_, rfl, ?_⟩
                exact hk _ (by unfold ransw; (repeat' split) <;> omega)
            · skip
              refine y_iload rfl rfl ?_
              refine y_goto rfl ?_
              refine y_iret rfl rfl ⟨_, rfl, ?_⟩
              exact hk _ (by unfold ransw; (repeat' split) <;> omega)
          · exfalso; omega
  · exfalso; omega
theorem lm_fA3 {g : Launch × XG × va_G} {σ : YS} {τ : YS} {Z : YZ} {I : Int → YZ} {M : YS} {N : Int} {m c i : Int} {P0 : Int → YS → Prop} (hx : mW σ Z I M) (hg : wG Z I M N) (hN : N < 100000) (hm : (0 ≤ m ∧ m ≤ 60) ∧ (0 ≤ c ∧ c < Z 0 0 0) ∧ -1 ≤ i) (hw : Z 0 1 0 = 3) (h1 : mfs σ τ) (hk : ∀ b s, mfs σ s → b = ransw 3 (mfold (fun l => mch (Z 0) m.toNat (Z 1) l 0 c) (mlist 3) (-1, 0)) i → P0 b s) : YW g 93 82 [some (2, 547), some (0, m), some (0, c), some (0, i), some (0, 3), some (0, 27), some (0, (-1)), some (0, 0), some (0, 0), none, none, none, none, none, none] [] τ (fun rv σ' => ∃ b, rv = some (0, b) ∧ (P0 b σ')) := by
  refine lm_f3_0 (r := ((-1, 0) : Int × Int)) hx hg hN hm hw h1 (fun s0 f0 => ?_)
  refine lm_f3_1 (r := ((-1, 0) : Int × Int)) hx hg hN hm hw f0 (fun s1 f1 => ?_)
  refine lm_f3_2 (r := ((-1, 0) : Int × Int)) hx hg hN hm hw f1 (fun s2 f2 => ?_)
  refine lm_f3_3 (r := ((-1, 0) : Int × Int)) hx hg hN hm hw f2 (fun s3 f3 => ?_)
  refine lm_f3_4 (r := ((-1, 0) : Int × Int)) hx hg hN hm hw f3 (fun s4 f4 => ?_)
  refine lm_f3_5 (r := ((-1, 0) : Int × Int)) hx hg hN hm hw f4 (fun s5 f5 => ?_)
  refine lm_f3_6 (r := (mbx ((-1, 0) : Int × Int) ((mem1 (Z 0) m.toNat (mem1 (Z 0) m.toNat (mem1 (Z 0) m.toNat (Z 1) 0) 1) 2) 0 c) 5)) hx hg hN hm hw f5 (fun s6 f6 => ?_)
  refine lm_f3_7 (r := (mbx ((-1, 0) : Int × Int) ((mem1 (Z 0) m.toNat (mem1 (Z 0) m.toNat (mem1 (Z 0) m.toNat (Z 1) 0) 1) 2) 0 c) 5)) hx hg hN hm hw f6 (fun s7 f7 => ?_)
  refine lm_f3_8 (r := (mbx (mbx ((-1, 0) : Int × Int) ((mem1 (Z 0) m.toNat (mem1 (Z 0) m.toNat (mem1 (Z 0) m.toNat (Z 1) 0) 1) 2) 0 c) 5) ((mem1 (Z 0) m.toNat (mem1 (Z 0) m.toNat (mem1 (Z 0) m.toNat (Z 1) 0) 2) 1) 0 c) 7)) hx hg hN hm hw f7 (fun s8 f8 => ?_)
  refine lm_f3_9 (r := (mbx (mbx ((-1, 0) : Int × Int) ((mem1 (Z 0) m.toNat (mem1 (Z 0) m.toNat (mem1 (Z 0) m.toNat (Z 1) 0) 1) 2) 0 c) 5) ((mem1 (Z 0) m.toNat (mem1 (Z 0) m.toNat (mem1 (Z 0) m.toNat (Z 1) 0) 2) 1) 0 c) 7)) hx hg hN hm hw f8 (fun s9 f9 => ?_)
  refine lm_f3_10 (r := (mbx (mbx ((-1, 0) : Int × Int) ((mem1 (Z 0) m.toNat (mem1 (Z 0) m.toNat (mem1 (Z 0) m.toNat (Z 1) 0) 1) 2) 0 c) 5) ((mem1 (Z 0) m.toNat (mem1 (Z 0) m.toNat (mem1 (Z 0) m.toNat (Z 1) 0) 2) 1) 0 c) 7)) hx hg hN hm hw f9 (fun s10 f10 => ?_)
  refine lm_f3_11 (r := (mbx (mbx ((-1, 0) : Int × Int) ((mem1 (Z 0) m.toNat (mem1 (Z 0) m.toNat (mem1 (Z 0) m.toNat (Z 1) 0) 1) 2) 0 c) 5) ((mem1 (Z 0) m.toNat (mem1 (Z 0) m.toNat (mem1 (Z 0) m.toNat (Z 1) 0) 2) 1) 0 c) 7)) hx hg hN hm hw f10 (fun s11 f11 => ?_)
  refine lm_f3_12 (r := (mbx (mbx (mbx ((-1, 0) : Int × Int) ((mem1 (Z 0) m.toNat (mem1 (Z 0) m.toNat (mem1 (Z 0) m.toNat (Z 1) 0) 1) 2) 0 c) 5) ((mem1 (Z 0) m.toNat (mem1 (Z 0) m.toNat (mem1 (Z 0) m.toNat (Z 1) 0) 2) 1) 0 c) 7) ((mem1 (Z 0) m.toNat (mem1 (Z 0) m.toNat (mem1 (Z 0) m.toNat (Z 1) 1) 0) 2) 0 c) 11)) hx hg hN hm hw f11 (fun s12 f12 => ?_)
  refine lm_f3_13 (r := (mbx (mbx (mbx ((-1, 0) : Int × Int) ((mem1 (Z 0) m.toNat (mem1 (Z 0) m.toNat (mem1 (Z 0) m.toNat (Z 1) 0) 1) 2) 0 c) 5) ((mem1 (Z 0) m.toNat (mem1 (Z 0) m.toNat (mem1 (Z 0) m.toNat (Z 1) 0) 2) 1) 0 c) 7) ((mem1 (Z 0) m.toNat (mem1 (Z 0) m.toNat (mem1 (Z 0) m.toNat (Z 1) 1) 0) 2) 0 c) 11)) hx hg hN hm hw f12 (fun s13 f13 => ?_)
  refine lm_f3_14 (r := (mbx (mbx (mbx ((-1, 0) : Int × Int) ((mem1 (Z 0) m.toNat (mem1 (Z 0) m.toNat (mem1 (Z 0) m.toNat (Z 1) 0) 1) 2) 0 c) 5) ((mem1 (Z 0) m.toNat (mem1 (Z 0) m.toNat (mem1 (Z 0) m.toNat (Z 1) 0) 2) 1) 0 c) 7) ((mem1 (Z 0) m.toNat (mem1 (Z 0) m.toNat (mem1 (Z 0) m.toNat (Z 1) 1) 0) 2) 0 c) 11)) hx hg hN hm hw f13 (fun s14 f14 => ?_)
  refine lm_f3_15 (r := (mbx (mbx (mbx ((-1, 0) : Int × Int) ((mem1 (Z 0) m.toNat (mem1 (Z 0) m.toNat (mem1 (Z 0) m.toNat (Z 1) 0) 1) 2) 0 c) 5) ((mem1 (Z 0) m.toNat (mem1 (Z 0) m.toNat (mem1 (Z 0) m.toNat (Z 1) 0) 2) 1) 0 c) 7) ((mem1 (Z 0) m.toNat (mem1 (Z 0) m.toNat (mem1 (Z 0) m.toNat (Z 1) 1) 0) 2) 0 c) 11)) hx hg hN hm hw f14 (fun s15 f15 => ?_)
  refine lm_f3_16 (r := (mbx (mbx (mbx (mbx ((-1, 0) : Int × Int) ((mem1 (Z 0) m.toNat (mem1 (Z 0) m.toNat (mem1 (Z 0) m.toNat (Z 1) 0) 1) 2) 0 c) 5) ((mem1 (Z 0) m.toNat (mem1 (Z 0) m.toNat (mem1 (Z 0) m.toNat (Z 1) 0) 2) 1) 0 c) 7) ((mem1 (Z 0) m.toNat (mem1 (Z 0) m.toNat (mem1 (Z 0) m.toNat (Z 1) 1) 0) 2) 0 c) 11) ((mem1 (Z 0) m.toNat (mem1 (Z 0) m.toNat (mem1 (Z 0) m.toNat (Z 1) 1) 2) 0) 0 c) 15)) hx hg hN hm hw f15 (fun s16 f16 => ?_)
  refine lm_f3_17 (r := (mbx (mbx (mbx (mbx ((-1, 0) : Int × Int) ((mem1 (Z 0) m.toNat (mem1 (Z 0) m.toNat (mem1 (Z 0) m.toNat (Z 1) 0) 1) 2) 0 c) 5) ((mem1 (Z 0) m.toNat (mem1 (Z 0) m.toNat (mem1 (Z 0) m.toNat (Z 1) 0) 2) 1) 0 c) 7) ((mem1 (Z 0) m.toNat (mem1 (Z 0) m.toNat (mem1 (Z 0) m.toNat (Z 1) 1) 0) 2) 0 c) 11) ((mem1 (Z 0) m.toNat (mem1 (Z 0) m.toNat (mem1 (Z 0) m.toNat (Z 1) 1) 2) 0) 0 c) 15)) hx hg hN hm hw f16 (fun s17 f17 => ?_)
  refine lm_f3_18 (r := (mbx (mbx (mbx (mbx ((-1, 0) : Int × Int) ((mem1 (Z 0) m.toNat (mem1 (Z 0) m.toNat (mem1 (Z 0) m.toNat (Z 1) 0) 1) 2) 0 c) 5) ((mem1 (Z 0) m.toNat (mem1 (Z 0) m.toNat (mem1 (Z 0) m.toNat (Z 1) 0) 2) 1) 0 c) 7) ((mem1 (Z 0) m.toNat (mem1 (Z 0) m.toNat (mem1 (Z 0) m.toNat (Z 1) 1) 0) 2) 0 c) 11) ((mem1 (Z 0) m.toNat (mem1 (Z 0) m.toNat (mem1 (Z 0) m.toNat (Z 1) 1) 2) 0) 0 c) 15)) hx hg hN hm hw f17 (fun s18 f18 => ?_)
  refine lm_f3_19 (r := (mbx (mbx (mbx (mbx ((-1, 0) : Int × Int) ((mem1 (Z 0) m.toNat (mem1 (Z 0) m.toNat (mem1 (Z 0) m.toNat (Z 1) 0) 1) 2) 0 c) 5) ((mem1 (Z 0) m.toNat (mem1 (Z 0) m.toNat (mem1 (Z 0) m.toNat (Z 1) 0) 2) 1) 0 c) 7) ((mem1 (Z 0) m.toNat (mem1 (Z 0) m.toNat (mem1 (Z 0) m.toNat (Z 1) 1) 0) 2) 0 c) 11) ((mem1 (Z 0) m.toNat (mem1 (Z 0) m.toNat (mem1 (Z 0) m.toNat (Z 1) 1) 2) 0) 0 c) 15)) hx hg hN hm hw f18 (fun s19 f19 => ?_)
  refine lm_f3_20 (r := (mbx (mbx (mbx (mbx (mbx ((-1, 0) : Int × Int) ((mem1 (Z 0) m.toNat (mem1 (Z 0) m.toNat (mem1 (Z 0) m.toNat (Z 1) 0) 1) 2) 0 c) 5) ((mem1 (Z 0) m.toNat (mem1 (Z 0) m.toNat (mem1 (Z 0) m.toNat (Z 1) 0) 2) 1) 0 c) 7) ((mem1 (Z 0) m.toNat (mem1 (Z 0) m.toNat (mem1 (Z 0) m.toNat (Z 1) 1) 0) 2) 0 c) 11) ((mem1 (Z 0) m.toNat (mem1 (Z 0) m.toNat (mem1 (Z 0) m.toNat (Z 1) 1) 2) 0) 0 c) 15) ((mem1 (Z 0) m.toNat (mem1 (Z 0) m.toNat (mem1 (Z 0) m.toNat (Z 1) 2) 0) 1) 0 c) 19)) hx hg hN hm hw f19 (fun s20 f20 => ?_)
  refine lm_f3_21 (r := (mbx (mbx (mbx (mbx (mbx ((-1, 0) : Int × Int) ((mem1 (Z 0) m.toNat (mem1 (Z 0) m.toNat (mem1 (Z 0) m.toNat (Z 1) 0) 1) 2) 0 c) 5) ((mem1 (Z 0) m.toNat (mem1 (Z 0) m.toNat (mem1 (Z 0) m.toNat (Z 1) 0) 2) 1) 0 c) 7) ((mem1 (Z 0) m.toNat (mem1 (Z 0) m.toNat (mem1 (Z 0) m.toNat (Z 1) 1) 0) 2) 0 c) 11) ((mem1 (Z 0) m.toNat (mem1 (Z 0) m.toNat (mem1 (Z 0) m.toNat (Z 1) 1) 2) 0) 0 c) 15) ((mem1 (Z 0) m.toNat (mem1 (Z 0) m.toNat (mem1 (Z 0) m.toNat (Z 1) 2) 0) 1) 0 c) 19)) hx hg hN hm hw f20 (fun s21 f21 => ?_)
  refine lm_f3_22 (r := (mbx (mbx (mbx (mbx (mbx (mbx ((-1, 0) : Int × Int) ((mem1 (Z 0) m.toNat (mem1 (Z 0) m.toNat (mem1 (Z 0) m.toNat (Z 1) 0) 1) 2) 0 c) 5) ((mem1 (Z 0) m.toNat (mem1 (Z 0) m.toNat (mem1 (Z 0) m.toNat (Z 1) 0) 2) 1) 0 c) 7) ((mem1 (Z 0) m.toNat (mem1 (Z 0) m.toNat (mem1 (Z 0) m.toNat (Z 1) 1) 0) 2) 0 c) 11) ((mem1 (Z 0) m.toNat (mem1 (Z 0) m.toNat (mem1 (Z 0) m.toNat (Z 1) 1) 2) 0) 0 c) 15) ((mem1 (Z 0) m.toNat (mem1 (Z 0) m.toNat (mem1 (Z 0) m.toNat (Z 1) 2) 0) 1) 0 c) 19) ((mem1 (Z 0) m.toNat (mem1 (Z 0) m.toNat (mem1 (Z 0) m.toNat (Z 1) 2) 1) 0) 0 c) 21)) hx hg hN hm hw f21 (fun s22 f22 => ?_)
  refine lm_f3_23 (r := (mbx (mbx (mbx (mbx (mbx (mbx ((-1, 0) : Int × Int) ((mem1 (Z 0) m.toNat (mem1 (Z 0) m.toNat (mem1 (Z 0) m.toNat (Z 1) 0) 1) 2) 0 c) 5) ((mem1 (Z 0) m.toNat (mem1 (Z 0) m.toNat (mem1 (Z 0) m.toNat (Z 1) 0) 2) 1) 0 c) 7) ((mem1 (Z 0) m.toNat (mem1 (Z 0) m.toNat (mem1 (Z 0) m.toNat (Z 1) 1) 0) 2) 0 c) 11) ((mem1 (Z 0) m.toNat (mem1 (Z 0) m.toNat (mem1 (Z 0) m.toNat (Z 1) 1) 2) 0) 0 c) 15) ((mem1 (Z 0) m.toNat (mem1 (Z 0) m.toNat (mem1 (Z 0) m.toNat (Z 1) 2) 0) 1) 0 c) 19) ((mem1 (Z 0) m.toNat (mem1 (Z 0) m.toNat (mem1 (Z 0) m.toNat (Z 1) 2) 1) 0) 0 c) 21)) hx hg hN hm hw f22 (fun s23 f23 => ?_)
  refine lm_f3_24 (r := (mbx (mbx (mbx (mbx (mbx (mbx ((-1, 0) : Int × Int) ((mem1 (Z 0) m.toNat (mem1 (Z 0) m.toNat (mem1 (Z 0) m.toNat (Z 1) 0) 1) 2) 0 c) 5) ((mem1 (Z 0) m.toNat (mem1 (Z 0) m.toNat (mem1 (Z 0) m.toNat (Z 1) 0) 2) 1) 0 c) 7) ((mem1 (Z 0) m.toNat (mem1 (Z 0) m.toNat (mem1 (Z 0) m.toNat (Z 1) 1) 0) 2) 0 c) 11) ((mem1 (Z 0) m.toNat (mem1 (Z 0) m.toNat (mem1 (Z 0) m.toNat (Z 1) 1) 2) 0) 0 c) 15) ((mem1 (Z 0) m.toNat (mem1 (Z 0) m.toNat (mem1 (Z 0) m.toNat (Z 1) 2) 0) 1) 0 c) 19) ((mem1 (Z 0) m.toNat (mem1 (Z 0) m.toNat (mem1 (Z 0) m.toNat (Z 1) 2) 1) 0) 0 c) 21)) hx hg hN hm hw f23 (fun s24 f24 => ?_)
  refine lm_f3_25 (r := (mbx (mbx (mbx (mbx (mbx (mbx ((-1, 0) : Int × Int) ((mem1 (Z 0) m.toNat (mem1 (Z 0) m.toNat (mem1 (Z 0) m.toNat (Z 1) 0) 1) 2) 0 c) 5) ((mem1 (Z 0) m.toNat (mem1 (Z 0) m.toNat (mem1 (Z 0) m.toNat (Z 1) 0) 2) 1) 0 c) 7) ((mem1 (Z 0) m.toNat (mem1 (Z 0) m.toNat (mem1 (Z 0) m.toNat (Z 1) 1) 0) 2) 0 c) 11) ((mem1 (Z 0) m.toNat (mem1 (Z 0) m.toNat (mem1 (Z 0) m.toNat (Z 1) 1) 2) 0) 0 c) 15) ((mem1 (Z 0) m.toNat (mem1 (Z 0) m.toNat (mem1 (Z 0) m.toNat (Z 1) 2) 0) 1) 0 c) 19) ((mem1 (Z 0) m.toNat (mem1 (Z 0) m.toNat (mem1 (Z 0) m.toNat (Z 1) 2) 1) 0) 0 c) 21)) hx hg hN hm hw f24 (fun s25 f25 => ?_)
  refine lm_f3_26 (r := (mbx (mbx (mbx (mbx (mbx (mbx ((-1, 0) : Int × Int) ((mem1 (Z 0) m.toNat (mem1 (Z 0) m.toNat (mem1 (Z 0) m.toNat (Z 1) 0) 1) 2) 0 c) 5) ((mem1 (Z 0) m.toNat (mem1 (Z 0) m.toNat (mem1 (Z 0) m.toNat (Z 1) 0) 2) 1) 0 c) 7) ((mem1 (Z 0) m.toNat (mem1 (Z 0) m.toNat (mem1 (Z 0) m.toNat (Z 1) 1) 0) 2) 0 c) 11) ((mem1 (Z 0) m.toNat (mem1 (Z 0) m.toNat (mem1 (Z 0) m.toNat (Z 1) 1) 2) 0) 0 c) 15) ((mem1 (Z 0) m.toNat (mem1 (Z 0) m.toNat (mem1 (Z 0) m.toNat (Z 1) 2) 0) 1) 0 c) 19) ((mem1 (Z 0) m.toNat (mem1 (Z 0) m.toNat (mem1 (Z 0) m.toNat (Z 1) 2) 1) 0) 0 c) 21)) hx hg hN hm hw f25 (fun s26 f26 => ?_)
  exact lm_fE3 (r := (mbx (mbx (mbx (mbx (mbx (mbx ((-1, 0) : Int × Int) ((mem1 (Z 0) m.toNat (mem1 (Z 0) m.toNat (mem1 (Z 0) m.toNat (Z 1) 0) 1) 2) 0 c) 5) ((mem1 (Z 0) m.toNat (mem1 (Z 0) m.toNat (mem1 (Z 0) m.toNat (Z 1) 0) 2) 1) 0 c) 7) ((mem1 (Z 0) m.toNat (mem1 (Z 0) m.toNat (mem1 (Z 0) m.toNat (Z 1) 1) 0) 2) 0 c) 11) ((mem1 (Z 0) m.toNat (mem1 (Z 0) m.toNat (mem1 (Z 0) m.toNat (Z 1) 1) 2) 0) 0 c) 15) ((mem1 (Z 0) m.toNat (mem1 (Z 0) m.toNat (mem1 (Z 0) m.toNat (Z 1) 2) 0) 1) 0 c) 19) ((mem1 (Z 0) m.toNat (mem1 (Z 0) m.toNat (mem1 (Z 0) m.toNat (Z 1) 2) 1) 0) 0 c) 21)) hx hg hN hm (mbx_0 (mbx_0 (mbx_0 (mbx_0 (mbx_0 (mbx_0 (by decide) (by decide)) (by decide)) (by decide)) (by decide)) (by decide)) (by decide)) (fun b hb => hk b _ f26 hb)
theorem m_emptiedF {g : Launch × XG × va_G} {σ : YS} {Z : YZ} {I : Int → YZ} {M : YS} {N : Int} {m c i : Int} (hx : mW σ Z I M) (hg : wG Z I M N) (hN : N < 100000) : YI g 93 [(2, 547), (0, m), (0, c), (0, i)] σ (fun b σ' => (if (0 ≤ m ∧ m ≤ 60) ∧ (0 ≤ c ∧ c < Z 0 0 0) ∧ -1 ≤ i then b = kemM Z m c i ∧ mW σ' Z I M else b = -10 ∧ mW σ' Z I (bump M 0)) ∧ cfr σ σ') := by
  refine y_start rfl rfl rfl ?_
  have ⟨⟨hz, hu, hur⟩, x2, x3, ⟨x4, x5⟩, x6, x7⟩ := hx
  have ⟨⟨he, hd, hn, hu2, h67, hk⟩, g2, g3, g4⟩ := hg
  have ⟨⟨f1, f2, f3⟩, f5, f6, f7, f8⟩ := hz
  have ⟨e1, e2, e3⟩ := he
  have x60 : σ 551 0 = M 3 0 := x6 0 (by omega) (by omega)
  have x61 : σ 551 1 = M 3 1 := x6 1 (by omega) (by omega)
  have x62 : σ 551 2 = M 3 2 := x6 2 (by omega) (by omega)
  have g40 := g4 0 (by omega) (by omega)
  have g41 := g4 1 (by omega) (by omega)
  have g42 := g4 2 (by omega) (by omega)
  have hu : σ 548 106 = Z 2 0 0 := hu
  have f1 : σ 548 (0 + 0) = Z 0 0 0 := f1
  have f10 : σ 548 0 = Z 0 0 0 := f1
  have f2 : σ 548 (0 + 10) = Z 0 1 0 := f2
  have f20 : σ 548 10 = Z 0 1 0 := f2
  have f30 : σ 548 105 = Z 1 5 0 := f3
  refine y_iload rfl rfl ?_
  refine y_i2l rfl ?_
  refine y_lconst (v := 0) rfl rfl ?_
  refine y_ldc2 (v := 60) rfl rfl ?_
  refine y_si (as := [(1, m), (1, 0), (1, 60)]) (S := []) rfl rfl rfl rfl rfl rfl m_lies ?_
  rintro _ _ ⟨rfl, rfl⟩
  refine y_ifeq rfl (fun q9 => ?_) (fun q9 => ?_)
  · skip
    replace q9 := yb_0.mp q9
    refine y_aload rfl rfl rfl ?_
    refine y_vi (as := [(2, 547)]) (S := []) rfl rfl rfl rfl rfl rfl (by decide) rfl (m_badElse (by omega)) ?_
    rintro _ _ ⟨rfl, rfl⟩
    refine y_iret rfl rfl ⟨_, rfl, ?_⟩
    exact ⟨by rw [if_neg (by omega)]; exact ⟨rfl, mW_bump hg hx (by omega) rfl⟩, cfr_s (cfr_0 _) (by omega)⟩
  · skip
    replace q9 := yb_1.mp q9
    refine y_aload rfl rfl rfl ?_
    refine y_push rfl ?_
    refine y_iload rfl rfl ?_
    refine y_vi (as := [(2, 547), (0, 0), (0, c)]) (S := []) rfl rfl rfl rfl rfl rfl (by decide) rfl (m_isCell (r := 0) (Or.inl rfl) f1 (by omega)) ?_
    rintro _ _ ⟨rfl, rfl⟩
    refine y_ifeq rfl (fun q18 => ?_) (fun q18 => ?_)
    · skip
      replace q18 := yb_0.mp q18
      refine y_aload rfl rfl rfl ?_
      refine y_vi (as := [(2, 547)]) (S := []) rfl rfl rfl rfl rfl rfl (by decide) rfl (m_badElse (by omega)) ?_
      rintro _ _ ⟨rfl, rfl⟩
      refine y_iret rfl rfl ⟨_, rfl, ?_⟩
      exact ⟨by rw [if_neg (by omega)]; exact ⟨rfl, mW_bump hg hx (by omega) rfl⟩, cfr_s (cfr_0 _) (by omega)⟩
    · skip
      replace q18 := yb_1.mp q18
      refine y_iload rfl rfl ?_
      refine y_push rfl ?_
      refine y_icge rfl (fun q23 => ?_) (fun q23 => ?_)
      · skip
        refine y_aload rfl rfl rfl ?_
        refine y_gfr (t := 548) rfl rfl (by decide) rfl (by decide) ?_
        refine y_push rfl ?_
        refine y_iald (v := (σ 548 10)) (n := 2108) rfl rfl (by decide) rfl (by decide) rfl ?_
        refine y_istore (L' := [some (2, 547), some (0, m), some (0, c), some (0, i), some (0, (σ 548 10)), none, none, none, none, none, none, none, none, none, none]) rfl rfl rfl rfl ?_
        refine y_iload rfl rfl ?_
        refine y_ifne rfl (fun q42 => ?_) (fun q42 => ?_)
        · skip
          refine y_iload rfl rfl ?_
          refine y_push rfl ?_
          refine y_icne rfl (fun q52 => ?_) (fun q52 => ?_)
          · skip
            refine y_iload rfl rfl ?_
            refine y_push rfl ?_
            refine y_icne rfl (fun q62 => ?_) (fun q62 => ?_)
            · skip
              refine y_push rfl ?_
              refine y_istore (L' := [some (2, 547), some (0, m), some (0, c), some (0, i), some (0, (σ 548 10)), some (0, 27), none, none, none, none, none, none, none, none, none]) rfl rfl rfl rfl ?_
              refine y_push rfl ?_
              refine y_istore (L' := [some (2, 547), some (0, m), some (0, c), some (0, i), some (0, (σ 548 10)), some (0, 27), some (0, (-1)), none, none, none, none, none, none, none, none]) rfl rfl rfl rfl ?_
              refine y_push rfl ?_
              refine y_istore (L' := [some (2, 547), some (0, m), some (0, c), some (0, i), some (0, (σ 548 10)), some (0, 27), some (0, (-1)), some (0, 0), none, none, none, none, none, none, none]) rfl rfl rfl rfl ?_
              refine y_push rfl ?_
              refine y_istore (L' := [some (2, 547), some (0, m), some (0, c), some (0, i), some (0, (σ 548 10)), some (0, 27), some (0, (-1)), some (0, 0), some (0, 0), none, none, none, none, none, none]) rfl rfl rfl rfl ?_
              first
                | (rw [show σ 548 10 = 3 by omega]; exact lm_fA3 hx hg hN (by omega) (by omega) (mfs_0 _) (fun b s f hb => ⟨by rw [if_pos (by omega)]; exact ⟨by unfold kemM; rw [show Z 0 1 0 = 3 by omega]; exact hb, mW_mfs hg hx f⟩, fun x y a => f x y (by omega)⟩))
            · skip
              refine y_push rfl ?_
              refine y_goto rfl ?_
              refine y_istore (L' := [some (2, 547), some (0, m), some (0, c), some (0, i), some (0, (σ 548 10)), some (0, 4), none, none, none, none, none, none, none, none, none]) rfl rfl rfl rfl ?_
              refine y_push rfl ?_
              refine y_istore (L' := [some (2, 547), some (0, m), some (0, c), some (0, i), some (0, (σ 548 10)), some (0, 4), some (0, (-1)), none, none, none, none, none, none, none, none]) rfl rfl rfl rfl ?_
              refine y_push rfl ?_
              refine y_istore (L' := [some (2, 547), some (0, m), some (0, c), some (0, i), some (0, (σ 548 10)), some (0, 4), some (0, (-1)), some (0, 0), none, none, none, none, none, none, none]) rfl rfl rfl rfl ?_
              refine y_push rfl ?_
              refine y_istore (L' := [some (2, 547), some (0, m), some (0, c), some (0, i), some (0, (σ 548 10)), some (0, 4), some (0, (-1)), some (0, 0), some (0, 0), none, none, none, none, none, none]) rfl rfl rfl rfl ?_
              first
                | (rw [show σ 548 10 = 2 by omega]; exact lm_fA2 hx hg hN (by omega) (by omega) (mfs_0 _) (fun b s f hb => ⟨by rw [if_pos (by omega)]; exact ⟨by unfold kemM; rw [show Z 0 1 0 = 2 by omega]; exact hb, mW_mfs hg hx f⟩, fun x y a => f x y (by omega)⟩))
          · skip
            refine y_push rfl ?_
            refine y_goto rfl ?_
            refine y_istore (L' := [some (2, 547), some (0, m), some (0, c), some (0, i), some (0, (σ 548 10)), some (0, 1), none, none, none, none, none, none, none, none, none]) rfl rfl rfl rfl ?_
            refine y_push rfl ?_
            refine y_istore (L' := [some (2, 547), some (0, m), some (0, c), some (0, i), some (0, (σ 548 10)), some (0, 1), some (0, (-1)), none, none, none, none, none, none, none, none]) rfl rfl rfl rfl ?_
            refine y_push rfl ?_
            refine y_istore (L' := [some (2, 547), some (0, m), some (0, c), some (0, i), some (0, (σ 548 10)), some (0, 1), some (0, (-1)), some (0, 0), none, none, none, none, none, none, none]) rfl rfl rfl rfl ?_
            refine y_push rfl ?_
            refine y_istore (L' := [some (2, 547), some (0, m), some (0, c), some (0, i), some (0, (σ 548 10)), some (0, 1), some (0, (-1)), some (0, 0), some (0, 0), none, none, none, none, none, none]) rfl rfl rfl rfl ?_
            first
              | (rw [show σ 548 10 = 0 by omega]; exact lm_fA0 hx hg hN (by omega) (by omega) (mfs_0 _) (fun b s f hb => ⟨by rw [if_pos (by omega)]; exact ⟨by unfold kemM; rw [show Z 0 1 0 = 0 by omega]; exact hb, mW_mfs hg hx f⟩, fun x y a => f x y (by omega)⟩))
              | (rw [show σ 548 10 = 1 by omega]; exact lm_fA1 hx hg hN (by omega) (by omega) (mfs_0 _) (fun b s f hb => ⟨by rw [if_pos (by omega)]; exact ⟨by unfold kemM; rw [show Z 0 1 0 = 1 by omega]; exact hb, mW_mfs hg hx f⟩, fun x y a => f x y (by omega)⟩))
        · skip
          refine y_push rfl ?_
          refine y_goto rfl ?_
          refine y_istore (L' := [some (2, 547), some (0, m), some (0, c), some (0, i), some (0, (σ 548 10)), some (0, 1), none, none, none, none, none, none, none, none, none]) rfl rfl rfl rfl ?_
          refine y_push rfl ?_
          refine y_istore (L' := [some (2, 547), some (0, m), some (0, c), some (0, i), some (0, (σ 548 10)), some (0, 1), some (0, (-1)), none, none, none, none, none, none, none, none]) rfl rfl rfl rfl ?_
          refine y_push rfl ?_
          refine y_istore (L' := [some (2, 547), some (0, m), some (0, c), some (0, i), some (0, (σ 548 10)), some (0, 1), some (0, (-1)), some (0, 0), none, none, none, none, none, none, none]) rfl rfl rfl rfl ?_
          refine y_push rfl ?_
          refine y_istore (L' := [some (2, 547), some (0, m), some (0, c), some (0, i), some (0, (σ 548 10)), some (0, 1), some (0, (-1)), some (0, 0), some (0, 0), none, none, none, none, none, none]) rfl rfl rfl rfl ?_
          first
            | (rw [show σ 548 10 = 0 by omega]; exact lm_fA0 hx hg hN (by omega) (by omega) (mfs_0 _) (fun b s f hb => ⟨by rw [if_pos (by omega)]; exact ⟨by unfold kemM; rw [show Z 0 1 0 = 0 by omega]; exact hb, mW_mfs hg hx f⟩, fun x y a => f x y (by omega)⟩))
            | (rw [show σ 548 10 = 1 by omega]; exact lm_fA1 hx hg hN (by omega) (by omega) (mfs_0 _) (fun b s f hb => ⟨by rw [if_pos (by omega)]; exact ⟨by unfold kemM; rw [show Z 0 1 0 = 1 by omega]; exact hb, mW_mfs hg hx f⟩, fun x y a => f x y (by omega)⟩))
      · skip
        refine y_aload rfl rfl rfl ?_
        refine y_vi (as := [(2, 547)]) (S := []) rfl rfl rfl rfl rfl rfl (by decide) rfl (m_badElse (by omega)) ?_
        rintro _ _ ⟨rfl, rfl⟩
        refine y_iret rfl rfl ⟨_, rfl, ?_⟩
        exact ⟨by rw [if_neg (by omega)]; exact ⟨rfl, mW_bump hg hx (by omega) rfl⟩, cfr_s (cfr_0 _) (by omega)⟩

