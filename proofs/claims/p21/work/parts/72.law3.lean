theorem wG_same {Z : YZ} {I : Int → YZ} {M : YS} {N : Int} {K : YK} (h : K.2 = (Z, M) ∨ ∃ j : Int, (0 ≤ j ∧ j < 3) ∧ K.2 = (Z, bump M j)) (hg : wG Z I M N) : wG K.2.1 I K.2.2 (N + 1) := by
  rcases h with z | ⟨j, hj, z⟩
  · rw [z]; exact wG_N hg (by omega)
  · rw [z]; exact wG_bump hg hj
theorem ksaid_2 {Z : YZ} {M : YS} {m q : Int} : (ksaid Z M m q).2 = (Z, M) ∨ ∃ j : Int, (0 ≤ j ∧ j < 3) ∧ (ksaid Z M m q).2 = (Z, bump M j) := by
  unfold ksaid
  split
  · exact Or.inl rfl
  · exact Or.inr ⟨0, by decide, rfl⟩
theorem shans_one {E D : YS} {m c v i b b' : Int} (h : shans E D m c v i b) (h' : shans E D m c v i b') : b = b' := by
  rcases h with ⟨n, k, h1, h2, h3, h4, h5, h6⟩ | ⟨h1, h2⟩ <;> rcases h' with ⟨n', k', g1, g2, g3, g4, g5, g6⟩ | ⟨g1, g2⟩
  · rcases (by omega : n < n' ∨ n = n' ∨ n' < n) with z | z | z
    · exact absurd h3 (g5 n h1.1 z k h2.1 h2.2)
    · subst z
      rcases (by omega : k < k' ∨ k = k' ∨ k' < k) with y | y | y
      · exact absurd h3 (g4 k h2.1 y)
      · subst y; rw [h6, g6]
      · exact absurd g3 (h4 k' g2.1 y)
    · exact absurd g3 (h5 n' g1.1 z k' g2.1 g2.2)
  · exact absurd h3 (g1 n h1.1 h1.2 k h2.1 h2.2)
  · exact absurd g3 (h1 n' g1.1 g1.2 k' g2.1 g2.2)
  · rw [h2, g2]
theorem wG_type {Z : YZ} {I : Int → YZ} {M : YS} {N v n : Int} (hg : wG Z I M N) : wG (ktype Z M v n).2.1 I (ktype Z M v n).2.2 (N + 1) := by
  unfold ktype
  split
  · exact wG_bump hg (by omega)
  split
  · exact wG_bump hg (by omega)
  · rename_i h1 h2
    have g := wG_N hg (show N ≤ N + 1 by omega)
    obtain ⟨g1, g2, ⟨g3, g4, g5⟩, g6⟩ := g
    have m0 : ∀ j, mtype M v n 0 j = M 0 j := fun j => by unfold mtype; rw [if_neg (by omega), if_neg (by omega)]
    have m3 : ∀ j, mtype M v n 3 j = M 3 j := fun j => by unfold mtype; rw [if_neg (by omega), if_neg (by omega)]
    have m2 : mtype M v n 2 0 = M 2 0 + n := by unfold mtype; rw [if_neg (by omega), if_pos (by omega)]
    refine ⟨g1, fun j a b => ?_, ⟨?_, ?_, fun k a b => ?_⟩, fun j a b => ?_⟩
    · show (mtype M v n 0 j = 0 ∨ mtype M v n 0 j = 1) ∧ (mtype M v n 0 j = 1 → _)
      rw [m0]; exact g2 j a b
    · show 0 ≤ mtype M v n 2 0
      rw [m2]; omega
    · show mtype M v n 2 0 ≤ 200
      rw [m2]; omega
    · have b : k < mtype M v n 2 0 := b
      rw [m2] at b
      show 0 ≤ mtype M v n 1 k ∧ mtype M v n 1 k ≤ 255
      unfold mtype
      by_cases c : (1 : Int) = 1 ∧ M 2 0 ≤ k ∧ k < M 2 0 + n
      · rw [if_pos c]; exact ybyte_r _ _
      · rw [if_neg c, if_neg (by omega)]; exact g5 k a (by omega)
    · show 0 ≤ mtype M v n 3 j ∧ _
      rw [m3]; exact g6 j a b
theorem w_street {g : Launch × XG × va_G} {σ : YS} {Z : YZ} {I : Int → YZ} {M : YS} {N i : Int} {P : Option YV → YS → Prop} (hx : xW σ Z I M) (hm : mW σ Z I M) (hg : wG Z I M N) (hN : N < 100) (hi : 0 ≤ i ∧ i + 5 ≤ g.2.1.2.2 5) (hL5 : g.2.1.2.2 5 ≤ 320) (hk : ∀ σ' Z' I' M', wG Z' I' M' (N + 1) → xW σ' Z' I' M' → mW σ' Z' I' M' → LV g 0 934 [some (3, 0), some (2, 0), some (2, 547), some (0, i)] [] σ' P) : LV g 0 160 [some (3, 0), some (2, 0), some (2, 547), some (0, i)] [] σ P := by
  refine lq_aload rfl rfl rfl ?_
  refine lq_aload rfl rfl rfl ?_
  refine lq_iload rfl rfl ?_
  refine lq_push rfl ?_
  refine lq_iadd (v := (i + 1)) rfl rfl (by omega) ?_
  refine lq_iald0 rfl (by omega) ?_
  refine lq_vi (as := [(2, 0), (0, (g.2.1.2.2 (6 + ((i + 1)).toNat)))]) (S := []) rfl rfl rfl rfl rfl rfl (by decide) rfl (c_street hx hg (by omega)) ?_
  rintro b_ s1 ⟨h1, h2, h3⟩
  have hm1 := mW_class hg hm h3
  refine lq_pop rfl rfl ?_
  refine lq_aload rfl rfl rfl ?_
  refine lq_aload rfl rfl rfl ?_
  refine lq_iload rfl rfl ?_
  refine lq_push rfl ?_
  refine lq_iadd (v := (i + 1)) rfl rfl (by omega) ?_
  refine lq_iald0 rfl (by omega) ?_
  refine lq_vi (as := [(2, 547), (0, (g.2.1.2.2 (6 + ((i + 1)).toNat)))]) (S := []) rfl rfl rfl rfl rfl rfl (by decide) rfl (m_street hm1 hg (by omega)) ?_
  rintro c_ s2 ⟨k1, k2, k3⟩
  refine lq_pop rfl rfl ?_
  refine lq_goto rfl ?_
  have w_ := wG_street (n := (g.2.1.2.2 (6 + ((i + 1)).toNat))) hg
  exact hk s2 _ _ _ w_ (xW_model w_ h2 k3) k2
theorem w_water {g : Launch × XG × va_G} {σ : YS} {Z : YZ} {I : Int → YZ} {M : YS} {N i : Int} {P : Option YV → YS → Prop} (hx : xW σ Z I M) (hm : mW σ Z I M) (hg : wG Z I M N) (hN : N < 100) (hi : 0 ≤ i ∧ i + 5 ≤ g.2.1.2.2 5) (hL5 : g.2.1.2.2 5 ≤ 320) (hk : ∀ σ' Z' I' M', wG Z' I' M' (N + 1) → xW σ' Z' I' M' → mW σ' Z' I' M' → LV g 0 934 [some (3, 0), some (2, 0), some (2, 547), some (0, i)] [] σ' P) : LV g 0 183 [some (3, 0), some (2, 0), some (2, 547), some (0, i)] [] σ P := by
  refine lq_aload rfl rfl rfl ?_
  refine lq_aload rfl rfl rfl ?_
  refine lq_iload rfl rfl ?_
  refine lq_push rfl ?_
  refine lq_iadd (v := (i + 1)) rfl rfl (by omega) ?_
  refine lq_iald0 rfl (by omega) ?_
  refine lq_aload rfl rfl rfl ?_
  refine lq_iload rfl rfl ?_
  refine lq_push rfl ?_
  refine lq_iadd (v := (i + 2)) rfl rfl (by omega) ?_
  refine lq_iald0 rfl (by omega) ?_
  refine lq_vi (as := [(2, 0), (0, (g.2.1.2.2 (6 + ((i + 1)).toNat))), (0, (g.2.1.2.2 (6 + ((i + 2)).toNat)))]) (S := []) rfl rfl rfl rfl rfl rfl (by decide) rfl (c_water hx hg (by omega)) ?_
  rintro b_ s1 ⟨h1, h2, h3⟩
  have hm1 := mW_class hg hm h3
  refine lq_pop rfl rfl ?_
  refine lq_aload rfl rfl rfl ?_
  refine lq_aload rfl rfl rfl ?_
  refine lq_iload rfl rfl ?_
  refine lq_push rfl ?_
  refine lq_iadd (v := (i + 1)) rfl rfl (by omega) ?_
  refine lq_iald0 rfl (by omega) ?_
  refine lq_aload rfl rfl rfl ?_
  refine lq_iload rfl rfl ?_
  refine lq_push rfl ?_
  refine lq_iadd (v := (i + 2)) rfl rfl (by omega) ?_
  refine lq_iald0 rfl (by omega) ?_
  refine lq_vi (as := [(2, 547), (0, (g.2.1.2.2 (6 + ((i + 1)).toNat))), (0, (g.2.1.2.2 (6 + ((i + 2)).toNat)))]) (S := []) rfl rfl rfl rfl rfl rfl (by decide) rfl (m_water hm1 hg (by omega)) ?_
  rintro c_ s2 ⟨k1, k2, k3⟩
  refine lq_pop rfl rfl ?_
  refine lq_goto rfl ?_
  have w_ := wG_water (c := (g.2.1.2.2 (6 + ((i + 1)).toNat))) (v := (g.2.1.2.2 (6 + ((i + 2)).toNat))) hg
  exact hk s2 _ _ _ w_ (xW_model w_ h2 k3) k2
theorem w_man {g : Launch × XG × va_G} {σ : YS} {Z : YZ} {I : Int → YZ} {M : YS} {N i : Int} {P : Option YV → YS → Prop} (hx : xW σ Z I M) (hm : mW σ Z I M) (hg : wG Z I M N) (hN : N < 100) (hi : 0 ≤ i ∧ i + 5 ≤ g.2.1.2.2 5) (hL5 : g.2.1.2.2 5 ≤ 320) (hk : ∀ σ' Z' I' M', wG Z' I' M' (N + 1) → xW σ' Z' I' M' → mW σ' Z' I' M' → LV g 0 934 [some (3, 0), some (2, 0), some (2, 547), some (0, i)] [] σ' P) : LV g 0 216 [some (3, 0), some (2, 0), some (2, 547), some (0, i)] [] σ P := by
  refine lq_aload rfl rfl rfl ?_
  refine lq_aload rfl rfl rfl ?_
  refine lq_iload rfl rfl ?_
  refine lq_push rfl ?_
  refine lq_iadd (v := (i + 1)) rfl rfl (by omega) ?_
  refine lq_iald0 rfl (by omega) ?_
  refine lq_aload rfl rfl rfl ?_
  refine lq_iload rfl rfl ?_
  refine lq_push rfl ?_
  refine lq_iadd (v := (i + 2)) rfl rfl (by omega) ?_
  refine lq_iald0 rfl (by omega) ?_
  refine lq_vi (as := [(2, 0), (0, (g.2.1.2.2 (6 + ((i + 1)).toNat))), (0, (g.2.1.2.2 (6 + ((i + 2)).toNat)))]) (S := []) rfl rfl rfl rfl rfl rfl (by decide) rfl (c_man hx hg (by omega)) ?_
  rintro b_ s1 ⟨h1, h2, h3⟩
  have hm1 := mW_class hg hm h3
  refine lq_pop rfl rfl ?_
  refine lq_aload rfl rfl rfl ?_
  refine lq_aload rfl rfl rfl ?_
  refine lq_iload rfl rfl ?_
  refine lq_push rfl ?_
  refine lq_iadd (v := (i + 1)) rfl rfl (by omega) ?_
  refine lq_iald0 rfl (by omega) ?_
  refine lq_aload rfl rfl rfl ?_
  refine lq_iload rfl rfl ?_
  refine lq_push rfl ?_
  refine lq_iadd (v := (i + 2)) rfl rfl (by omega) ?_
  refine lq_iald0 rfl (by omega) ?_
  refine lq_vi (as := [(2, 547), (0, (g.2.1.2.2 (6 + ((i + 1)).toNat))), (0, (g.2.1.2.2 (6 + ((i + 2)).toNat)))]) (S := []) rfl rfl rfl rfl rfl rfl (by decide) rfl (m_man hm1 hg (by omega)) ?_
  rintro c_ s2 ⟨k1, k2, k3⟩
  refine lq_pop rfl rfl ?_
  refine lq_goto rfl ?_
  have w_ := wG_man (k := (g.2.1.2.2 (6 + ((i + 1)).toNat))) (c := (g.2.1.2.2 (6 + ((i + 2)).toNat))) hg
  exact hk s2 _ _ _ w_ (xW_model w_ h2 k3) k2
theorem w_write {g : Launch × XG × va_G} {σ : YS} {Z : YZ} {I : Int → YZ} {M : YS} {N i : Int} {P : Option YV → YS → Prop} (hx : xW σ Z I M) (hm : mW σ Z I M) (hg : wG Z I M N) (hN : N < 100) (hi : 0 ≤ i ∧ i + 5 ≤ g.2.1.2.2 5) (hL5 : g.2.1.2.2 5 ≤ 320) (hk : ∀ σ' Z' I' M', wG Z' I' M' (N + 1) → xW σ' Z' I' M' → mW σ' Z' I' M' → LV g 0 934 [some (3, 0), some (2, 0), some (2, 547), some (0, i)] [] σ' P) : LV g 0 249 [some (3, 0), some (2, 0), some (2, 547), some (0, i)] [] σ P := by
  refine lq_aload rfl rfl rfl ?_
  refine lq_aload rfl rfl rfl ?_
  refine lq_iload rfl rfl ?_
  refine lq_push rfl ?_
  refine lq_iadd (v := (i + 1)) rfl rfl (by omega) ?_
  refine lq_iald0 rfl (by omega) ?_
  refine lq_aload rfl rfl rfl ?_
  refine lq_iload rfl rfl ?_
  refine lq_push rfl ?_
  refine lq_iadd (v := (i + 2)) rfl rfl (by omega) ?_
  refine lq_iald0 rfl (by omega) ?_
  refine lq_vi (as := [(2, 0), (0, (g.2.1.2.2 (6 + ((i + 1)).toNat))), (0, (g.2.1.2.2 (6 + ((i + 2)).toNat)))]) (S := []) rfl rfl rfl rfl rfl rfl (by decide) rfl (c_write hx hg (by omega)) ?_
  rintro b_ s1 ⟨h1, h2, h3⟩
  have hm1 := mW_class hg hm h3
  refine lq_pop rfl rfl ?_
  refine lq_aload rfl rfl rfl ?_
  refine lq_aload rfl rfl rfl ?_
  refine lq_iload rfl rfl ?_
  refine lq_push rfl ?_
  refine lq_iadd (v := (i + 1)) rfl rfl (by omega) ?_
  refine lq_iald0 rfl (by omega) ?_
  refine lq_aload rfl rfl rfl ?_
  refine lq_iload rfl rfl ?_
  refine lq_push rfl ?_
  refine lq_iadd (v := (i + 2)) rfl rfl (by omega) ?_
  refine lq_iald0 rfl (by omega) ?_
  refine lq_vi (as := [(2, 547), (0, (g.2.1.2.2 (6 + ((i + 1)).toNat))), (0, (g.2.1.2.2 (6 + ((i + 2)).toNat)))]) (S := []) rfl rfl rfl rfl rfl rfl (by decide) rfl (m_write hm1 hg (by omega)) ?_
  rintro c_ s2 ⟨k1, k2, k3⟩
  refine lq_pop rfl rfl ?_
  refine lq_goto rfl ?_
  have w_ := wG_write (m := (g.2.1.2.2 (6 + ((i + 1)).toNat))) (sg := (g.2.1.2.2 (6 + ((i + 2)).toNat))) hg
  exact hk s2 _ _ _ w_ (xW_model w_ h2 k3) k2
theorem w_rub {g : Launch × XG × va_G} {σ : YS} {Z : YZ} {I : Int → YZ} {M : YS} {N i : Int} {P : Option YV → YS → Prop} (hx : xW σ Z I M) (hm : mW σ Z I M) (hg : wG Z I M N) (hN : N < 100) (hi : 0 ≤ i ∧ i + 5 ≤ g.2.1.2.2 5) (hL5 : g.2.1.2.2 5 ≤ 320) (hk : ∀ σ' Z' I' M', wG Z' I' M' (N + 1) → xW σ' Z' I' M' → mW σ' Z' I' M' → LV g 0 934 [some (3, 0), some (2, 0), some (2, 547), some (0, i)] [] σ' P) : LV g 0 282 [some (3, 0), some (2, 0), some (2, 547), some (0, i)] [] σ P := by
  refine lq_aload rfl rfl rfl ?_
  refine lq_aload rfl rfl rfl ?_
  refine lq_iload rfl rfl ?_
  refine lq_push rfl ?_
  refine lq_iadd (v := (i + 1)) rfl rfl (by omega) ?_
  refine lq_iald0 rfl (by omega) ?_
  refine lq_vi (as := [(2, 0), (0, (g.2.1.2.2 (6 + ((i + 1)).toNat)))]) (S := []) rfl rfl rfl rfl rfl rfl (by decide) rfl (c_rub hx hg (by omega)) ?_
  rintro b_ s1 ⟨h1, h2, h3⟩
  have hm1 := mW_class hg hm h3
  refine lq_pop rfl rfl ?_
  refine lq_aload rfl rfl rfl ?_
  refine lq_aload rfl rfl rfl ?_
  refine lq_iload rfl rfl ?_
  refine lq_push rfl ?_
  refine lq_iadd (v := (i + 1)) rfl rfl (by omega) ?_
  refine lq_iald0 rfl (by omega) ?_
  refine lq_vi (as := [(2, 547), (0, (g.2.1.2.2 (6 + ((i + 1)).toNat)))]) (S := []) rfl rfl rfl rfl rfl rfl (by decide) rfl (m_rub hm1 hg (by omega)) ?_
  rintro c_ s2 ⟨k1, k2, k3⟩
  refine lq_pop rfl rfl ?_
  refine lq_goto rfl ?_
  have w_ := wG_rub (m := (g.2.1.2.2 (6 + ((i + 1)).toNat))) hg
  exact hk s2 _ _ _ w_ (xW_model w_ h2 k3) k2
theorem w_fault {g : Launch × XG × va_G} {σ : YS} {Z : YZ} {I : Int → YZ} {M : YS} {N i : Int} {P : Option YV → YS → Prop} (hx : xW σ Z I M) (hm : mW σ Z I M) (hg : wG Z I M N) (hN : N < 100) (hi : 0 ≤ i ∧ i + 5 ≤ g.2.1.2.2 5) (hL5 : g.2.1.2.2 5 ≤ 320) (hk : ∀ σ' Z' I' M', wG Z' I' M' (N + 1) → xW σ' Z' I' M' → mW σ' Z' I' M' → LV g 0 934 [some (3, 0), some (2, 0), some (2, 547), some (0, i)] [] σ' P) : LV g 0 305 [some (3, 0), some (2, 0), some (2, 547), some (0, i)] [] σ P := by
  refine lq_aload rfl rfl rfl ?_
  refine lq_aload rfl rfl rfl ?_
  refine lq_iload rfl rfl ?_
  refine lq_push rfl ?_
  refine lq_iadd (v := (i + 1)) rfl rfl (by omega) ?_
  refine lq_iald0 rfl (by omega) ?_
  refine lq_vi (as := [(2, 0), (0, (g.2.1.2.2 (6 + ((i + 1)).toNat)))]) (S := []) rfl rfl rfl rfl rfl rfl (by decide) rfl (c_fault hx hg (by omega)) ?_
  rintro b_ s1 ⟨h1, h2, h3⟩
  have hm1 := mW_class hg hm h3
  refine lq_pop rfl rfl ?_
  refine lq_aload rfl rfl rfl ?_
  refine lq_aload rfl rfl rfl ?_
  refine lq_iload rfl rfl ?_
  refine lq_push rfl ?_
  refine lq_iadd (v := (i + 1)) rfl rfl (by omega) ?_
  refine lq_iald0 rfl (by omega) ?_
  refine lq_vi (as := [(2, 547), (0, (g.2.1.2.2 (6 + ((i + 1)).toNat)))]) (S := []) rfl rfl rfl rfl rfl rfl (by decide) rfl (m_fault hm1 hg (by omega)) ?_
  rintro c_ s2 ⟨k1, k2, k3⟩
  refine lq_pop rfl rfl ?_
  refine lq_goto rfl ?_
  have w_ : wG (kfault Z M ((g.2.1.2.2 (6 + ((i + 1)).toNat)))).2.1 I (kfault Z M ((g.2.1.2.2 (6 + ((i + 1)).toNat)))).2.2 (N + 1) := wG_same (by unfold kfault; (repeat' split) <;> first | exact Or.inl rfl | exact Or.inr ⟨_, by decide, rfl⟩) hg
  exact hk s2 _ _ _ w_ (xW_model w_ h2 k3) k2
theorem w_type {g : Launch × XG × va_G} {σ : YS} {Z : YZ} {I : Int → YZ} {M : YS} {N i : Int} {P : Option YV → YS → Prop} (hx : xW σ Z I M) (hm : mW σ Z I M) (hg : wG Z I M N) (hN : N < 100) (hi : 0 ≤ i ∧ i + 5 ≤ g.2.1.2.2 5) (hL5 : g.2.1.2.2 5 ≤ 320) (hk : ∀ σ' Z' I' M', wG Z' I' M' (N + 1) → xW σ' Z' I' M' → mW σ' Z' I' M' → LV g 0 934 [some (3, 0), some (2, 0), some (2, 547), some (0, i)] [] σ' P) : LV g 0 328 [some (3, 0), some (2, 0), some (2, 547), some (0, i)] [] σ P := by
  refine lq_aload rfl rfl rfl ?_
  refine lq_aload rfl rfl rfl ?_
  refine lq_iload rfl rfl ?_
  refine lq_push rfl ?_
  refine lq_iadd (v := (i + 1)) rfl rfl (by omega) ?_
  refine lq_iald0 rfl (by omega) ?_
  refine lq_i2l rfl ?_
  refine lq_push rfl ?_
  refine lq_lshl (v := (ylshl (g.2.1.2.2 (6 + ((i + 1)).toNat)) 32)) rfl rfl ?_
  refine lq_aload rfl rfl rfl ?_
  refine lq_iload rfl rfl ?_
  refine lq_push rfl ?_
  refine lq_iadd (v := (i + 2)) rfl rfl (by omega) ?_
  refine lq_iald0 rfl (by omega) ?_
  refine lq_i2l rfl ?_
  refine lq_ldc2 (v := 4294967295) rfl rfl ?_
  refine lq_land (v := (yland (g.2.1.2.2 (6 + ((i + 2)).toNat)) 4294967295)) rfl rfl ?_
  refine lq_lor (v := (ylor (ylshl (g.2.1.2.2 (6 + ((i + 1)).toNat)) 32) (yland (g.2.1.2.2 (6 + ((i + 2)).toNat)) 4294967295))) rfl rfl ?_
  refine lq_aload rfl rfl rfl ?_
  refine lq_iload rfl rfl ?_
  refine lq_push rfl ?_
  refine lq_iadd (v := (i + 3)) rfl rfl (by omega) ?_
  refine lq_iald0 rfl (by omega) ?_
  refine lq_vi (as := [(2, 0), (1, (ylor (ylshl (g.2.1.2.2 (6 + ((i + 1)).toNat)) 32) (yland (g.2.1.2.2 (6 + ((i + 2)).toNat)) 4294967295))), (0, (g.2.1.2.2 (6 + ((i + 3)).toNat)))]) (S := []) rfl rfl rfl rfl rfl rfl (by decide) rfl (c_type hx hg (by omega)) ?_
  rintro b_ s1 ⟨h1, h2, h3⟩
  have hm1 := mW_class hg hm h3
  refine lq_pop rfl rfl ?_
  refine lq_aload rfl rfl rfl ?_
  refine lq_aload rfl rfl rfl ?_
  refine lq_iload rfl rfl ?_
  refine lq_push rfl ?_
  refine lq_iadd (v := (i + 1)) rfl rfl (by omega) ?_
  refine lq_iald0 rfl (by omega) ?_
  refine lq_i2l rfl ?_
  refine lq_push rfl ?_
  refine lq_lshl (v := (ylshl (g.2.1.2.2 (6 + ((i + 1)).toNat)) 32)) rfl rfl ?_
  refine lq_aload rfl rfl rfl ?_
  refine lq_iload rfl rfl ?_
  refine lq_push rfl ?_
  refine lq_iadd (v := (i + 2)) rfl rfl (by omega) ?_
  refine lq_iald0 rfl (by omega) ?_
  refine lq_i2l rfl ?_
  refine lq_ldc2 (v := 4294967295) rfl rfl ?_
  refine lq_land (v := (yland (g.2.1.2.2 (6 + ((i + 2)).toNat)) 4294967295)) rfl rfl ?_
  refine lq_lor (v := (ylor (ylshl (g.2.1.2.2 (6 + ((i + 1)).toNat)) 32) (yland (g.2.1.2.2 (6 + ((i + 2)).toNat)) 4294967295))) rfl rfl ?_
  refine lq_aload rfl rfl rfl ?_
  refine lq_iload rfl rfl ?_
  refine lq_push rfl ?_
  refine lq_iadd (v := (i + 3)) rfl rfl (by omega) ?_
  refine lq_iald0 rfl (by omega) ?_
  refine lq_vi (as := [(2, 547), (1, (ylor (ylshl (g.2.1.2.2 (6 + ((i + 1)).toNat)) 32) (yland (g.2.1.2.2 (6 + ((i + 2)).toNat)) 4294967295))), (0, (g.2.1.2.2 (6 + ((i + 3)).toNat)))]) (S := []) rfl rfl rfl rfl rfl rfl (by decide) rfl (m_type hm1 hg (by omega)) ?_
  rintro c_ s2 ⟨k1, k2, k3⟩
  refine lq_pop rfl rfl ?_
  refine lq_goto rfl ?_
  have w_ := wG_type (v := (ylor (ylshl (g.2.1.2.2 (6 + ((i + 1)).toNat)) 32) (yland (g.2.1.2.2 (6 + ((i + 2)).toNat)) 4294967295))) (n := (g.2.1.2.2 (6 + ((i + 3)).toNat))) hg
  exact hk s2 _ _ _ w_ (xW_model w_ h2 k3) k2
theorem w_clear {g : Launch × XG × va_G} {σ : YS} {Z : YZ} {I : Int → YZ} {M : YS} {N i : Int} {P : Option YV → YS → Prop} (hx : xW σ Z I M) (hm : mW σ Z I M) (hg : wG Z I M N) (hN : N < 100) (hi : 0 ≤ i ∧ i + 5 ≤ g.2.1.2.2 5) (hL5 : g.2.1.2.2 5 ≤ 320) (hk : ∀ σ' Z' I' M', wG Z' I' M' (N + 1) → xW σ' Z' I' M' → mW σ' Z' I' M' → LV g 0 934 [some (3, 0), some (2, 0), some (2, 547), some (0, i)] [] σ' P) : LV g 0 391 [some (3, 0), some (2, 0), some (2, 547), some (0, i)] [] σ P := by
  refine lq_aload rfl rfl rfl ?_
  refine lq_vi (as := [(2, 0)]) (S := []) rfl rfl rfl rfl rfl rfl (by decide) rfl (c_clear hx hg (by omega)) ?_
  rintro b_ s1 ⟨h1, h2, h3⟩
  have hm1 := mW_class hg hm h3
  refine lq_pop rfl rfl ?_
  refine lq_aload rfl rfl rfl ?_
  refine lq_vi (as := [(2, 547)]) (S := []) rfl rfl rfl rfl rfl rfl (by decide) rfl (m_clear hm1 hg (by omega)) ?_
  rintro c_ s2 ⟨k1, k2, k3⟩
  refine lq_pop rfl rfl ?_
  refine lq_goto rfl ?_
  have w_ := wG_clear  hg
  exact hk s2 _ _ _ w_ (xW_model w_ h2 k3) k2
theorem w_read {g : Launch × XG × va_G} {σ : YS} {Z : YZ} {I : Int → YZ} {M : YS} {N i : Int} {P : Option YV → YS → Prop} (hx : xW σ Z I M) (hm : mW σ Z I M) (hg : wG Z I M N) (hN : N < 100) (hi : 0 ≤ i ∧ i + 5 ≤ g.2.1.2.2 5) (hL5 : g.2.1.2.2 5 ≤ 320) (hk : ∀ σ' Z' I' M', wG Z' I' M' (N + 1) → xW σ' Z' I' M' → mW σ' Z' I' M' → LV g 0 934 [some (3, 0), some (2, 0), some (2, 547), some (0, i)] [] σ' P) : LV g 0 404 [some (3, 0), some (2, 0), some (2, 547), some (0, i)] [] σ P := by
  refine lq_aload rfl rfl rfl ?_
  refine lq_vi (as := [(2, 0)]) (S := []) rfl rfl rfl rfl rfl rfl (by decide) rfl (c_read hx hg (by omega)) ?_
  rintro b_ s1 ⟨Z1, h1, h2, h3⟩
  have hm1 := mW_class hg hm h3
  refine lq_pop rfl rfl ?_
  refine lq_aload rfl rfl rfl ?_
  refine lq_vi (as := [(2, 547)]) (S := []) rfl rfl rfl rfl rfl rfl (by decide) rfl (m_read hm1 hg (by omega)) ?_
  rintro c_ s2 ⟨Z2, k1, k2, k3⟩
  refine lq_pop rfl rfl ?_
  refine lq_goto rfl ?_
  have ⟨_, e_⟩ := kread_one h1 k1
  subst e_
  have Np : 0 ≤ N := by have := hg.1.2.2.1; omega
  have w_ := wG_N (wG_read Np hg h1) (show N ≤ N + 1 by omega)
  exact hk s2 _ _ _ w_ (xW_model w_ h2 k3) k2
theorem w_step {g : Launch × XG × va_G} {σ : YS} {Z : YZ} {I : Int → YZ} {M : YS} {N i : Int} {P : Option YV → YS → Prop} (hx : xW σ Z I M) (hm : mW σ Z I M) (hg : wG Z I M N) (hN : N < 100) (hi : 0 ≤ i ∧ i + 5 ≤ g.2.1.2.2 5) (hL5 : g.2.1.2.2 5 ≤ 320) (hk : ∀ σ' Z' I' M', wG Z' I' M' (N + 1) → xW σ' Z' I' M' → mW σ' Z' I' M' → LV g 0 934 [some (3, 0), some (2, 0), some (2, 547), some (0, i)] [] σ' P) : LV g 0 417 [some (3, 0), some (2, 0), some (2, 547), some (0, i)] [] σ P := by
  refine lq_aload rfl rfl rfl ?_
  refine lq_vi (as := [(2, 0)]) (S := []) rfl rfl rfl rfl rfl rfl (by decide) rfl (c_step hx hg (by omega)) ?_
  rintro b_ s1 ⟨h1, h2, h3⟩
  have hm1 := mW_class hg hm h3
  refine lq_pop rfl rfl ?_
  refine lq_aload rfl rfl rfl ?_
  refine lq_vi (as := [(2, 547)]) (S := []) rfl rfl rfl rfl rfl rfl (by decide) rfl (m_step hm1 hg (by omega)) ?_
  rintro c_ s2 ⟨k1, k2, k3⟩
  refine lq_pop rfl rfl ?_
  refine lq_goto rfl ?_
  have w_ := wG_step  hg
  exact hk s2 _ _ _ w_ (xW_model w_ h2 k3) k2
theorem w_undo {g : Launch × XG × va_G} {σ : YS} {Z : YZ} {I : Int → YZ} {M : YS} {N i : Int} {P : Option YV → YS → Prop} (hx : xW σ Z I M) (hm : mW σ Z I M) (hg : wG Z I M N) (hN : N < 100) (hi : 0 ≤ i ∧ i + 5 ≤ g.2.1.2.2 5) (hL5 : g.2.1.2.2 5 ≤ 320) (hk : ∀ σ' Z' I' M', wG Z' I' M' (N + 1) → xW σ' Z' I' M' → mW σ' Z' I' M' → LV g 0 934 [some (3, 0), some (2, 0), some (2, 547), some (0, i)] [] σ' P) : LV g 0 430 [some (3, 0), some (2, 0), some (2, 547), some (0, i)] [] σ P := by
  refine lq_aload rfl rfl rfl ?_
  refine lq_vi (as := [(2, 0)]) (S := []) rfl rfl rfl rfl rfl rfl (by decide) rfl (c_undo hx hg (by omega)) ?_
  rintro b_ s1 ⟨h1, h2, h3⟩
  have hm1 := mW_class hg hm h3
  refine lq_pop rfl rfl ?_
  refine lq_aload rfl rfl rfl ?_
  refine lq_vi (as := [(2, 547)]) (S := []) rfl rfl rfl rfl rfl rfl (by decide) rfl (m_undo hm1 hg (by omega)) ?_
  rintro c_ s2 ⟨k1, k2, k3⟩
  refine lq_pop rfl rfl ?_
  refine lq_goto rfl ?_
  have w_ := wG_undo  hg
  exact hk s2 _ _ _ w_ (xW_model w_ h2 k3) k2
theorem w_of {g : Launch × XG × va_G} {σ : YS} {Z : YZ} {I : Int → YZ} {M : YS} {N i : Int} {P : Option YV → YS → Prop} (hx : xW σ Z I M) (hm : mW σ Z I M) (hg : wG Z I M N) (hN : N < 100) (hi : 0 ≤ i ∧ i + 5 ≤ g.2.1.2.2 5) (hL5 : g.2.1.2.2 5 ≤ 320) (hk : ∀ σ' Z' I' M', wG Z' I' M' (N + 1) → xW σ' Z' I' M' → mW σ' Z' I' M' → LV g 0 934 [some (3, 0), some (2, 0), some (2, 547), some (0, i)] [] σ' P) : LV g 0 443 [some (3, 0), some (2, 0), some (2, 547), some (0, i)] [] σ P := by
  refine lq_aload rfl rfl rfl ?_
  refine lq_aload rfl rfl rfl ?_
  refine lq_iload rfl rfl ?_
  refine lq_push rfl ?_
  refine lq_iadd (v := (i + 1)) rfl rfl (by omega) ?_
  refine lq_iald0 rfl (by omega) ?_
  refine lq_aload rfl rfl rfl ?_
  refine lq_iload rfl rfl ?_
  refine lq_push rfl ?_
  refine lq_iadd (v := (i + 2)) rfl rfl (by omega) ?_
  refine lq_iald0 rfl (by omega) ?_
  refine lq_vi (as := [(2, 0), (0, (g.2.1.2.2 (6 + ((i + 1)).toNat))), (0, (g.2.1.2.2 (6 + ((i + 2)).toNat)))]) (S := []) rfl rfl rfl rfl rfl rfl (by decide) rfl (c_of hx hg (by omega)) ?_
  rintro b_ s1 ⟨h1, h2, h3⟩
  have hm1 := mW_class hg hm h3
  refine lq_pop rfl rfl ?_
  refine lq_aload rfl rfl rfl ?_
  refine lq_aload rfl rfl rfl ?_
  refine lq_iload rfl rfl ?_
  refine lq_push rfl ?_
  refine lq_iadd (v := (i + 1)) rfl rfl (by omega) ?_
  refine lq_iald0 rfl (by omega) ?_
  refine lq_aload rfl rfl rfl ?_
  refine lq_iload rfl rfl ?_
  refine lq_push rfl ?_
  refine lq_iadd (v := (i + 2)) rfl rfl (by omega) ?_
  refine lq_iald0 rfl (by omega) ?_
  refine lq_vi (as := [(2, 547), (0, (g.2.1.2.2 (6 + ((i + 1)).toNat))), (0, (g.2.1.2.2 (6 + ((i + 2)).toNat)))]) (S := []) rfl rfl rfl rfl rfl rfl (by decide) rfl (m_of hm1 hg (by omega)) ?_
  rintro c_ s2 ⟨k1, k2, k3⟩
  refine lq_pop rfl rfl ?_
  refine lq_goto rfl ?_
  have w_ : wG (kof Z M ((g.2.1.2.2 (6 + ((i + 1)).toNat))) ((g.2.1.2.2 (6 + ((i + 2)).toNat)))).2.1 I (kof Z M ((g.2.1.2.2 (6 + ((i + 1)).toNat))) ((g.2.1.2.2 (6 + ((i + 2)).toNat)))).2.2 (N + 1) := wG_same (by unfold kof; (repeat' split) <;> first | exact Or.inl rfl | exact Or.inr ⟨_, by decide, rfl⟩) hg
  exact hk s2 _ _ _ w_ (xW_model w_ h2 k3) k2
theorem w_in {g : Launch × XG × va_G} {σ : YS} {Z : YZ} {I : Int → YZ} {M : YS} {N i : Int} {P : Option YV → YS → Prop} (hx : xW σ Z I M) (hm : mW σ Z I M) (hg : wG Z I M N) (hN : N < 100) (hi : 0 ≤ i ∧ i + 5 ≤ g.2.1.2.2 5) (hL5 : g.2.1.2.2 5 ≤ 320) (hk : ∀ σ' Z' I' M', wG Z' I' M' (N + 1) → xW σ' Z' I' M' → mW σ' Z' I' M' → LV g 0 934 [some (3, 0), some (2, 0), some (2, 547), some (0, i)] [] σ' P) : LV g 0 476 [some (3, 0), some (2, 0), some (2, 547), some (0, i)] [] σ P := by
  refine lq_aload rfl rfl rfl ?_
  refine lq_aload rfl rfl rfl ?_
  refine lq_iload rfl rfl ?_
  refine lq_push rfl ?_
  refine lq_iadd (v := (i + 1)) rfl rfl (by omega) ?_
  refine lq_iald0 rfl (by omega) ?_
  refine lq_vi (as := [(2, 0), (0, (g.2.1.2.2 (6 + ((i + 1)).toNat)))]) (S := []) rfl rfl rfl rfl rfl rfl (by decide) rfl (c_in hx hg (by omega)) ?_
  rintro b_ s1 ⟨h1, h2, h3⟩
  have hm1 := mW_class hg hm h3
  refine lq_pop rfl rfl ?_
  refine lq_aload rfl rfl rfl ?_
  refine lq_aload rfl rfl rfl ?_
  refine lq_iload rfl rfl ?_
  refine lq_push rfl ?_
  refine lq_iadd (v := (i + 1)) rfl rfl (by omega) ?_
  refine lq_iald0 rfl (by omega) ?_
  refine lq_vi (as := [(2, 547), (0, (g.2.1.2.2 (6 + ((i + 1)).toNat)))]) (S := []) rfl rfl rfl rfl rfl rfl (by decide) rfl (m_in hm1 hg (by omega)) ?_
  rintro c_ s2 ⟨k1, k2, k3⟩
  refine lq_pop rfl rfl ?_
  refine lq_goto rfl ?_
  have w_ : wG (kin Z M ((g.2.1.2.2 (6 + ((i + 1)).toNat)))).2.1 I (kin Z M ((g.2.1.2.2 (6 + ((i + 1)).toNat)))).2.2 (N + 1) := wG_same (by unfold kin; (repeat' split) <;> first | exact Or.inl rfl | exact Or.inr ⟨_, by decide, rfl⟩) hg
  exact hk s2 _ _ _ w_ (xW_model w_ h2 k3) k2
theorem w_run {g : Launch × XG × va_G} {σ : YS} {Z : YZ} {I : Int → YZ} {M : YS} {N i : Int} {P : Option YV → YS → Prop} (hx : xW σ Z I M) (hm : mW σ Z I M) (hg : wG Z I M N) (hN : N < 100) (hi : 0 ≤ i ∧ i + 5 ≤ g.2.1.2.2 5) (hL5 : g.2.1.2.2 5 ≤ 320) (hk : ∀ σ' Z' I' M', wG Z' I' M' (N + 1) → xW σ' Z' I' M' → mW σ' Z' I' M' → LV g 0 934 [some (3, 0), some (2, 0), some (2, 547), some (0, i)] [] σ' P) : LV g 0 499 [some (3, 0), some (2, 0), some (2, 547), some (0, i)] [] σ P := by
  refine lq_aload rfl rfl rfl ?_
  refine lq_aload rfl rfl rfl ?_
  refine lq_iload rfl rfl ?_
  refine lq_push rfl ?_
  refine lq_iadd (v := (i + 1)) rfl rfl (by omega) ?_
  refine lq_iald0 rfl (by omega) ?_
  refine lq_aload rfl rfl rfl ?_
  refine lq_iload rfl rfl ?_
  refine lq_push rfl ?_
  refine lq_iadd (v := (i + 2)) rfl rfl (by omega) ?_
  refine lq_iald0 rfl (by omega) ?_
  refine lq_aload rfl rfl rfl ?_
  refine lq_iload rfl rfl ?_
  refine lq_push rfl ?_
  refine lq_iadd (v := (i + 3)) rfl rfl (by omega) ?_
  refine lq_iald0 rfl (by omega) ?_
  refine lq_vi (as := [(2, 0), (0, (g.2.1.2.2 (6 + ((i + 1)).toNat))), (0, (g.2.1.2.2 (6 + ((i + 2)).toNat))), (0, (g.2.1.2.2 (6 + ((i + 3)).toNat)))]) (S := []) rfl rfl rfl rfl rfl rfl (by decide) rfl (c_run hx hg (by omega)) ?_
  rintro b_ s1 ⟨h1, h2, h3⟩
  have hm1 := mW_class hg hm h3
  refine lq_pop rfl rfl ?_
  refine lq_aload rfl rfl rfl ?_
  refine lq_aload rfl rfl rfl ?_
  refine lq_iload rfl rfl ?_
  refine lq_push rfl ?_
  refine lq_iadd (v := (i + 1)) rfl rfl (by omega) ?_
  refine lq_iald0 rfl (by omega) ?_
  refine lq_aload rfl rfl rfl ?_
  refine lq_iload rfl rfl ?_
  refine lq_push rfl ?_
  refine lq_iadd (v := (i + 2)) rfl rfl (by omega) ?_
  refine lq_iald0 rfl (by omega) ?_
  refine lq_aload rfl rfl rfl ?_
  refine lq_iload rfl rfl ?_
  refine lq_push rfl ?_
  refine lq_iadd (v := (i + 3)) rfl rfl (by omega) ?_
  refine lq_iald0 rfl (by omega) ?_
  refine lq_vi (as := [(2, 547), (0, (g.2.1.2.2 (6 + ((i + 1)).toNat))), (0, (g.2.1.2.2 (6 + ((i + 2)).toNat))), (0, (g.2.1.2.2 (6 + ((i + 3)).toNat)))]) (S := []) rfl rfl rfl rfl rfl rfl (by decide) rfl (m_run hm1 hg (by omega)) ?_
  rintro c_ s2 ⟨k1, k2, k3⟩
  refine lq_pop rfl rfl ?_
  refine lq_goto rfl ?_
  have w_ : wG (krun Z M ((g.2.1.2.2 (6 + ((i + 1)).toNat))) ((g.2.1.2.2 (6 + ((i + 2)).toNat))) ((g.2.1.2.2 (6 + ((i + 3)).toNat)))).2.1 I (krun Z M ((g.2.1.2.2 (6 + ((i + 1)).toNat))) ((g.2.1.2.2 (6 + ((i + 2)).toNat))) ((g.2.1.2.2 (6 + ((i + 3)).toNat)))).2.2 (N + 1) := wG_same (by unfold krun; (repeat' split) <;> first | exact Or.inl rfl | exact Or.inr ⟨_, by decide, rfl⟩) hg
  exact hk s2 _ _ _ w_ (xW_model w_ h2 k3) k2
theorem w_stops {g : Launch × XG × va_G} {σ : YS} {Z : YZ} {I : Int → YZ} {M : YS} {N i : Int} {P : Option YV → YS → Prop} (hx : xW σ Z I M) (hm : mW σ Z I M) (hg : wG Z I M N) (hN : N < 100) (hi : 0 ≤ i ∧ i + 5 ≤ g.2.1.2.2 5) (hL5 : g.2.1.2.2 5 ≤ 320) (hk : ∀ σ' Z' I' M', wG Z' I' M' (N + 1) → xW σ' Z' I' M' → mW σ' Z' I' M' → LV g 0 934 [some (3, 0), some (2, 0), some (2, 547), some (0, i)] [] σ' P) : LV g 0 542 [some (3, 0), some (2, 0), some (2, 547), some (0, i)] [] σ P := by
  refine lq_aload rfl rfl rfl ?_
  refine lq_vi (as := [(2, 0)]) (S := []) rfl rfl rfl rfl rfl rfl (by decide) rfl (c_stops hx hg (by omega)) ?_
  rintro b_ s1 ⟨h1, h2, h3⟩
  have hm1 := mW_class hg hm h3
  refine lq_pop rfl rfl ?_
  refine lq_aload rfl rfl rfl ?_
  refine lq_vi (as := [(2, 547)]) (S := []) rfl rfl rfl rfl rfl rfl (by decide) rfl (m_stops hm1 hg (by omega)) ?_
  rintro c_ s2 ⟨k1, k2, k3⟩
  refine lq_pop rfl rfl ?_
  refine lq_goto rfl ?_
  have w_ := wG_N hg (show N ≤ N + 1 by omega)
  exact hk s2 _ _ _ w_ (xW_model w_ h2 k3) k2
theorem w_again {g : Launch × XG × va_G} {σ : YS} {Z : YZ} {I : Int → YZ} {M : YS} {N i : Int} {P : Option YV → YS → Prop} (hx : xW σ Z I M) (hm : mW σ Z I M) (hg : wG Z I M N) (hN : N < 100) (hi : 0 ≤ i ∧ i + 5 ≤ g.2.1.2.2 5) (hL5 : g.2.1.2.2 5 ≤ 320) (hk : ∀ σ' Z' I' M', wG Z' I' M' (N + 1) → xW σ' Z' I' M' → mW σ' Z' I' M' → LV g 0 934 [some (3, 0), some (2, 0), some (2, 547), some (0, i)] [] σ' P) : LV g 0 555 [some (3, 0), some (2, 0), some (2, 547), some (0, i)] [] σ P := by
  refine lq_aload rfl rfl rfl ?_
  refine lq_aload rfl rfl rfl ?_
  refine lq_iload rfl rfl ?_
  refine lq_push rfl ?_
  refine lq_iadd (v := (i + 1)) rfl rfl (by omega) ?_
  refine lq_iald0 rfl (by omega) ?_
  refine lq_vi (as := [(2, 0), (0, (g.2.1.2.2 (6 + ((i + 1)).toNat)))]) (S := []) rfl rfl rfl rfl rfl rfl (by decide) rfl (c_again hx hg (by omega)) ?_
  rintro b_ s1 ⟨h2, h3⟩
  have hm1 := mW_class hg hm h3
  refine lq_pop rfl rfl ?_
  refine lq_aload rfl rfl rfl ?_
  refine lq_aload rfl rfl rfl ?_
  refine lq_iload rfl rfl ?_
  refine lq_push rfl ?_
  refine lq_iadd (v := (i + 1)) rfl rfl (by omega) ?_
  refine lq_iald0 rfl (by omega) ?_
  refine lq_vi (as := [(2, 547), (0, (g.2.1.2.2 (6 + ((i + 1)).toNat)))]) (S := []) rfl rfl rfl rfl rfl rfl (by decide) rfl (m_again hm1 hg (by omega)) ?_
  rintro c_ s2 ⟨k2, k3⟩
  refine lq_pop rfl rfl ?_
  refine lq_goto rfl ?_
  by_cases cc_ : 0 ≤ (g.2.1.2.2 (6 + ((i + 1)).toNat)) ∧ (g.2.1.2.2 (6 + ((i + 1)).toNat)) ≤ 2
  · rw [if_pos cc_] at h2 k2
    have w_ := wG_N hg (show N ≤ N + 1 by omega)
    exact hk s2 _ _ _ w_ (xW_model w_ h2 k3) k2
  · rw [if_neg cc_] at h2 k2
    have w_ := wG_bump hg (show (0 : Int) ≤ 0 ∧ (0 : Int) < 3 by decide)
    exact hk s2 _ _ _ w_ (xW_model w_ h2 k3) k2
theorem w_rubbed {g : Launch × XG × va_G} {σ : YS} {Z : YZ} {I : Int → YZ} {M : YS} {N i : Int} {P : Option YV → YS → Prop} (hx : xW σ Z I M) (hm : mW σ Z I M) (hg : wG Z I M N) (hN : N < 100) (hi : 0 ≤ i ∧ i + 5 ≤ g.2.1.2.2 5) (hL5 : g.2.1.2.2 5 ≤ 320) (hk : ∀ σ' Z' I' M', wG Z' I' M' (N + 1) → xW σ' Z' I' M' → mW σ' Z' I' M' → LV g 0 934 [some (3, 0), some (2, 0), some (2, 547), some (0, i)] [] σ' P) : LV g 0 578 [some (3, 0), some (2, 0), some (2, 547), some (0, i)] [] σ P := by
  refine lq_aload rfl rfl rfl ?_
  refine lq_aload rfl rfl rfl ?_
  refine lq_iload rfl rfl ?_
  refine lq_push rfl ?_
  refine lq_iadd (v := (i + 1)) rfl rfl (by omega) ?_
  refine lq_iald0 rfl (by omega) ?_
  refine lq_aload rfl rfl rfl ?_
  refine lq_iload rfl rfl ?_
  refine lq_push rfl ?_
  refine lq_iadd (v := (i + 2)) rfl rfl (by omega) ?_
  refine lq_iald0 rfl (by omega) ?_
  refine lq_vi (as := [(2, 0), (0, (g.2.1.2.2 (6 + ((i + 1)).toNat))), (0, (g.2.1.2.2 (6 + ((i + 2)).toNat)))]) (S := []) rfl rfl rfl rfl rfl rfl (by decide) rfl (c_rubbed hx hg (by omega)) ?_
  rintro b_ s1 ⟨h2, h3⟩
  have hm1 := mW_class hg hm h3
  refine lq_pop rfl rfl ?_
  refine lq_aload rfl rfl rfl ?_
  refine lq_aload rfl rfl rfl ?_
  refine lq_iload rfl rfl ?_
  refine lq_push rfl ?_
  refine lq_iadd (v := (i + 1)) rfl rfl (by omega) ?_
  refine lq_iald0 rfl (by omega) ?_
  refine lq_aload rfl rfl rfl ?_
  refine lq_iload rfl rfl ?_
  refine lq_push rfl ?_
  refine lq_iadd (v := (i + 2)) rfl rfl (by omega) ?_
  refine lq_iald0 rfl (by omega) ?_
  refine lq_vi (as := [(2, 547), (0, (g.2.1.2.2 (6 + ((i + 1)).toNat))), (0, (g.2.1.2.2 (6 + ((i + 2)).toNat)))]) (S := []) rfl rfl rfl rfl rfl rfl (by decide) rfl (m_rubbed hm1 hg (by omega)) ?_
  rintro c_ s2 ⟨k2, k3⟩
  refine lq_pop rfl rfl ?_
  refine lq_goto rfl ?_
  by_cases cc_ : (0 ≤ (g.2.1.2.2 (6 + ((i + 1)).toNat)) ∧ (g.2.1.2.2 (6 + ((i + 1)).toNat)) < Z 0 1 0) ∧ 0 ≤ (g.2.1.2.2 (6 + ((i + 2)).toNat)) ∧ (g.2.1.2.2 (6 + ((i + 2)).toNat)) < Z 0 3 (g.2.1.2.2 (6 + ((i + 1)).toNat))
  · rw [if_pos cc_] at h2 k2
    have w_ := wG_N hg (show N ≤ N + 1 by omega)
    exact hk s2 _ _ _ w_ (xW_model w_ h2 k3) k2
  · rw [if_neg cc_] at h2 k2
    have w_ := wG_bump hg (show (0 : Int) ≤ 0 ∧ (0 : Int) < 3 by decide)
    exact hk s2 _ _ _ w_ (xW_model w_ h2 k3) k2
theorem w_danger {g : Launch × XG × va_G} {σ : YS} {Z : YZ} {I : Int → YZ} {M : YS} {N i : Int} {P : Option YV → YS → Prop} (hx : xW σ Z I M) (hm : mW σ Z I M) (hg : wG Z I M N) (hN : N < 100) (hi : 0 ≤ i ∧ i + 5 ≤ g.2.1.2.2 5) (hL5 : g.2.1.2.2 5 ≤ 320) (hk : ∀ σ' Z' I' M', wG Z' I' M' (N + 1) → xW σ' Z' I' M' → mW σ' Z' I' M' → LV g 0 934 [some (3, 0), some (2, 0), some (2, 547), some (0, i)] [] σ' P) : LV g 0 611 [some (3, 0), some (2, 0), some (2, 547), some (0, i)] [] σ P := by
  refine lq_aload rfl rfl rfl ?_
  refine lq_aload rfl rfl rfl ?_
  refine lq_iload rfl rfl ?_
  refine lq_push rfl ?_
  refine lq_iadd (v := (i + 1)) rfl rfl (by omega) ?_
  refine lq_iald0 rfl (by omega) ?_
  refine lq_vi (as := [(2, 0), (0, (g.2.1.2.2 (6 + ((i + 1)).toNat)))]) (S := []) rfl rfl rfl rfl rfl rfl (by decide) rfl (c_danger hx hg (by omega)) ?_
  rintro b_ s1 ⟨h2, h3⟩
  have hm1 := mW_class hg hm h3
  refine lq_pop rfl rfl ?_
  refine lq_aload rfl rfl rfl ?_
  refine lq_aload rfl rfl rfl ?_
  refine lq_iload rfl rfl ?_
  refine lq_push rfl ?_
  refine lq_iadd (v := (i + 1)) rfl rfl (by omega) ?_
  refine lq_iald0 rfl (by omega) ?_
  refine lq_vi (as := [(2, 547), (0, (g.2.1.2.2 (6 + ((i + 1)).toNat)))]) (S := []) rfl rfl rfl rfl rfl rfl (by decide) rfl (m_danger hm1 hg (by omega)) ?_
  rintro c_ s2 ⟨k2, k3⟩
  refine lq_pop rfl rfl ?_
  refine lq_goto rfl ?_
  by_cases cc_ : 0 ≤ (g.2.1.2.2 (6 + ((i + 1)).toNat)) ∧ (g.2.1.2.2 (6 + ((i + 1)).toNat)) < Z 0 1 0
  · rw [if_pos cc_] at h2 k2
    have w_ := wG_N hg (show N ≤ N + 1 by omega)
    exact hk s2 _ _ _ w_ (xW_model w_ h2 k3) k2
  · rw [if_neg cc_] at h2 k2
    have w_ := wG_bump hg (show (0 : Int) ≤ 0 ∧ (0 : Int) < 3 by decide)
    exact hk s2 _ _ _ w_ (xW_model w_ h2 k3) k2
theorem w_thief {g : Launch × XG × va_G} {σ : YS} {Z : YZ} {I : Int → YZ} {M : YS} {N i : Int} {P : Option YV → YS → Prop} (hx : xW σ Z I M) (hm : mW σ Z I M) (hg : wG Z I M N) (hN : N < 100) (hi : 0 ≤ i ∧ i + 5 ≤ g.2.1.2.2 5) (hL5 : g.2.1.2.2 5 ≤ 320) (hk : ∀ σ' Z' I' M', wG Z' I' M' (N + 1) → xW σ' Z' I' M' → mW σ' Z' I' M' → LV g 0 934 [some (3, 0), some (2, 0), some (2, 547), some (0, i)] [] σ' P) : LV g 0 634 [some (3, 0), some (2, 0), some (2, 547), some (0, i)] [] σ P := by
  refine lq_aload rfl rfl rfl ?_
  refine lq_aload rfl rfl rfl ?_
  refine lq_iload rfl rfl ?_
  refine lq_push rfl ?_
  refine lq_iadd (v := (i + 1)) rfl rfl (by omega) ?_
  refine lq_iald0 rfl (by omega) ?_
  refine lq_aload rfl rfl rfl ?_
  refine lq_iload rfl rfl ?_
  refine lq_push rfl ?_
  refine lq_iadd (v := (i + 2)) rfl rfl (by omega) ?_
  refine lq_iald0 rfl (by omega) ?_
  refine lq_vi (as := [(2, 0), (0, (g.2.1.2.2 (6 + ((i + 1)).toNat))), (0, (g.2.1.2.2 (6 + ((i + 2)).toNat)))]) (S := []) rfl rfl rfl rfl rfl rfl (by decide) rfl (c_thief hx hg (by omega)) ?_
  rintro b_ s1 ⟨h2, h3⟩
  have hm1 := mW_class hg hm h3
  refine lq_pop rfl rfl ?_
  refine lq_aload rfl rfl rfl ?_
  refine lq_aload rfl rfl rfl ?_
  refine lq_iload rfl rfl ?_
  refine lq_push rfl ?_
  refine lq_iadd (v := (i + 1)) rfl rfl (by omega) ?_
  refine lq_iald0 rfl (by omega) ?_
  refine lq_aload rfl rfl rfl ?_
  refine lq_iload rfl rfl ?_
  refine lq_push rfl ?_
  refine lq_iadd (v := (i + 2)) rfl rfl (by omega) ?_
  refine lq_iald0 rfl (by omega) ?_
  refine lq_vi (as := [(2, 547), (0, (g.2.1.2.2 (6 + ((i + 1)).toNat))), (0, (g.2.1.2.2 (6 + ((i + 2)).toNat)))]) (S := []) rfl rfl rfl rfl rfl rfl (by decide) rfl (m_thief hm1 hg (by omega)) ?_
  rintro c_ s2 ⟨k2, k3⟩
  refine lq_pop rfl rfl ?_
  refine lq_goto rfl ?_
  by_cases cc_ : ((0 ≤ (g.2.1.2.2 (6 + ((i + 1)).toNat)) ∧ (g.2.1.2.2 (6 + ((i + 1)).toNat)) < Z 0 1 0) ∧ 0 ≤ (g.2.1.2.2 (6 + ((i + 2)).toNat)) ∧ (g.2.1.2.2 (6 + ((i + 2)).toNat)) < Z 0 0 0) ∧ Z 0 3 (g.2.1.2.2 (6 + ((i + 1)).toNat)) < 24
  · rw [if_pos cc_] at h2 k2
    have w_ := wG_N hg (show N ≤ N + 1 by omega)
    exact hk s2 _ _ _ w_ (xW_model w_ h2 k3) k2
  · rw [if_neg cc_] at h2 k2
    have w_ := wG_bump hg (show (0 : Int) ≤ 0 ∧ (0 : Int) < 3 by decide)
    exact hk s2 _ _ _ w_ (xW_model w_ h2 k3) k2
theorem w_shortest {g : Launch × XG × va_G} {σ : YS} {Z : YZ} {I : Int → YZ} {M : YS} {N i : Int} {P : Option YV → YS → Prop} (hx : xW σ Z I M) (hm : mW σ Z I M) (hg : wG Z I M N) (hN : N < 100) (hi : 0 ≤ i ∧ i + 5 ≤ g.2.1.2.2 5) (hL5 : g.2.1.2.2 5 ≤ 320) (hk : ∀ σ' Z' I' M', wG Z' I' M' (N + 1) → xW σ' Z' I' M' → mW σ' Z' I' M' → LV g 0 934 [some (3, 0), some (2, 0), some (2, 547), some (0, i)] [] σ' P) : LV g 0 667 [some (3, 0), some (2, 0), some (2, 547), some (0, i)] [] σ P := by
  refine lq_aload rfl rfl rfl ?_
  refine lq_aload rfl rfl rfl ?_
  refine lq_iload rfl rfl ?_
  refine lq_push rfl ?_
  refine lq_iadd (v := (i + 1)) rfl rfl (by omega) ?_
  refine lq_iald0 rfl (by omega) ?_
  refine lq_aload rfl rfl rfl ?_
  refine lq_iload rfl rfl ?_
  refine lq_push rfl ?_
  refine lq_iadd (v := (i + 2)) rfl rfl (by omega) ?_
  refine lq_iald0 rfl (by omega) ?_
  refine lq_aload rfl rfl rfl ?_
  refine lq_iload rfl rfl ?_
  refine lq_push rfl ?_
  refine lq_iadd (v := (i + 3)) rfl rfl (by omega) ?_
  refine lq_iald0 rfl (by omega) ?_
  refine lq_aload rfl rfl rfl ?_
  refine lq_iload rfl rfl ?_
  refine lq_push rfl ?_
  refine lq_iadd (v := (i + 4)) rfl rfl (by omega) ?_
  refine lq_iald0 rfl (by omega) ?_
  refine lq_vi (as := [(2, 0), (0, (g.2.1.2.2 (6 + ((i + 1)).toNat))), (0, (g.2.1.2.2 (6 + ((i + 2)).toNat))), (0, (g.2.1.2.2 (6 + ((i + 3)).toNat))), (0, (g.2.1.2.2 (6 + ((i + 4)).toNat)))]) (S := []) rfl rfl rfl rfl rfl rfl (by decide) rfl (c_shortest hx hg (by omega)) ?_
  rintro b_ s1 ⟨h1, h3⟩
  have hm1 := mW_class hg hm h3
  refine lq_aload rfl rfl rfl ?_
  refine lq_aload rfl rfl rfl ?_
  refine lq_iload rfl rfl ?_
  refine lq_push rfl ?_
  refine lq_iadd (v := (i + 1)) rfl rfl (by omega) ?_
  refine lq_iald0 rfl (by omega) ?_
  refine lq_aload rfl rfl rfl ?_
  refine lq_iload rfl rfl ?_
  refine lq_push rfl ?_
  refine lq_iadd (v := (i + 2)) rfl rfl (by omega) ?_
  refine lq_iald0 rfl (by omega) ?_
  refine lq_aload rfl rfl rfl ?_
  refine lq_iload rfl rfl ?_
  refine lq_push rfl ?_
  refine lq_iadd (v := (i + 3)) rfl rfl (by omega) ?_
  refine lq_iald0 rfl (by omega) ?_
  refine lq_aload rfl rfl rfl ?_
  refine lq_iload rfl rfl ?_
  refine lq_push rfl ?_
  refine lq_iadd (v := (i + 4)) rfl rfl (by omega) ?_
  refine lq_iald0 rfl (by omega) ?_
  refine lq_vi (as := [(2, 547), (0, (g.2.1.2.2 (6 + ((i + 1)).toNat))), (0, (g.2.1.2.2 (6 + ((i + 2)).toNat))), (0, (g.2.1.2.2 (6 + ((i + 3)).toNat))), (0, (g.2.1.2.2 (6 + ((i + 4)).toNat)))]) (S := [(0, b_)]) rfl rfl rfl rfl rfl rfl (by decide) rfl (m_shortest hm1 hg (by omega)) ?_
  rintro c_ s2 ⟨k1, k3⟩
  refine lq_iceq rfl (fun q715 => ?_) (fun q715 => ?_)
  · skip
    by_cases cc_ : (0 ≤ (g.2.1.2.2 (6 + ((i + 1)).toNat)) ∧ (g.2.1.2.2 (6 + ((i + 1)).toNat)) < Z 0 1 0) ∧ (0 ≤ (g.2.1.2.2 (6 + ((i + 2)).toNat)) ∧ (g.2.1.2.2 (6 + ((i + 2)).toNat)) < Z 0 0 0) ∧ (0 ≤ (g.2.1.2.2 (6 + ((i + 3)).toNat)) ∧ (g.2.1.2.2 (6 + ((i + 3)).toNat)) ≤ 20) ∧ -1 ≤ (g.2.1.2.2 (6 + ((i + 4)).toNat))
    · rw [if_pos cc_] at h1 k1
      have w_ := wG_N hg (show N ≤ N + 1 by omega)
      exact hk s2 _ _ _ w_ (xW_model w_ h1.2 k3) k1.2
    · rw [if_neg cc_] at h1 k1
      have w_ := wG_bump hg (show (0 : Int) ≤ 0 ∧ (0 : Int) < 3 by decide)
      exact hk s2 _ _ _ w_ (xW_model w_ h1.2 k3) k1.2
  · skip
    refine absurd ?_ q715
    by_cases cc_ : (0 ≤ (g.2.1.2.2 (6 + ((i + 1)).toNat)) ∧ (g.2.1.2.2 (6 + ((i + 1)).toNat)) < Z 0 1 0) ∧ (0 ≤ (g.2.1.2.2 (6 + ((i + 2)).toNat)) ∧ (g.2.1.2.2 (6 + ((i + 2)).toNat)) < Z 0 0 0) ∧ (0 ≤ (g.2.1.2.2 (6 + ((i + 3)).toNat)) ∧ (g.2.1.2.2 (6 + ((i + 3)).toNat)) ≤ 20) ∧ -1 ≤ (g.2.1.2.2 (6 + ((i + 4)).toNat))
    · rw [if_pos cc_] at h1 k1; exact shans_one h1.1 k1.1
    · rw [if_neg cc_] at h1 k1; exact h1.1.trans k1.1.symm
theorem w_seen {g : Launch × XG × va_G} {σ : YS} {Z : YZ} {I : Int → YZ} {M : YS} {N i : Int} {P : Option YV → YS → Prop} (hx : xW σ Z I M) (hm : mW σ Z I M) (hg : wG Z I M N) (hN : N < 100) (hi : 0 ≤ i ∧ i + 5 ≤ g.2.1.2.2 5) (hL5 : g.2.1.2.2 5 ≤ 320) (hk : ∀ σ' Z' I' M', wG Z' I' M' (N + 1) → xW σ' Z' I' M' → mW σ' Z' I' M' → LV g 0 934 [some (3, 0), some (2, 0), some (2, 547), some (0, i)] [] σ' P) : LV g 0 720 [some (3, 0), some (2, 0), some (2, 547), some (0, i)] [] σ P := by
  refine lq_aload rfl rfl rfl ?_
  refine lq_aload rfl rfl rfl ?_
  refine lq_iload rfl rfl ?_
  refine lq_push rfl ?_
  refine lq_iadd (v := (i + 1)) rfl rfl (by omega) ?_
  refine lq_iald0 rfl (by omega) ?_
  refine lq_aload rfl rfl rfl ?_
  refine lq_iload rfl rfl ?_
  refine lq_push rfl ?_
  refine lq_iadd (v := (i + 2)) rfl rfl (by omega) ?_
  refine lq_iald0 rfl (by omega) ?_
  refine lq_vi (as := [(2, 0), (0, (g.2.1.2.2 (6 + ((i + 1)).toNat))), (0, (g.2.1.2.2 (6 + ((i + 2)).toNat)))]) (S := []) rfl rfl rfl rfl rfl rfl (by decide) rfl (c_seen hx hg (by omega)) ?_
  rintro b_ s1 ⟨h1, h2, h3⟩
  have hm1 := mW_class hg hm h3
  refine lq_pop rfl rfl ?_
  refine lq_aload rfl rfl rfl ?_
  refine lq_aload rfl rfl rfl ?_
  refine lq_iload rfl rfl ?_
  refine lq_push rfl ?_
  refine lq_iadd (v := (i + 1)) rfl rfl (by omega) ?_
  refine lq_iald0 rfl (by omega) ?_
  refine lq_aload rfl rfl rfl ?_
  refine lq_iload rfl rfl ?_
  refine lq_push rfl ?_
  refine lq_iadd (v := (i + 2)) rfl rfl (by omega) ?_
  refine lq_iald0 rfl (by omega) ?_
  refine lq_vi (as := [(2, 547), (0, (g.2.1.2.2 (6 + ((i + 1)).toNat))), (0, (g.2.1.2.2 (6 + ((i + 2)).toNat)))]) (S := []) rfl rfl rfl rfl rfl rfl (by decide) rfl (m_seen hm1 hg (by omega)) ?_
  rintro c_ s2 ⟨k1, k2, k3⟩
  refine lq_pop rfl rfl ?_
  refine lq_goto rfl ?_
  have w_ := wG_seen (i := (g.2.1.2.2 (6 + ((i + 1)).toNat))) (c := (g.2.1.2.2 (6 + ((i + 2)).toNat))) hg
  exact hk s2 _ _ _ w_ (xW_model w_ h2 k3) k2
theorem w_said {g : Launch × XG × va_G} {σ : YS} {Z : YZ} {I : Int → YZ} {M : YS} {N i : Int} {P : Option YV → YS → Prop} (hx : xW σ Z I M) (hm : mW σ Z I M) (hg : wG Z I M N) (hN : N < 100) (hi : 0 ≤ i ∧ i + 5 ≤ g.2.1.2.2 5) (hL5 : g.2.1.2.2 5 ≤ 320) (hk : ∀ σ' Z' I' M', wG Z' I' M' (N + 1) → xW σ' Z' I' M' → mW σ' Z' I' M' → LV g 0 934 [some (3, 0), some (2, 0), some (2, 547), some (0, i)] [] σ' P) : LV g 0 753 [some (3, 0), some (2, 0), some (2, 547), some (0, i)] [] σ P := by
  refine lq_aload rfl rfl rfl ?_
  refine lq_aload rfl rfl rfl ?_
  refine lq_iload rfl rfl ?_
  refine lq_push rfl ?_
  refine lq_iadd (v := (i + 1)) rfl rfl (by omega) ?_
  refine lq_iald0 rfl (by omega) ?_
  refine lq_aload rfl rfl rfl ?_
  refine lq_iload rfl rfl ?_
  refine lq_push rfl ?_
  refine lq_iadd (v := (i + 2)) rfl rfl (by omega) ?_
  refine lq_iald0 rfl (by omega) ?_
  refine lq_vi (as := [(2, 0), (0, (g.2.1.2.2 (6 + ((i + 1)).toNat))), (0, (g.2.1.2.2 (6 + ((i + 2)).toNat)))]) (S := []) rfl rfl rfl rfl rfl rfl (by decide) rfl (c_said hx hg (by omega)) ?_
  rintro b_ s1 ⟨h1, h2, h3⟩
  have hm1 := mW_class hg hm h3
  refine lq_pop rfl rfl ?_
  refine lq_aload rfl rfl rfl ?_
  refine lq_aload rfl rfl rfl ?_
  refine lq_iload rfl rfl ?_
  refine lq_push rfl ?_
  refine lq_iadd (v := (i + 1)) rfl rfl (by omega) ?_
  refine lq_iald0 rfl (by omega) ?_
  refine lq_aload rfl rfl rfl ?_
  refine lq_iload rfl rfl ?_
  refine lq_push rfl ?_
  refine lq_iadd (v := (i + 2)) rfl rfl (by omega) ?_
  refine lq_iald0 rfl (by omega) ?_
  refine lq_vi (as := [(2, 547), (0, (g.2.1.2.2 (6 + ((i + 1)).toNat))), (0, (g.2.1.2.2 (6 + ((i + 2)).toNat)))]) (S := []) rfl rfl rfl rfl rfl rfl (by decide) rfl (m_said hm1 hg (by omega)) ?_
  rintro c_ s2 ⟨k1, k2, k3⟩
  refine lq_pop rfl rfl ?_
  refine lq_goto rfl ?_
  have e_ : (ksaidM Z M ((g.2.1.2.2 (6 + ((i + 1)).toNat))) ((g.2.1.2.2 (6 + ((i + 2)).toNat)))).2 = (ksaid Z M ((g.2.1.2.2 (6 + ((i + 1)).toNat))) ((g.2.1.2.2 (6 + ((i + 2)).toNat)))).2 := by unfold ksaidM ksaid; split <;> rfl
  rw [e_] at k2
  have w_ := wG_same (N := N) (ksaid_2 (Z := Z) (M := M) (m := (g.2.1.2.2 (6 + ((i + 1)).toNat))) (q := (g.2.1.2.2 (6 + ((i + 2)).toNat)))) hg
  exact hk s2 _ _ _ w_ (xW_model w_ h2 k3) k2
theorem w_emptied {g : Launch × XG × va_G} {σ : YS} {Z : YZ} {I : Int → YZ} {M : YS} {N i : Int} {P : Option YV → YS → Prop} (hx : xW σ Z I M) (hm : mW σ Z I M) (hg : wG Z I M N) (hN : N < 100) (hi : 0 ≤ i ∧ i + 5 ≤ g.2.1.2.2 5) (hL5 : g.2.1.2.2 5 ≤ 320) (hk : ∀ σ' Z' I' M', wG Z' I' M' (N + 1) → xW σ' Z' I' M' → mW σ' Z' I' M' → LV g 0 934 [some (3, 0), some (2, 0), some (2, 547), some (0, i)] [] σ' P) : LV g 0 786 [some (3, 0), some (2, 0), some (2, 547), some (0, i)] [] σ P := by
  refine lq_aload rfl rfl rfl ?_
  refine lq_aload rfl rfl rfl ?_
  refine lq_iload rfl rfl ?_
  refine lq_push rfl ?_
  refine lq_iadd (v := (i + 1)) rfl rfl (by omega) ?_
  refine lq_iald0 rfl (by omega) ?_
  refine lq_aload rfl rfl rfl ?_
  refine lq_iload rfl rfl ?_
  refine lq_push rfl ?_
  refine lq_iadd (v := (i + 2)) rfl rfl (by omega) ?_
  refine lq_iald0 rfl (by omega) ?_
  refine lq_aload rfl rfl rfl ?_
  refine lq_iload rfl rfl ?_
  refine lq_push rfl ?_
  refine lq_iadd (v := (i + 3)) rfl rfl (by omega) ?_
  refine lq_iald0 rfl (by omega) ?_
  refine lq_vi (as := [(2, 0), (0, (g.2.1.2.2 (6 + ((i + 1)).toNat))), (0, (g.2.1.2.2 (6 + ((i + 2)).toNat))), (0, (g.2.1.2.2 (6 + ((i + 3)).toNat)))]) (S := []) rfl rfl rfl rfl rfl rfl (by decide) rfl (c_emptied hx hg (by omega)) ?_
  rintro b_ s1 ⟨h1, h3⟩
  have hm1 := mW_class hg hm h3
  refine lq_pop rfl rfl ?_
  refine lq_aload rfl rfl rfl ?_
  refine lq_aload rfl rfl rfl ?_
  refine lq_iload rfl rfl ?_
  refine lq_push rfl ?_
  refine lq_iadd (v := (i + 1)) rfl rfl (by omega) ?_
  refine lq_iald0 rfl (by omega) ?_
  refine lq_aload rfl rfl rfl ?_
  refine lq_iload rfl rfl ?_
  refine lq_push rfl ?_
  refine lq_iadd (v := (i + 2)) rfl rfl (by omega) ?_
  refine lq_iald0 rfl (by omega) ?_
  refine lq_aload rfl rfl rfl ?_
  refine lq_iload rfl rfl ?_
  refine lq_push rfl ?_
  refine lq_iadd (v := (i + 3)) rfl rfl (by omega) ?_
  refine lq_iald0 rfl (by omega) ?_
  refine lq_vi (as := [(2, 547), (0, (g.2.1.2.2 (6 + ((i + 1)).toNat))), (0, (g.2.1.2.2 (6 + ((i + 2)).toNat))), (0, (g.2.1.2.2 (6 + ((i + 3)).toNat)))]) (S := []) rfl rfl rfl rfl rfl rfl (by decide) rfl (m_emptied hm1 hg (by omega)) ?_
  rintro c_ s2 ⟨k2, k3⟩
  refine lq_pop rfl rfl ?_
  refine lq_goto rfl ?_
  by_cases cc_ : (0 ≤ (g.2.1.2.2 (6 + ((i + 1)).toNat)) ∧ (g.2.1.2.2 (6 + ((i + 1)).toNat)) ≤ 60) ∧ (0 ≤ (g.2.1.2.2 (6 + ((i + 2)).toNat)) ∧ (g.2.1.2.2 (6 + ((i + 2)).toNat)) < Z 0 0 0) ∧ -1 ≤ (g.2.1.2.2 (6 + ((i + 3)).toNat))
  · rw [if_pos cc_] at h1 k2
    have w_ := wG_N hg (show N ≤ N + 1 by omega)
    exact hk s2 _ _ _ w_ (xW_model w_ h1.2 k3) k2
  · rw [if_neg cc_] at h1 k2
    have w_ := wG_bump hg (show (0 : Int) ≤ 0 ∧ (0 : Int) < 3 by decide)
    exact hk s2 _ _ _ w_ (xW_model w_ h1.2 k3) k2
theorem w_image {g : Launch × XG × va_G} {σ : YS} {Z : YZ} {I : Int → YZ} {M : YS} {N i : Int} {P : Option YV → YS → Prop} (hx : xW σ Z I M) (hm : mW σ Z I M) (hg : wG Z I M N) (hN : N < 100) (hi : 0 ≤ i ∧ i + 5 ≤ g.2.1.2.2 5) (hL5 : g.2.1.2.2 5 ≤ 320) (hk : ∀ σ' Z' I' M', wG Z' I' M' (N + 1) → xW σ' Z' I' M' → mW σ' Z' I' M' → LV g 0 934 [some (3, 0), some (2, 0), some (2, 547), some (0, i)] [] σ' P) : LV g 0 829 [some (3, 0), some (2, 0), some (2, 547), some (0, i)] [] σ P := by
  refine lq_aload rfl rfl rfl ?_
  refine lq_aload rfl rfl rfl ?_
  refine lq_iload rfl rfl ?_
  refine lq_push rfl ?_
  refine lq_iadd (v := (i + 1)) rfl rfl (by omega) ?_
  refine lq_iald0 rfl (by omega) ?_
  refine lq_vi (as := [(2, 0), (0, (g.2.1.2.2 (6 + ((i + 1)).toNat)))]) (S := []) rfl rfl rfl rfl rfl rfl (by decide) rfl (c_image hx hg (by omega)) ?_
  rintro b_ s1 ⟨h1, h2, h3⟩
  have hm1 := mW_class hg hm h3
  refine lq_pop rfl rfl ?_
  refine lq_aload rfl rfl rfl ?_
  refine lq_aload rfl rfl rfl ?_
  refine lq_iload rfl rfl ?_
  refine lq_push rfl ?_
  refine lq_iadd (v := (i + 1)) rfl rfl (by omega) ?_
  refine lq_iald0 rfl (by omega) ?_
  refine lq_vi (as := [(2, 547), (0, (g.2.1.2.2 (6 + ((i + 1)).toNat)))]) (S := []) rfl rfl rfl rfl rfl rfl (by decide) rfl (m_image hm1 hg (by omega)) ?_
  rintro c_ s2 ⟨k1, k2, k3⟩
  refine lq_pop rfl rfl ?_
  refine lq_goto rfl ?_
  have w_ := wG_image (i := (g.2.1.2.2 (6 + ((i + 1)).toNat))) hg
  exact hk s2 _ _ _ w_ (xW_model w_ h2 k3) k2
theorem w_from {g : Launch × XG × va_G} {σ : YS} {Z : YZ} {I : Int → YZ} {M : YS} {N i : Int} {P : Option YV → YS → Prop} (hx : xW σ Z I M) (hm : mW σ Z I M) (hg : wG Z I M N) (hN : N < 100) (hi : 0 ≤ i ∧ i + 5 ≤ g.2.1.2.2 5) (hL5 : g.2.1.2.2 5 ≤ 320) (hk : ∀ σ' Z' I' M', wG Z' I' M' (N + 1) → xW σ' Z' I' M' → mW σ' Z' I' M' → LV g 0 934 [some (3, 0), some (2, 0), some (2, 547), some (0, i)] [] σ' P) : LV g 0 852 [some (3, 0), some (2, 0), some (2, 547), some (0, i)] [] σ P := by
  refine lq_aload rfl rfl rfl ?_
  refine lq_aload rfl rfl rfl ?_
  refine lq_iload rfl rfl ?_
  refine lq_push rfl ?_
  refine lq_iadd (v := (i + 1)) rfl rfl (by omega) ?_
  refine lq_iald0 rfl (by omega) ?_
  refine lq_vi (as := [(2, 0), (0, (g.2.1.2.2 (6 + ((i + 1)).toNat)))]) (S := []) rfl rfl rfl rfl rfl rfl (by decide) rfl (c_from hx hg (by omega)) ?_
  rintro b_ s1 ⟨h1, h2, h3⟩
  have hm1 := mW_class hg hm h3
  refine lq_pop rfl rfl ?_
  refine lq_aload rfl rfl rfl ?_
  refine lq_aload rfl rfl rfl ?_
  refine lq_iload rfl rfl ?_
  refine lq_push rfl ?_
  refine lq_iadd (v := (i + 1)) rfl rfl (by omega) ?_
  refine lq_iald0 rfl (by omega) ?_
  refine lq_vi (as := [(2, 547), (0, (g.2.1.2.2 (6 + ((i + 1)).toNat)))]) (S := []) rfl rfl rfl rfl rfl rfl (by decide) rfl (m_from hm1 hg (by omega)) ?_
  rintro c_ s2 ⟨k1, k2, k3⟩
  refine lq_pop rfl rfl ?_
  refine lq_goto rfl ?_
  have w_ := wG_from (i := (g.2.1.2.2 (6 + ((i + 1)).toNat))) hg
  exact hk s2 _ _ _ w_ (xW_model w_ h2 k3) k2
theorem w_status {g : Launch × XG × va_G} {σ : YS} {Z : YZ} {I : Int → YZ} {M : YS} {N i : Int} {P : Option YV → YS → Prop} (hx : xW σ Z I M) (hm : mW σ Z I M) (hg : wG Z I M N) (hN : N < 100) (hi : 0 ≤ i ∧ i + 5 ≤ g.2.1.2.2 5) (hL5 : g.2.1.2.2 5 ≤ 320) (hk : ∀ σ' Z' I' M', wG Z' I' M' (N + 1) → xW σ' Z' I' M' → mW σ' Z' I' M' → LV g 0 934 [some (3, 0), some (2, 0), some (2, 547), some (0, i)] [] σ' P) : LV g 0 875 [some (3, 0), some (2, 0), some (2, 547), some (0, i)] [] σ P := by
  refine lq_aload rfl rfl rfl ?_
  refine lq_aload rfl rfl rfl ?_
  refine lq_iload rfl rfl ?_
  refine lq_push rfl ?_
  refine lq_iadd (v := (i + 1)) rfl rfl (by omega) ?_
  refine lq_iald0 rfl (by omega) ?_
  refine lq_vi (as := [(2, 0), (0, (g.2.1.2.2 (6 + ((i + 1)).toNat)))]) (S := []) rfl rfl rfl rfl rfl rfl (by decide) rfl (c_status hx hg (by omega)) ?_
  rintro b_ s1 ⟨h1, h2, h3⟩
  have hm1 := mW_class hg hm h3
  refine lq_pop rfl rfl ?_
  refine lq_aload rfl rfl rfl ?_
  refine lq_aload rfl rfl rfl ?_
  refine lq_iload rfl rfl ?_
  refine lq_push rfl ?_
  refine lq_iadd (v := (i + 1)) rfl rfl (by omega) ?_
  refine lq_iald0 rfl (by omega) ?_
  refine lq_vi (as := [(2, 547), (0, (g.2.1.2.2 (6 + ((i + 1)).toNat)))]) (S := []) rfl rfl rfl rfl rfl rfl (by decide) rfl (m_status hm1 hg (by omega)) ?_
  rintro c_ s2 ⟨k1, k2, k3⟩
  refine lq_pop rfl rfl ?_
  refine lq_goto rfl ?_
  have w_ : wG (kstatus Z M ((g.2.1.2.2 (6 + ((i + 1)).toNat)))).2.1 I (kstatus Z M ((g.2.1.2.2 (6 + ((i + 1)).toNat)))).2.2 (N + 1) := wG_same (by unfold kstatus; (repeat' split) <;> first | exact Or.inl rfl | exact Or.inr ⟨_, by decide, rfl⟩) hg
  exact hk s2 _ _ _ w_ (xW_model w_ h2 k3) k2
theorem w_count {g : Launch × XG × va_G} {σ : YS} {Z : YZ} {I : Int → YZ} {M : YS} {N i : Int} {P : Option YV → YS → Prop} (hx : xW σ Z I M) (hm : mW σ Z I M) (hg : wG Z I M N) (hN : N < 100) (hi : 0 ≤ i ∧ i + 5 ≤ g.2.1.2.2 5) (hL5 : g.2.1.2.2 5 ≤ 320) (hk : ∀ σ' Z' I' M', wG Z' I' M' (N + 1) → xW σ' Z' I' M' → mW σ' Z' I' M' → LV g 0 934 [some (3, 0), some (2, 0), some (2, 547), some (0, i)] [] σ' P) : LV g 0 898 [some (3, 0), some (2, 0), some (2, 547), some (0, i)] [] σ P := by
  refine lq_aload rfl rfl rfl ?_
  refine lq_aload rfl rfl rfl ?_
  refine lq_iload rfl rfl ?_
  refine lq_push rfl ?_
  refine lq_iadd (v := (i + 1)) rfl rfl (by omega) ?_
  refine lq_iald0 rfl (by omega) ?_
  refine lq_vi (as := [(2, 0), (0, (g.2.1.2.2 (6 + ((i + 1)).toNat)))]) (S := []) rfl rfl rfl rfl rfl rfl (by decide) rfl (c_count hx hg (by omega)) ?_
  rintro b_ s1 ⟨h1, h2, h3⟩
  have hm1 := mW_class hg hm h3
  refine lq_pop rfl rfl ?_
  refine lq_aload rfl rfl rfl ?_
  refine lq_aload rfl rfl rfl ?_
  refine lq_iload rfl rfl ?_
  refine lq_push rfl ?_
  refine lq_iadd (v := (i + 1)) rfl rfl (by omega) ?_
  refine lq_iald0 rfl (by omega) ?_
  refine lq_vi (as := [(2, 547), (0, (g.2.1.2.2 (6 + ((i + 1)).toNat)))]) (S := []) rfl rfl rfl rfl rfl rfl (by decide) rfl (m_count hm1 hg (by omega)) ?_
  rintro c_ s2 ⟨k1, k2, k3⟩
  refine lq_pop rfl rfl ?_
  refine lq_goto rfl ?_
  have w_ : wG (kcount Z M ((g.2.1.2.2 (6 + ((i + 1)).toNat)))).2.1 I (kcount Z M ((g.2.1.2.2 (6 + ((i + 1)).toNat)))).2.2 (N + 1) := wG_same (by unfold kcount; (repeat' split) <;> first | exact Or.inl rfl | exact Or.inr ⟨_, by decide, rfl⟩) hg
  exact hk s2 _ _ _ w_ (xW_model w_ h2 k3) k2
theorem w_digest {g : Launch × XG × va_G} {σ : YS} {Z : YZ} {I : Int → YZ} {M : YS} {N i : Int} {P : Option YV → YS → Prop} (hx : xW σ Z I M) (hm : mW σ Z I M) (hg : wG Z I M N) (hN : N < 100) (hi : 0 ≤ i ∧ i + 5 ≤ g.2.1.2.2 5) (hL5 : g.2.1.2.2 5 ≤ 320) (hk : ∀ σ' Z' I' M', wG Z' I' M' (N + 1) → xW σ' Z' I' M' → mW σ' Z' I' M' → LV g 0 934 [some (3, 0), some (2, 0), some (2, 547), some (0, i)] [] σ' P) : LV g 0 921 [some (3, 0), some (2, 0), some (2, 547), some (0, i)] [] σ P := by
  refine lq_aload rfl rfl rfl ?_
  refine lq_vj (as := [(2, 0)]) (S := []) rfl rfl rfl rfl rfl rfl (by decide) rfl (c_digest hx hg (by omega)) ?_
  rintro b_ _ ⟨rfl, h1⟩
  have hm1 := hm
  have h2 := hx
  refine lq_pop2 rfl ?_
  refine lq_aload rfl rfl rfl ?_
  refine lq_vj (as := [(2, 547)]) (S := []) rfl rfl rfl rfl rfl rfl (by decide) rfl (m_digest hm1 hg (by omega)) ?_
  rintro c_ s2 ⟨k1, k2, k3⟩
  refine lq_pop2 rfl ?_
  refine lq_goto rfl ?_
  have w_ := wG_N hg (show N ≤ N + 1 by omega)
  exact hk s2 _ _ _ w_ (xW_model w_ h2 k3) k2
