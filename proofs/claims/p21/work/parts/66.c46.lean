/-! The class: an item obeyed. -/
theorem x_obey {g : Launch × XG × va_G} {σ : YS} {T : Int → Int} {L p w N : Int} {r : YO} (hL : σ 140 2 = L) (hT : ∀ k, 0 ≤ k → k < L → σ 141 k = T k) (hTr : ∀ k, 0 ≤ k → k < L → 0 ≤ T k ∧ T k ≤ 255) (hl : 0 ≤ L ∧ L ≤ 200) (hw : w = lwd T L p + 5) (hwl : 0 ≤ lwd T L p ∧ lwd T L p ≤ 3) (hA : σ 142 0 = itA T L p) (hB : lwd T L p = 1 ∨ lwd T L p = 2 → σ 142 1 = itB T L p) (hS : lwd T L p = 3 → σ 140 8 = itG T L p ∧ σ 140 9 = itG T L p + itM T L p ∧ 0 ≤ itG T L p ∧ 1 ≤ itM T L p ∧ itG T L p + itM T L p ≤ L) (ho : oG r N) (hr1 : r.1 ≠ 0) (hrr : rep σ 37 r.2.1 r.2.2 ∨ (lwd T L p = 0 ∧ σ 37 7 = r.2.2 6 0)) : YI g 154 [(2, 140), (2, 37), (0, w)] σ (fun b σ' => (b < 0 ∧ (ob1 T L p r).1 = 0 ∧ (∀ x y, ¬ (37 ≤ x ∧ x ≤ 49) → σ' x y = σ x y)) ∨ (0 ≤ b ∧ (ob1 T L p r).1 ≠ 0 ∧ rep σ' 37 (ob1 T L p r).2.1 (ob1 T L p r).2.2 ∧ (∀ x y, ¬ (37 ≤ x ∧ x ≤ 49) → σ' x y = σ x y))) := by
  refine y_start rfl rfl rfl ?_
  refine y_iload rfl rfl ?_
  refine y_tsw3 rfl rfl (by decide) rfl rfl rfl rfl (fun q1 => ?_) (fun q1 => ?_) (fun q1 => ?_) (fun q1 => ?_)
  · skip
    refine y_aload rfl rfl rfl ?_
    refine y_aload rfl rfl rfl ?_
    have hr : rep σ 37 r.2.1 r.2.2 := hrr.resolve_right (fun z => by omega)
    have ⟨s1, s2, s3, s4, s5⟩ := hS (by omega)
    have em : (itG T L p + itM T L p - itG T L p).toNat = (itM T L p).toNat := by rw [show itG T L p + itM T L p - itG T L p = itM T L p by omega]
    have e : ob1 T L p r = obS T (itA T L p) (itG T L p) r (itM T L p).toNat := by unfold ob1; rw [if_neg (by omega), if_neg (by omega), if_neg (by omega)]
    refine y_vi (as := [(2, 140), (2, 37)]) (S := []) rfl rfl rfl rfl rfl rfl (by decide) rfl (x_writeSlip hL hT hTr hl hA s1 s2 ⟨s3, by omega, s5⟩ ho hr1 hr) ?_
    rintro b_ s_ y_
    refine y_iret rfl rfl ⟨_, rfl, ?_⟩
    rw [em] at y_
    rw [e]
    exact y_
  · skip
    refine y_aload rfl rfl rfl ?_
    refine y_aload rfl rfl rfl ?_
    refine y_gfr (t := 142) rfl rfl (by decide) rfl (by decide) ?_
    refine y_push rfl ?_
    refine y_iald (v := (σ 142 0)) (n := 2) rfl rfl (by decide) rfl (by decide) rfl ?_
    have hs7 : σ 37 7 = r.2.2 6 0 := by
      rcases hrr with z | z
      · exact z.1.2.2.2
      · exact z.2
    refine y_vi (as := [(2, 37), (0, (σ 142 0))]) (S := []) rfl rfl rfl rfl rfl rfl (yS_0 yS_37).1 (yS_c yS_37) (c_begin (E := r.2.1) (D := r.2.2) yS_37 ho.2.2.2.1 hs7) ?_
    rintro b_ s_ (⟨hv, rfl, z1, z2⟩ | ⟨hv, rfl, rfl⟩)
    · skip
      refine y_iret rfl rfl ⟨_, rfl, ?_⟩
      rw [hA] at hv
      rw [hA] at z1
      have e : ob1 T L p r = (1, begE r.2.1 (itA T L p), begD r.2.2) := by unfold ob1; rw [if_pos (by omega), if_pos hv]
      rw [e]
      exact Or.inr ⟨by omega, by show (1 : Int) ≠ 0; decide, z1, fun x y hx => z2 x y (by omega)⟩
    · skip
      refine y_iret rfl rfl ⟨_, rfl, ?_⟩
      rw [hA] at hv
      have e : (ob1 T L p r).1 = 0 := by unfold ob1; rw [if_pos (by omega), if_neg (fun z => hv z)]
      exact Or.inl ⟨by omega, e, fun _ _ _ => rfl⟩
  · skip
    refine y_aload rfl rfl rfl ?_
    refine y_aload rfl rfl rfl ?_
    refine y_gfr (t := 142) rfl rfl (by decide) rfl (by decide) ?_
    refine y_push rfl ?_
    refine y_iald (v := (σ 142 0)) (n := 2) rfl rfl (by decide) rfl (by decide) rfl ?_
    refine y_aload rfl rfl rfl ?_
    refine y_gfr (t := 142) rfl rfl (by decide) rfl (by decide) ?_
    refine y_push rfl ?_
    refine y_iald (v := (σ 142 1)) (n := 2) rfl rfl (by decide) rfl (by decide) rfl ?_
    have hr : rep σ 37 r.2.1 r.2.2 := hrr.resolve_right (fun z => by omega)
    have hB1 := hB (by omega)
    have he0 := ho.1.1
    refine y_vi (as := [(2, 37), (0, (σ 142 0)), (0, (σ 142 1))]) (S := []) rfl rfl rfl rfl rfl rfl (yS_0 yS_37).1 (yS_c yS_37) (c_pour (E := r.2.1) (D := r.2.2) yS_37 hr ho.1 ho.2.1) ?_
    rintro b_ s_ (⟨hv, hv2, rfl, z1, z2⟩ | ⟨hv, rfl, rfl⟩)
    · skip
      have hd0 := ho.2.1.1 (σ 142 0) (by omega) (by omega)
      refine y_iret rfl rfl ⟨_, rfl, ?_⟩
      rw [hA] at hv
      rw [hA] at z1
      rw [hB1] at hv2 z1
      have e : ob1 T L p r = (1, r.2.1, yset r.2.2 0 (itA T L p) (itB T L p)) := by unfold ob1; rw [if_neg (by omega), if_pos (by omega), if_pos ⟨hv, hv2⟩]
      rw [e]
      exact Or.inr ⟨by omega, by show (1 : Int) ≠ 0; decide, z1, fun x y hx => z2 x y (by omega)⟩
    · skip
      refine y_iret rfl rfl ⟨_, rfl, ?_⟩
      rw [hA, hB1] at hv
      have e : (ob1 T L p r).1 = 0 := by unfold ob1; rw [if_neg (by omega), if_pos (by omega), if_neg (fun z => hv z)]
      exact Or.inl ⟨by omega, e, fun _ _ _ => rfl⟩
  · skip
    refine y_aload rfl rfl rfl ?_
    refine y_aload rfl rfl rfl ?_
    refine y_gfr (t := 142) rfl rfl (by decide) rfl (by decide) ?_
    refine y_push rfl ?_
    refine y_iald (v := (σ 142 0)) (n := 2) rfl rfl (by decide) rfl (by decide) rfl ?_
    refine y_aload rfl rfl rfl ?_
    refine y_gfr (t := 142) rfl rfl (by decide) rfl (by decide) ?_
    refine y_push rfl ?_
    refine y_iald (v := (σ 142 1)) (n := 2) rfl rfl (by decide) rfl (by decide) rfl ?_
    have hr : rep σ 37 r.2.1 r.2.2 := hrr.resolve_right (fun z => by omega)
    have hB1 := hB (by omega)
    have he1 := ho.1.2.1
    refine y_vi (as := [(2, 37), (0, (σ 142 0)), (0, (σ 142 1))]) (S := []) rfl rfl rfl rfl rfl rfl (yS_0 yS_37).1 (yS_c yS_37) (c_enter (E := r.2.1) (D := r.2.2) yS_37 hr ho.1 ho.2.1) ?_
    rintro b_ s_ (⟨hv, hv2, hv3, rfl, z1, z2⟩ | ⟨hv, rfl, rfl⟩ | ⟨hv, hv2, rfl, rfl⟩)
    · skip
      refine y_iret rfl rfl ⟨_, rfl, ?_⟩
      rw [hA] at hv
      rw [hA] at z1
      rw [hB1] at hv2 z1
      have e : ob1 T L p r = (1, entE r.2.1 (itA T L p), entD r.2.1 r.2.2 (itB T L p)) := by unfold ob1; rw [if_neg (by omega), if_neg (by omega), if_pos (by omega), if_pos ⟨hv, hv2, hv3⟩]
      rw [e]
      exact Or.inr ⟨by omega, by show (1 : Int) ≠ 0; decide, z1, fun x y hx => z2 x y (by omega)⟩
    · skip
      refine y_iret rfl rfl ⟨_, rfl, ?_⟩
      rw [hA, hB1] at hv
      have e : (ob1 T L p r).1 = 0 := by unfold ob1; rw [if_neg (by omega), if_neg (by omega), if_pos (by omega), if_neg (fun z => hv ⟨z.1, z.2.1⟩)]
      exact Or.inl ⟨by omega, e, fun _ _ _ => rfl⟩
    · skip
      refine y_iret rfl rfl ⟨_, rfl, ?_⟩
      rw [hA, hB1] at hv
      have e : (ob1 T L p r).1 = 0 := by unfold ob1; rw [if_neg (by omega), if_neg (by omega), if_pos (by omega), if_neg (fun z => by omega)]
      exact Or.inl ⟨by omega, e, fun _ _ _ => rfl⟩
