/-! Tokens and parts of items. -/
theorem rend_fig {T : Int → Int} {L s : Int} (h : s < L) (f : 48 ≤ T s ∧ T s ≤ 57) : s + 1 ≤ rend isFig T L s := by
  rw [rend_go h (by unfold isFig; exact decide_eq_true f)]
  exact (rend_r (by omega)).1
theorem rend_nofig {T : Int → Int} {L s : Int} (f : ¬ (48 ≤ T s ∧ T s ≤ 57)) : rend isFig T L s = s := rend_at (fun z => f (of_decide_eq_true z.2))
/-- a number's token -/
theorem xtok_num {T : Int → Int} {L p : Int} (h0 : 0 ≤ p) (hp : p ≤ L) : (xtok T L (nmS T L p) = 2 ∧ nmF T L p = -1 ∧ xtend T L (nmS T L p) = nmD T L p ∧ nmV T L p = nv T (nmS T L p) (nmD T L p)) ∨ (xtok T L (nmS T L p) ≠ 2 ∧ nmF T L p = nmS T L p) := by
  have hs := nmS_r (T := T) hp
  unfold nmF nmV nmD
  generalize nmS T L p = s at hs ⊢
  by_cases e : s = L
  · rw [if_pos e, (xtok_0 (by omega)).1]
    exact Or.inr ⟨by omega, e.symm⟩
  · rw [if_neg e, if_neg e, if_neg e]
    have lr := lwd_r (T := T) (L := L) (p := s)
    by_cases f : 48 ≤ T s ∧ T s ≤ 57
    · have g := rend_fig (T := T) (L := L) (s := s) (by omega) f
      rw [(xtok_F (by omega) (by omega) f).1, (xtok_F (by omega) (by omega) f).2]
      by_cases d : rend isFig T L s - s ≤ 2
      · rw [if_pos d, if_neg (by omega)]
        exact Or.inl ⟨rfl, rfl, rfl, rfl⟩
      · rw [if_neg d, if_pos (by omega)]
        exact Or.inr ⟨by omega, rfl⟩
    · rw [rend_nofig f, if_pos (Or.inl rfl)]
      refine Or.inr ⟨?_, rfl⟩
      unfold xtok
      (repeat' split) <;> omega
/-- an item's end -/
theorem xtok_end {T : Int → Int} {L p : Int} (h0 : 0 ≤ p) (hp : p ≤ L) : (xtok T L (nmS T L p) = 4 ∧ enF T L p = -1 ∧ xtend T L (nmS T L p) = nmS T L p + 1) ∨ (xtok T L (nmS T L p) ≠ 4 ∧ enF T L p = nmS T L p) := by
  have hs := nmS_r (T := T) hp
  unfold enF
  generalize nmS T L p = s at hs ⊢
  have lr := lwd_r (T := T) (L := L) (p := s)
  by_cases e : s = L ∨ T s ≠ 59
  · rw [if_pos e]
    refine Or.inr ⟨?_, rfl⟩
    unfold xtok
    (repeat' split) <;> omega
  · rw [if_neg e, (xtok_E (by omega) (by omega) (by omega) (by omega)).1, (xtok_E (by omega) (by omega) (by omega) (by omega)).2, if_pos (by omega)]
    exact Or.inl ⟨rfl, rfl, rfl⟩
/-- a quoted slip's token -/
theorem xtok_sl {T : Int → Int} {L p : Int} (h0 : 0 ≤ p) (hp : p ≤ L) : (xtok T L (nmS T L p) = 3 ∧ sqF T L p = -1 ∧ xtend T L (nmS T L p) = sqG T L p + 1) ∨ (xtok T L (nmS T L p) ≠ 3 ∧ sqF T L p = nmS T L p) := by
  have hs := nmS_r (T := T) hp
  unfold sqF sqOk sqG
  generalize nmS T L p = s at hs ⊢
  have lr := lwd_r (T := T) (L := L) (p := s)
  by_cases e : s = L
  · rw [if_pos e, (xtok_0 (by omega)).1]
    exact Or.inr ⟨by omega, e.symm⟩
  · rw [if_neg e]
    by_cases q : T s = 34
    · rw [(xtok_Q (by omega) (by omega) (by omega) q).1, (xtok_Q (by omega) (by omega) (by omega) q).2]
      by_cases k : (rend isSg T L (s + 1) < L ∧ T (rend isSg T L (s + 1)) = 34) ∧ 1 ≤ rend isSg T L (s + 1) - s - 1 ∧ rend isSg T L (s + 1) - s - 1 ≤ 24
      · rw [if_pos k, if_pos ⟨q, k.1.1, k.1.2, k.2.1, k.2.2⟩, if_pos k.1]
        exact Or.inl ⟨rfl, rfl, rfl⟩
      · rw [if_neg k, if_neg (fun z => k ⟨⟨z.2.1, z.2.2.1⟩, z.2.2.2⟩)]
        exact Or.inr ⟨by omega, rfl⟩
    · rw [if_neg (fun z => q z.1)]
      refine Or.inr ⟨?_, rfl⟩
      unfold xtok
      (repeat' split) <;> omega
/-- a word's token -/
theorem xtok_wd {T : Int → Int} {L s : Int} (hs : s ≤ L) : (5 ≤ xtok T L s ∧ xtok T L s = lwd T L s + 5 ∧ 0 ≤ lwd T L s ∧ xtend T L s = itE T L s) ∨ (xtok T L s < 5 ∧ lwd T L s = -1) := by
  have lr := lwd_r (T := T) (L := L) (p := s)
  by_cases q : s < L ∧ 97 ≤ T s ∧ T s ≤ 122
  · rw [(xtok_L (by omega) q.2).1, (xtok_L (by omega) q.2).2]
    split
    · rename_i z; exact Or.inr ⟨by omega, z⟩
    · exact Or.inl ⟨by omega, rfl, by omega, rfl⟩
  · have e : rend isLet T L s = s := rend_at (fun z => q ⟨z.1, of_decide_eq_true z.2⟩)
    have e2 : lwd T L s = -1 := by
      unfold lwd
      rw [e, show (min (s - s) 7).toNat = 0 by omega]
      rfl
    refine Or.inr ⟨?_, e2⟩
    unfold xtok
    (repeat' split) <;> omega
