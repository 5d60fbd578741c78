/-! How the model holds a street that goes. -/
def rmi (σ : YS) (E D : YS) (i : Int) : Prop := (σ 555 i = D 1 i ∧ σ 556 i = D 2 i ∧ σ 557 i = D 3 i ∧ σ 558 i = D 4 i) ∧ (σ 559 i = E 3 i ∧ σ 548 (11 + i) = E 2 i) ∧ (∀ k, 0 ≤ k → k < E 3 i → σ 560 (25 * i + k) = msg E i k) ∧ (D 4 i = 0 → ∀ k, 0 ≤ k → k < E 3 i → msg E i k = 7 ∨ msg E i k = 8 → σ 561 (25 * i + k) = mpa E i k)
def rm (σ : YS) (E D : YS) : Prop := (σ 548 0 = E 0 0 ∧ σ 548 10 = E 1 0 ∧ σ 547 18 = D 5 0) ∧ (∀ c, 0 ≤ c → c < 9 → σ 554 c = D 0 c) ∧ (∀ i, 0 ≤ i → i < E 1 0 → rmi σ E D i) ∧ ∀ q, 0 ≤ q → q < E 1 0 → (yand (yshr (σ 547 19) q) 1 = 1 ↔ mth E q)
def rfr (σ σ' : YS) : Prop := ∀ x y, ¬ (554 ≤ x ∧ x ≤ 558) → ¬ (x = 547 ∧ y = 18) → σ' x y = σ x y
theorem rfr_0 (σ : YS) : rfr σ σ := fun _ _ _ _ => rfl
theorem rfr_s {σ σ' : YS} {k j v : Int} (h : rfr σ σ') (hk : (554 ≤ k ∧ k ≤ 558) ∨ (k = 547 ∧ j = 18)) : rfr σ (yset σ' k j v) := fun x y a b => by rw [yne (by omega) rfl]; exact h x y a b
theorem rfr_t {σ σ' σ'' : YS} (h : rfr σ σ') (h' : rfr σ' σ'') : rfr σ σ'' := fun x y a b => (h' x y a b).trans (h x y a b)
theorem rfr_m {σ σ' : YS} (h : rfr σ σ') : mfs σ σ' := fun x y hx => h x y (by omega) (by omega)
theorem yset_id {D : YS} {r c : Int} : yset D r c (D r c) = D := by
  funext a b
  by_cases e : a = r ∧ b = c
  · obtain ⟨rfl, rfl⟩ := e; rw [yeq]
  · rw [yne e rfl]
theorem rm_w {σ : YS} {E D : YS} {c v : Int} (h : rm σ E D) : rm (yset σ 554 c v) E (yset D 0 c v) := by
  obtain ⟨⟨h1, h2, h3⟩, h4, h5, h6⟩ := h
  refine ⟨⟨by rw [yne (by omega) rfl]; exact h1, by rw [yne (by omega) rfl]; exact h2, by rw [yne (by omega) rfl, yne (by omega) rfl]; exact h3⟩, fun d a b => ?_, fun i a b => ?_, fun q a b => by rw [yne (by omega) rfl]; exact h6 q a b⟩
  · by_cases e : d = c
    · subst e; rw [yeq, yeq]
    · rw [yne (by omega) rfl, yne (by omega) rfl]; exact h4 d a b
  · obtain ⟨⟨g1, g2, g3, g4⟩, ⟨g5, g6⟩, g7, g8⟩ := h5 i a b
    refine ⟨⟨?_, ?_, ?_, ?_⟩, ⟨?_, ?_⟩, fun k x y => ?_, fun z k x y w => ?_⟩ <;> try rw [yne (by omega) rfl]
    · rw [yne (by omega) rfl]; exact g1
    · rw [yne (by omega) rfl]; exact g2
    · rw [yne (by omega) rfl]; exact g3
    · rw [yne (by omega) rfl]; exact g4
    · exact g5
    · exact g6
    · exact g7 k x y
    · exact g8 (by rw [yne (by omega) rfl] at z; exact z) k x y w
theorem rm_num {σ : YS} {E D : YS} {v : Int} (h : rm σ E D) : rm (yset σ 547 18 v) E (yset D 5 0 v) := by
  obtain ⟨⟨h1, h2, h3⟩, h4, h5, h6⟩ := h
  refine ⟨⟨by rw [yne (by omega) rfl]; exact h1, by rw [yne (by omega) rfl]; exact h2, by rw [yeq, yeq]⟩, fun d a b => by rw [yne (by omega) rfl, yne (by omega) rfl]; exact h4 d a b, fun i a b => ?_, fun q a b => by rw [yne (by omega) rfl]; exact h6 q a b⟩
  obtain ⟨⟨g1, g2, g3, g4⟩, ⟨g5, g6⟩, g7, g8⟩ := h5 i a b
  refine ⟨⟨?_, ?_, ?_, ?_⟩, ⟨?_, ?_⟩, fun k x y => ?_, fun z k x y w => ?_⟩ <;> try rw [yne (by omega) rfl]
  · rw [yne (by omega) rfl]; exact g1
  · rw [yne (by omega) rfl]; exact g2
  · rw [yne (by omega) rfl]; exact g3
  · rw [yne (by omega) rfl]; exact g4
  · exact g5
  · exact g6
  · exact g7 k x y
  · exact g8 (by rw [yne (by omega) rfl] at z; exact z) k x y w
/-- waiting is not held by the model -/
theorem rm_wait {σ : YS} {E D : YS} {c v : Int} (h : rm σ E D) : rm σ E (yset D 6 c v) := by
  obtain ⟨⟨h1, h2, h3⟩, h4, h5, h6⟩ := h
  refine ⟨⟨h1, h2, by rw [yne (by omega) rfl]; exact h3⟩, fun d a b => by rw [yne (by omega) rfl]; exact h4 d a b, fun i a b => ?_, h6⟩
  obtain ⟨⟨g1, g2, g3, g4⟩, g5, g7, g8⟩ := h5 i a b
  refine ⟨⟨?_, ?_, ?_, ?_⟩, g5, g7, fun z => g8 (by rw [yne (by omega) rfl] at z; exact z)⟩ <;> rw [yne (by omega) rfl] <;> assumption
theorem rm_m {σ : YS} {E D : YS} {i x r v : Int} (h : rm σ E D) (hi : 0 ≤ i ∧ i < E 1 0) (hx : (x = 555 ∧ r = 1) ∨ (x = 556 ∧ r = 2) ∨ (x = 557 ∧ r = 3) ∨ (x = 558 ∧ r = 4 ∧ v = 1)) : rm (yset σ x i v) E (yset D r i v) := by
  obtain ⟨⟨h1, h2, h3⟩, h4, h5, h6⟩ := h
  refine ⟨⟨by rw [yne (by omega) rfl]; exact h1, by rw [yne (by omega) rfl]; exact h2, by rw [yne (by omega) rfl, yne (by omega) rfl]; exact h3⟩, fun d a b => by rw [yne (by omega) rfl, yne (by omega) rfl]; exact h4 d a b, fun j a b => ?_, fun q a b => by rw [yne (by omega) rfl]; exact h6 q a b⟩
  obtain ⟨⟨g1, g2, g3, g4⟩, ⟨g5, g6⟩, g7, g8⟩ := h5 j a b
  have e : ∀ X R, ((X = 555 ∧ R = 1) ∨ (X = 556 ∧ R = 2) ∨ (X = 557 ∧ R = 3) ∨ (X = 558 ∧ R = 4)) → σ X j = D R j → yset σ x i v X j = yset D r i v R j := fun X R hX g => by
    by_cases e : X = x ∧ j = i
    · have : R = r := by omega
      subst this
      obtain ⟨rfl, rfl⟩ := e
      rw [yeq, yeq]
    · rw [yne e rfl, yne (by omega) rfl]; exact g
  refine ⟨⟨e _ _ (by omega) g1, e _ _ (by omega) g2, e _ _ (by omega) g3, e _ _ (by omega) g4⟩, ⟨by rw [yne (by omega) rfl]; exact g5, by rw [yne (by omega) rfl]; exact g6⟩, fun k a b => by rw [yne (by omega) rfl]; exact g7 k a b, fun z k a b w => by
    rw [yne (by omega) rfl]
    refine g8 ?_ k a b w
    by_cases e : 4 = r ∧ j = i
    · obtain ⟨rfl, rfl⟩ := e; rw [yeq] at z; omega
    · rw [yne e rfl] at z; exact z⟩
/-- so much fetched at once -/
def mf (D : YS) (i t : Int) : YS := yset (yset D 0 (D 1 i) (D 0 (D 1 i) - t)) 2 i (D 2 i + t)
theorem mf_0 {D : YS} {i : Int} : mf D i 0 = D := by
  unfold mf
  rw [Int.sub_zero, Int.add_zero, yset_id, yset_id]
theorem mf_mf {D : YS} {i t : Int} : mf (mf D i 1) i t = mf D i (1 + t) := by
  have e1 : mf D i 1 1 i = D 1 i := by unfold mf; rw [yne (by omega) rfl, yne (by omega) rfl]
  have e0 : mf D i 1 0 (D 1 i) = D 0 (D 1 i) - 1 := by unfold mf; rw [yne (by omega) rfl, yeq]
  have e2 : mf D i 1 2 i = D 2 i + 1 := by unfold mf; rw [yeq]
  have : mf (mf D i 1) i t = yset (yset (mf D i 1) 0 (D 1 i) (D 0 (D 1 i) - 1 - t)) 2 i (D 2 i + 1 + t) := by
    show yset (yset (mf D i 1) 0 (mf D i 1 1 i) (mf D i 1 0 (mf D i 1 1 i) - t)) 2 i (mf D i 1 2 i + t) = _
    rw [e1, e0, e2]
  rw [this]
  funext a b
  unfold mf
  by_cases h2 : a = 2 ∧ b = i
  · obtain ⟨rfl, rfl⟩ := h2; rw [yeq, yeq]; omega
  · by_cases h0 : a = 0 ∧ b = D 1 i
    · obtain ⟨rfl, rfl⟩ := h0; rw [yne h2 rfl, yeq, yne h2 rfl, yeq]; omega
    · rw [yne h2 rfl, yne h0 rfl, yne h2 rfl, yne h0 rfl, yne h2 rfl, yne h0 rfl]
theorem mfetch_mf {i : Int} : ∀ (n : Nat) (D : YS), 0 ≤ D 0 (D 1 i) → D 2 i ≤ 20 → mfetch D i n = mf D i (min (n : Int) (min (D 0 (D 1 i)) (20 - D 2 i)))
  | 0, D, h1, h2 => by
    rw [show min ((0 : Nat) : Int) (min (D 0 (D 1 i)) (20 - D 2 i)) = 0 by omega, mf_0]
    rfl
  | n + 1, D, h1, h2 => by
    show mfetch (mfetch1 D i) i n = _
    by_cases h : 0 < D 0 (D 1 i) ∧ D 2 i < 20
    · have e : mfetch1 D i = mf D i 1 := if_pos h
      have e1 : mf D i 1 1 i = D 1 i := by unfold mf; rw [yne (by omega) rfl, yne (by omega) rfl]
      have e0 : mf D i 1 0 (D 1 i) = D 0 (D 1 i) - 1 := by unfold mf; rw [yne (by omega) rfl, yeq]
      have e2 : mf D i 1 2 i = D 2 i + 1 := by unfold mf; rw [yeq]
      rw [e, mfetch_mf n _ (by rw [e1, e0]; omega) (by rw [e2]; omega), e1, e0, e2, mf_mf]
      congr 1
      omega
    · have e : mfetch1 D i = D := if_neg h
      rw [e, mfetch_mf n D h1 h2]
      congr 1
      omega
theorem m_isSo {g : Launch × XG × va_G} {σ : YS} {E D : YS} {i q : Int} (hr : rm σ E D) (he : eG E) (hd : dG E D) (hn : 0 ≤ D 5 0 ∧ D 5 0 < 1000000) (hi : 0 ≤ i ∧ i < E 1 0) : YI g 127 [(2, 547), (0, i), (0, q)] σ (fun b σ' => σ = σ' ∧ yb (mholds D i q) = b) := by
  refine y_start rfl rfl rfl ?_
  have ⟨⟨f1, f2, f3⟩, f4, f5, f6⟩ := hr
  have ⟨e1, e2, e3⟩ := he
  have ⟨⟨b1, b2, b3, b4⟩, ⟨b5, b6⟩, b7, b8⟩ := f5 i (by omega) (by omega)
  have ⟨⟨d1, d2⟩, ⟨d3, d4⟩, ⟨d5, d6⟩, d7⟩ := hd.2 i (by omega) (by omega)
  have ⟨⟨t1, t2⟩, ⟨t3, t4⟩, t5⟩ := e3 i (by omega) (by omega)
  have w1 : σ 554 (σ 555 i) = D 0 (D 1 i) := by rw [b1]; exact f4 _ (by omega) (by omega)
  have w2 := hd.1 (D 1 i) (by omega) (by omega)
  refine y_aload rfl rfl rfl ?_
  refine y_gfr (t := 554) rfl rfl (by decide) rfl (by decide) ?_
  refine y_aload rfl rfl rfl ?_
  refine y_gfr (t := 555) rfl rfl (by decide) rfl (by decide) ?_
  refine y_iload rfl rfl ?_
  refine y_iald (v := (σ 555 i)) (n := 3) rfl rfl (by decide) rfl (by omega) rfl ?_
  refine y_iald (v := (σ 554 (σ 555 i))) (n := 9) rfl rfl (by decide) rfl (by omega) rfl ?_
  refine y_istore (L' := [some (2, 547), some (0, i), some (0, q), some (0, (σ 554 (σ 555 i)))]) rfl rfl rfl rfl ?_
  refine y_iload rfl rfl ?_
  refine y_push rfl ?_
  refine y_icne rfl (fun q15 => ?_) (fun q15 => ?_)
  · skip
    refine y_iload rfl rfl ?_
    refine y_push rfl ?_
    refine y_icne rfl (fun q33 => ?_) (fun q33 => ?_)
    · skip
      refine y_iload rfl rfl ?_
      refine y_push rfl ?_
      refine y_icne rfl (fun q51 => ?_) (fun q51 => ?_)
      · skip
        refine y_iload rfl rfl ?_
        refine y_push rfl ?_
        refine y_icne rfl (fun q74 => ?_) (fun q74 => ?_)
        · skip
          refine y_push rfl ?_
          refine y_zret rfl rfl (by decide) ⟨_, rfl, ?_⟩
          exact ⟨rfl, by unfold yb; (repeat' split) <;> omega⟩
        · skip
          refine y_aload rfl rfl rfl ?_
          refine y_gfr (t := 556) rfl rfl (by decide) rfl (by decide) ?_
          refine y_iload rfl rfl ?_
          refine y_iald (v := (σ 556 i)) (n := 3) rfl rfl (by decide) rfl (by omega) rfl ?_
          refine y_ifne rfl (fun q83 => ?_) (fun q83 => ?_)
          · skip
            refine y_push rfl ?_
            refine y_goto rfl ?_
            refine y_zret rfl rfl (by decide) ⟨_, rfl, ?_⟩
            exact ⟨rfl, by unfold yb; (repeat' split) <;> omega⟩
          · skip
            refine y_push rfl ?_
            refine y_goto rfl ?_
            refine y_zret rfl rfl (by decide) ⟨_, rfl, ?_⟩
            exact ⟨rfl, by unfold yb; (repeat' split) <;> omega⟩
      · skip
        refine y_aload rfl rfl rfl ?_
        refine y_gfr (t := 556) rfl rfl (by decide) rfl (by decide) ?_
        refine y_iload rfl rfl ?_
        refine y_iald (v := (σ 556 i)) (n := 3) rfl rfl (by decide) rfl (by omega) rfl ?_
        refine y_ifle rfl (fun q60 => ?_) (fun q60 => ?_)
        · skip
          refine y_push rfl ?_
          refine y_goto rfl ?_
          refine y_zret rfl rfl (by decide) ⟨_, rfl, ?_⟩
          exact ⟨rfl, by unfold yb; (repeat' split) <;> omega⟩
        · skip
          refine y_push rfl ?_
          refine y_goto rfl ?_
          refine y_zret rfl rfl (by decide) ⟨_, rfl, ?_⟩
          exact ⟨rfl, by unfold yb; (repeat' split) <;> omega⟩
    · skip
      refine y_iload rfl rfl ?_
      refine y_ifne rfl (fun q37 => ?_) (fun q37 => ?_)
      · skip
        refine y_push rfl ?_
        refine y_goto rfl ?_
        refine y_zret rfl rfl (by decide) ⟨_, rfl, ?_⟩
        exact ⟨rfl, by unfold yb; (repeat' split) <;> omega⟩
      · skip
        refine y_push rfl ?_
        refine y_goto rfl ?_
        refine y_zret rfl rfl (by decide) ⟨_, rfl, ?_⟩
        exact ⟨rfl, by unfold yb; (repeat' split) <;> omega⟩
  · skip
    refine y_iload rfl rfl ?_
    refine y_ifle rfl (fun q19 => ?_) (fun q19 => ?_)
    · skip
      refine y_push rfl ?_
      refine y_goto rfl ?_
      refine y_zret rfl rfl (by decide) ⟨_, rfl, ?_⟩
      exact ⟨rfl, by unfold yb; (repeat' split) <;> omega⟩
    · skip
      refine y_push rfl ?_
      refine y_goto rfl ?_
      refine y_zret rfl rfl (by decide) ⟨_, rfl, ?_⟩
      exact ⟨rfl, by unfold yb; (repeat' split) <;> omega⟩
theorem l_together {g : Launch × XG × va_G} {σ : YS} {E D : YS} {i : Int} (hr : rm σ E D) (he : eG E) (hd : dG E D) (hn : 0 ≤ D 5 0 ∧ D 5 0 < 1000000) (hi : 0 ≤ i ∧ i < E 1 0) : ∀ (nn : Nat) (q : Int) (d : Int), E 1 0 - q < (nn : Int) → (0 ≤ q ∧ q ≤ E 1 0) → ((d = 0 ∧ ∀ p, 0 ≤ p → p < q → ¬ mnear E D i p) ∨ (d = 1 ∧ ∃ p, 0 ≤ p ∧ p < q ∧ mnear E D i p)) → YW g 128 4 [some (2, 547), some (0, i), some (0, d), some (0, q)] [] σ (fun rv σ' => ∃ b, rv = some (0, b) ∧ (σ = σ' ∧ yb (¬ malone E D i) = b)) := by
  intro nn
  induction nn with
  | zero =>
    intro q d hn h0 h1
    exfalso
    omega
  | succ nn ih =>
    intro q d hn h0 h1
    have ⟨⟨f1, f2, f3⟩, f4, f5, f6⟩ := hr
    have ⟨e1, e2, e3⟩ := he
    have ⟨⟨b1, b2, b3, b4⟩, ⟨b5, b6⟩, b7, b8⟩ := f5 i (by omega) (by omega)
    have ⟨⟨d1, d2⟩, ⟨d3, d4⟩, ⟨d5, d6⟩, d7⟩ := hd.2 i (by omega) (by omega)
    have ⟨⟨t1, t2⟩, ⟨t3, t4⟩, t5⟩ := e3 i (by omega) (by omega)
    have w1 : σ 554 (σ 555 i) = D 0 (D 1 i) := by rw [b1]; exact f4 _ (by omega) (by omega)
    have w2 := hd.1 (D 1 i) (by omega) (by omega)
    refine y_iload rfl rfl ?_
    refine y_aload rfl rfl rfl ?_
    refine y_gfr (t := 548) rfl rfl (by decide) rfl (by decide) ?_
    refine y_push rfl ?_
    refine y_iald (v := (σ 548 10)) (n := 2108) rfl rfl (by decide) rfl (by decide) rfl ?_
    refine y_icge rfl (fun q12 => ?_) (fun q12 => ?_)
    · skip
      refine y_iload rfl rfl ?_
      refine y_zret rfl rfl (by have := yb_r (p := ¬ malone E D i); omega) ⟨_, rfl, ?_⟩
      have hq3 : q = E 1 0 := by omega
      rcases h1 with ⟨rfl, z⟩ | ⟨rfl, p, p1, p2, z⟩
      · exact ⟨rfl, yb_f (fun y => y ⟨fun y => z 0 (by omega) (by have := y.1; omega) y, fun y => z 1 (by omega) (by have := y.1; omega) y, fun y => z 2 (by omega) (by have := y.1; omega) y⟩)⟩
      · exact ⟨rfl, yb_t (fun y => by rcases (by omega : p = 0 ∨ p = 1 ∨ p = 2) with rfl | rfl | rfl; exact y.1 z; exact y.2.1 z; exact y.2.2 z)⟩
    · skip
      refine y_iload rfl rfl ?_
      refine y_ifne rfl (fun q16 => ?_) (fun q16 => ?_)
      · skip
        refine y_push rfl ?_
        refine y_goto rfl ?_
        refine y_istore (L' := [some (2, 547), some (0, i), some (0, 1), some (0, q)]) rfl rfl rfl rfl ?_
        refine y_iinc (L' := [some (2, 547), some (0, i), some (0, 1), some (0, (q + 1))]) rfl rfl rfl rfl rfl (by omega) ?_
        refine y_goto rfl ?_
        refine ih (q + 1) 1 (by omega) (by omega) (Or.inr ⟨rfl, ?_⟩)
        first
          | (rcases h1 with ⟨rfl, z⟩ | ⟨_, p, p1, p2, z⟩; exact absurd rfl q16; exact ⟨p, p1, by omega, z⟩)
          | exact ⟨q, by omega, by omega, by omega, q21, (f6 q (by omega) (by omega)).mp q32, by have a1 := (f5 q (by omega) (by omega)).1.1; omega⟩
      · skip
        refine y_iload rfl rfl ?_
        refine y_iload rfl rfl ?_
        refine y_iceq rfl (fun q21 => ?_) (fun q21 => ?_)
        · skip
          refine y_push rfl ?_
          refine y_istore (L' := [some (2, 547), some (0, i), some (0, 0), some (0, q)]) rfl rfl rfl rfl ?_
          refine y_iinc (L' := [some (2, 547), some (0, i), some (0, 0), some (0, (q + 1))]) rfl rfl rfl rfl rfl (by omega) ?_
          refine y_goto rfl ?_
          refine ih (q + 1) 0 (by omega) (by omega) (Or.inl ⟨rfl, fun p p1 p2 z => ?_⟩)
          rcases h1 with ⟨_, y⟩ | ⟨y, _⟩
          · rcases (by omega : p < q ∨ p = q) with x | rfl
            · exact y p p1 x z
            · first
                | exact z.2.1 q21
                | exact q32 ((f6 p (by omega) (by omega)).mpr z.2.2.1)
                | (have a1 := (f5 p (by omega) (by omega)).1.1; have a2 := z.2.2.2; omega)
          · omega
        · skip
          refine y_aload rfl rfl rfl ?_
          refine y_gfi (v := (σ 547 19)) rfl rfl (by decide) rfl (by decide) rfl rfl ?_
          refine y_iload rfl rfl ?_
          refine y_si (as := [(0, (σ 547 19)), (0, q)]) (S := []) rfl rfl rfl rfl rfl rfl m_has ?_
          rintro _ _ ⟨rfl, rfl⟩
          refine y_ifeq rfl (fun q32 => ?_) (fun q32 => ?_)
          · skip
            replace q32 := yb_0.mp q32
            refine y_push rfl ?_
            refine y_istore (L' := [some (2, 547), some (0, i), some (0, 0), some (0, q)]) rfl rfl rfl rfl ?_
            refine y_iinc (L' := [some (2, 547), some (0, i), some (0, 0), some (0, (q + 1))]) rfl rfl rfl rfl rfl (by omega) ?_
            refine y_goto rfl ?_
            refine ih (q + 1) 0 (by omega) (by omega) (Or.inl ⟨rfl, fun p p1 p2 z => ?_⟩)
            rcases h1 with ⟨_, y⟩ | ⟨y, _⟩
            · rcases (by omega : p < q ∨ p = q) with x | rfl
              · exact y p p1 x z
              · first
                  | exact z.2.1 q21
                  | exact q32 ((f6 p (by omega) (by omega)).mpr z.2.2.1)
                  | (have a1 := (f5 p (by omega) (by omega)).1.1; have a2 := z.2.2.2; omega)
            · omega
          · skip
            replace q32 := yb_1.mp q32
            refine y_aload rfl rfl rfl ?_
            refine y_gfr (t := 555) rfl rfl (by decide) rfl (by decide) ?_
            refine y_iload rfl rfl ?_
            refine y_iald (v := (σ 555 q)) (n := 3) rfl rfl (by decide) rfl (by omega) rfl ?_
            refine y_aload rfl rfl rfl ?_
            refine y_gfr (t := 555) rfl rfl (by decide) rfl (by decide) ?_
            refine y_iload rfl rfl ?_
            refine y_iald (v := (σ 555 i)) (n := 3) rfl rfl (by decide) rfl (by omega) rfl ?_
            refine y_icne rfl (fun q47 => ?_) (fun q47 => ?_)
            · skip
              refine y_push rfl ?_
              refine y_istore (L' := [some (2, 547), some (0, i), some (0, 0), some (0, q)]) rfl rfl rfl rfl ?_
              refine y_iinc (L' := [some (2, 547), some (0, i), some (0, 0), some (0, (q + 1))]) rfl rfl rfl rfl rfl (by omega) ?_
              refine y_goto rfl ?_
              refine ih (q + 1) 0 (by omega) (by omega) (Or.inl ⟨rfl, fun p p1 p2 z => ?_⟩)
              rcases h1 with ⟨_, y⟩ | ⟨y, _⟩
              · rcases (by omega : p < q ∨ p = q) with x | rfl
                · exact y p p1 x z
                · first
                    | exact z.2.1 q21
                    | exact q32 ((f6 p (by omega) (by omega)).mpr z.2.2.1)
                    | (have a1 := (f5 p (by omega) (by omega)).1.1; have a2 := z.2.2.2; omega)
              · omega
            · skip
              refine y_push rfl ?_
              refine y_goto rfl ?_
              refine y_istore (L' := [some (2, 547), some (0, i), some (0, 1), some (0, q)]) rfl rfl rfl rfl ?_
              refine y_iinc (L' := [some (2, 547), some (0, i), some (0, 1), some (0, (q + 1))]) rfl rfl rfl rfl rfl (by omega) ?_
              refine y_goto rfl ?_
              refine ih (q + 1) 1 (by omega) (by omega) (Or.inr ⟨rfl, ?_⟩)
              first
                | (rcases h1 with ⟨rfl, z⟩ | ⟨_, p, p1, p2, z⟩; exact absurd rfl q16; exact ⟨p, p1, by omega, z⟩)
                | exact ⟨q, by omega, by omega, by omega, q21, (f6 q (by omega) (by omega)).mp q32, by have a1 := (f5 q (by omega) (by omega)).1.1; omega⟩
theorem m_together {g : Launch × XG × va_G} {σ : YS} {E D : YS} {i : Int} (hr : rm σ E D) (he : eG E) (hd : dG E D) (hn : 0 ≤ D 5 0 ∧ D 5 0 < 1000000) (hi : 0 ≤ i ∧ i < E 1 0) : YI g 128 [(2, 547), (0, i)] σ (fun b σ' => σ = σ' ∧ yb (¬ malone E D i) = b) := by
  refine y_start rfl rfl rfl ?_
  refine y_push rfl ?_
  refine y_istore (L' := [some (2, 547), some (0, i), some (0, 0), none]) rfl rfl rfl rfl ?_
  refine y_push rfl ?_
  refine y_istore (L' := [some (2, 547), some (0, i), some (0, 0), some (0, 0)]) rfl rfl rfl rfl ?_
  have e2 := he.2.1
  exact l_together hr he hd hn hi 4 0 0 (by omega) (by omega) (Or.inl ⟨rfl, fun p a b => by omega⟩)
theorem m_fetch {g : Launch × XG × va_G} {σ : YS} {E D : YS} {i t : Int} (hr : rm σ E D) (he : eG E) (hd : dG E D) (hn : 0 ≤ D 5 0 ∧ D 5 0 < 1000000) (hi : 0 ≤ i ∧ i < E 1 0) (ht : 0 ≤ t) : YU g 129 [(2, 547), (0, i), (0, t)] σ (fun σ' => rm σ' E (mfetch D i t.toNat) ∧ rfr σ σ') := by
  refine y_start rfl rfl rfl ?_
  have ⟨⟨f1, f2, f3⟩, f4, f5, f6⟩ := hr
  have ⟨e1, e2, e3⟩ := he
  have ⟨⟨b1, b2, b3, b4⟩, ⟨b5, b6⟩, b7, b8⟩ := f5 i (by omega) (by omega)
  have ⟨⟨d1, d2⟩, ⟨d3, d4⟩, ⟨d5, d6⟩, d7⟩ := hd.2 i (by omega) (by omega)
  have ⟨⟨t1, t2⟩, ⟨t3, t4⟩, t5⟩ := e3 i (by omega) (by omega)
  have w1 : σ 554 (σ 555 i) = D 0 (D 1 i) := by rw [b1]; exact f4 _ (by omega) (by omega)
  have w2 := hd.1 (D 1 i) (by omega) (by omega)
  refine y_iload rfl rfl ?_
  refine y_aload rfl rfl rfl ?_
  refine y_gfr (t := 554) rfl rfl (by decide) rfl (by decide) ?_
  refine y_aload rfl rfl rfl ?_
  refine y_gfr (t := 555) rfl rfl (by decide) rfl (by decide) ?_
  refine y_iload rfl rfl ?_
  refine y_iald (v := (σ 555 i)) (n := 3) rfl rfl (by decide) rfl (by omega) rfl ?_
  refine y_iald (v := (σ 554 (σ 555 i))) (n := 9) rfl rfl (by decide) rfl (by omega) rfl ?_
  refine y_push rfl ?_
  refine y_aload rfl rfl rfl ?_
  refine y_gfr (t := 556) rfl rfl (by decide) rfl (by decide) ?_
  refine y_iload rfl rfl ?_
  refine y_iald (v := (σ 556 i)) (n := 3) rfl rfl (by decide) rfl (by omega) rfl ?_
  refine y_isub (v := (20 - (σ 556 i))) rfl rfl (by omega) ?_
  refine y_si (as := [(0, (σ 554 (σ 555 i))), (0, (20 - (σ 556 i)))]) (S := [(0, t)]) rfl rfl rfl rfl rfl rfl m_lesser ?_
  rintro _ _ ⟨rfl, rfl⟩
  refine y_si (as := [(0, t), (0, (min (σ 554 (σ 555 i)) (20 - (σ 556 i))))]) (S := []) rfl rfl rfl rfl rfl rfl m_lesser ?_
  rintro _ _ ⟨rfl, rfl⟩
  refine y_istore (L' := [some (2, 547), some (0, i), some (0, t), some (0, (min t (min (σ 554 (σ 555 i)) (20 - (σ 556 i)))))]) rfl rfl rfl rfl ?_
  refine y_aload rfl rfl rfl ?_
  refine y_gfr (t := 554) rfl rfl (by decide) rfl (by decide) ?_
  refine y_aload rfl rfl rfl ?_
  refine y_gfr (t := 555) rfl rfl (by decide) rfl (by decide) ?_
  refine y_iload rfl rfl ?_
  refine y_iald (v := (σ 555 i)) (n := 3) rfl rfl (by decide) rfl (by omega) rfl ?_
  refine y_dup2 rfl rfl rfl ?_
  refine y_iald (v := (σ 554 (σ 555 i))) (n := 9) rfl rfl (by decide) rfl (by omega) rfl ?_
  refine y_iload rfl rfl ?_
  refine y_isub (v := ((σ 554 (σ 555 i)) - (min t (min (σ 554 (σ 555 i)) (20 - (σ 556 i)))))) rfl rfl (by omega) ?_
  refine y_iast (n := 9) rfl rfl (by decide) rfl (by omega) ?_
  refine y_aload rfl rfl rfl ?_
  refine y_gfr (t := 556) rfl rfl (by decide) rfl (by decide) ?_
  refine y_iload rfl rfl ?_
  refine y_dup2 rfl rfl rfl ?_
  refine y_iald (v := (σ 556 i)) (n := 3) rfl rfl (by decide) rfl (by omega) (yne (by omega) rfl) ?_
  refine y_iload rfl rfl ?_
  refine y_iadd (v := ((σ 556 i) + (min t (min (σ 554 (σ 555 i)) (20 - (σ 556 i)))))) rfl rfl (by omega) ?_
  refine y_iast (n := 3) rfl rfl (by decide) rfl (by omega) ?_
  refine y_ret rfl rfl ⟨rfl, ?_⟩
  refine ⟨?_, rfr_s (rfr_s (rfr_0 _) (by omega)) (by omega)⟩
  rw [mfetch_mf _ _ (by omega) (by omega), show ((t.toNat : Nat) : Int) = t by omega]
  unfold mf
  rw [w1, b1, b2]
  exact rm_m (rm_w hr) hi (by omega)
theorem m_moves0 {g : Launch × XG × va_G} {σ : YS} {E D : YS} {i : Int} (hr : rm σ E D) (he : eG E) (hd : dG E D) (hn : 0 ≤ D 5 0 ∧ D 5 0 < 1000000) (hi : 0 ≤ i ∧ i < E 1 0) : YU g 130 [(2, 547), (0, i), (0, (-1))] σ (fun σ' => rm σ' E (yset D 1 i (mgoal (E 2 i) (D 1 i) (0) (D 5 0) (E 0 0))) ∧ rfr σ σ') := by
  refine y_start rfl rfl rfl ?_
  have ⟨⟨f1, f2, f3⟩, f4, f5, f6⟩ := hr
  have ⟨e1, e2, e3⟩ := he
  have ⟨⟨b1, b2, b3, b4⟩, ⟨b5, b6⟩, b7, b8⟩ := f5 i (by omega) (by omega)
  have ⟨⟨d1, d2⟩, ⟨d3, d4⟩, ⟨d5, d6⟩, d7⟩ := hd.2 i (by omega) (by omega)
  have ⟨⟨t1, t2⟩, ⟨t3, t4⟩, t5⟩ := e3 i (by omega) (by omega)
  have w1 : σ 554 (σ 555 i) = D 0 (D 1 i) := by rw [b1]; exact f4 _ (by omega) (by omega)
  have w2 := hd.1 (D 1 i) (by omega) (by omega)
  refine y_aload rfl rfl rfl ?_
  refine y_gfr (t := 548) rfl rfl (by decide) rfl (by decide) ?_
  refine y_push rfl ?_
  refine y_iload rfl rfl ?_
  refine y_iadd (v := (11 + i)) rfl rfl (by omega) ?_
  refine y_iald (v := (σ 548 (11 + i))) (n := 2108) rfl rfl (by decide) rfl (by omega) rfl ?_
  refine y_push rfl ?_
  refine y_iceq rfl (fun q10 => ?_) (fun q10 => ?_)
  · skip
    refine y_push rfl ?_
    refine y_goto rfl ?_
    refine y_istore (L' := [some (2, 547), some (0, i), some (0, (-1)), some (0, 1), none]) rfl rfl rfl rfl ?_
    refine y_aload rfl rfl rfl ?_
    refine y_gfr (t := 555) rfl rfl (by decide) rfl (by decide) ?_
    refine y_iload rfl rfl ?_
    refine y_iald (v := (σ 555 i)) (n := 3) rfl rfl (by decide) rfl (by omega) rfl ?_
    refine y_iload rfl rfl ?_
    refine y_iadd (v := ((σ 555 i) + (-1))) rfl rfl (by omega) ?_
    refine y_istore (L' := [some (2, 547), some (0, i), some (0, (-1)), some (0, 1), some (0, ((σ 555 i) + (-1)))]) rfl rfl rfl rfl ?_
    refine y_iload rfl rfl ?_
    refine y_i2l rfl ?_
    refine y_lconst (v := 0) rfl rfl ?_
    refine y_aload rfl rfl rfl ?_
    refine y_gfr (t := 548) rfl rfl (by decide) rfl (by decide) ?_
    refine y_push rfl ?_
    refine y_iald (v := (σ 548 0)) (n := 2108) rfl rfl (by decide) rfl (by decide) rfl ?_
    refine y_push rfl ?_
    refine y_isub (v := ((σ 548 0) - 1)) rfl rfl (by omega) ?_
    refine y_i2l rfl ?_
    refine y_si (as := [(1, ((σ 555 i) + (-1))), (1, 0), (1, ((σ 548 0) - 1))]) (S := []) rfl rfl rfl rfl rfl rfl m_lies ?_
    rintro _ _ ⟨rfl, rfl⟩
    refine y_ifeq rfl (fun q58 => ?_) (fun q58 => ?_)
    · skip
      replace q58 := yb_0.mp q58
      refine y_ret rfl rfl ⟨rfl, ?_⟩
      have hg : mgoal (E 2 i) (D 1 i) 0 (D 5 0) (E 0 0) = D 1 i := by unfold mgoal; (repeat' split) <;> omega
      exact ⟨by rw [hg, yset_id]; exact hr, rfr_0 _⟩
    · skip
      replace q58 := yb_1.mp q58
      refine y_iload rfl rfl ?_
      refine y_ifeq rfl (fun q62 => ?_) (fun q62 => ?_)
      · exfalso; omega
      · skip
        refine y_aload rfl rfl rfl ?_
        refine y_gfi (v := (σ 547 18)) rfl rfl (by decide) rfl (by decide) rfl rfl ?_
        refine y_push rfl ?_
        refine y_irem (v := ((σ 547 18) % 2)) rfl rfl (by omega) ?_
        refine y_push rfl ?_
        refine y_iceq rfl (fun q72 => ?_) (fun q72 => ?_)
        · skip
          refine y_ret rfl rfl ⟨rfl, ?_⟩
          have hg : mgoal (E 2 i) (D 1 i) 0 (D 5 0) (E 0 0) = D 1 i := by unfold mgoal; (repeat' split) <;> omega
          exact ⟨by rw [hg, yset_id]; exact hr, rfr_0 _⟩
        · skip
          refine y_aload rfl rfl rfl ?_
          refine y_gfr (t := 555) rfl rfl (by decide) rfl (by decide) ?_
          refine y_iload rfl rfl ?_
          refine y_iload rfl rfl ?_
          refine y_iast (n := 3) rfl rfl (by decide) rfl (by omega) ?_
          refine y_ret rfl rfl ⟨rfl, ?_⟩
          have hg : mgoal (E 2 i) (D 1 i) 0 (D 5 0) (E 0 0) = ((σ 555 i) + (-1)) := by unfold mgoal; (repeat' split) <;> omega
          exact ⟨by rw [hg]; exact rm_m hr hi (by omega), rfr_s (rfr_0 _) (by omega)⟩
  · skip
    refine y_aload rfl rfl rfl ?_
    refine y_gfr (t := 548) rfl rfl (by decide) rfl (by decide) ?_
    refine y_push rfl ?_
    refine y_iload rfl rfl ?_
    refine y_iadd (v := (11 + i)) rfl rfl (by omega) ?_
    refine y_iald (v := (σ 548 (11 + i))) (n := 2108) rfl rfl (by decide) rfl (by omega) rfl ?_
    refine y_push rfl ?_
    refine y_icne rfl (fun q23 => ?_) (fun q23 => ?_)
    · skip
      refine y_push rfl ?_
      refine y_istore (L' := [some (2, 547), some (0, i), some (0, (-1)), some (0, 0), none]) rfl rfl rfl rfl ?_
      refine y_aload rfl rfl rfl ?_
      refine y_gfr (t := 555) rfl rfl (by decide) rfl (by decide) ?_
      refine y_iload rfl rfl ?_
      refine y_iald (v := (σ 555 i)) (n := 3) rfl rfl (by decide) rfl (by omega) rfl ?_
      refine y_iload rfl rfl ?_
      refine y_iadd (v := ((σ 555 i) + (-1))) rfl rfl (by omega) ?_
      refine y_istore (L' := [some (2, 547), some (0, i), some (0, (-1)), some (0, 0), some (0, ((σ 555 i) + (-1)))]) rfl rfl rfl rfl ?_
      refine y_iload rfl rfl ?_
      refine y_i2l rfl ?_
      refine y_lconst (v := 0) rfl rfl ?_
      refine y_aload rfl rfl rfl ?_
      refine y_gfr (t := 548) rfl rfl (by decide) rfl (by decide) ?_
      refine y_push rfl ?_
      refine y_iald (v := (σ 548 0)) (n := 2108) rfl rfl (by decide) rfl (by decide) rfl ?_
      refine y_push rfl ?_
      refine y_isub (v := ((σ 548 0) - 1)) rfl rfl (by omega) ?_
      refine y_i2l rfl ?_
      refine y_si (as := [(1, ((σ 555 i) + (-1))), (1, 0), (1, ((σ 548 0) - 1))]) (S := []) rfl rfl rfl rfl rfl rfl m_lies ?_
      rintro _ _ ⟨rfl, rfl⟩
      refine y_ifeq rfl (fun q58 => ?_) (fun q58 => ?_)
      · skip
        replace q58 := yb_0.mp q58
        refine y_ret rfl rfl ⟨rfl, ?_⟩
        have hg : mgoal (E 2 i) (D 1 i) 0 (D 5 0) (E 0 0) = D 1 i := by unfold mgoal; (repeat' split) <;> omega
        exact ⟨by rw [hg, yset_id]; exact hr, rfr_0 _⟩
      · skip
        replace q58 := yb_1.mp q58
        refine y_iload rfl rfl ?_
        refine y_ifeq rfl (fun q62 => ?_) (fun q62 => ?_)
        · skip
          refine y_aload rfl rfl rfl ?_
          refine y_gfr (t := 555) rfl rfl (by decide) rfl (by decide) ?_
          refine y_iload rfl rfl ?_
          refine y_iload rfl rfl ?_
          refine y_iast (n := 3) rfl rfl (by decide) rfl (by omega) ?_
          refine y_ret rfl rfl ⟨rfl, ?_⟩
          have hg : mgoal (E 2 i) (D 1 i) 0 (D 5 0) (E 0 0) = ((σ 555 i) + (-1)) := by unfold mgoal; (repeat' split) <;> omega
          exact ⟨by rw [hg]; exact rm_m hr hi (by omega), rfr_s (rfr_0 _) (by omega)⟩
        · exfalso; omega
    · skip
      refine y_push rfl ?_
      refine y_goto rfl ?_
      refine y_istore (L' := [some (2, 547), some (0, i), some (0, (-1)), some (0, 1), none]) rfl rfl rfl rfl ?_
      refine y_aload rfl rfl rfl ?_
      refine y_gfr (t := 555) rfl rfl (by decide) rfl (by decide) ?_
      refine y_iload rfl rfl ?_
      refine y_iald (v := (σ 555 i)) (n := 3) rfl rfl (by decide) rfl (by omega) rfl ?_
      refine y_iload rfl rfl ?_
      refine y_iadd (v := ((σ 555 i) + (-1))) rfl rfl (by omega) ?_
      refine y_istore (L' := [some (2, 547), some (0, i), some (0, (-1)), some (0, 1), some (0, ((σ 555 i) + (-1)))]) rfl rfl rfl rfl ?_
      refine y_iload rfl rfl ?_
      refine y_i2l rfl ?_
      refine y_lconst (v := 0) rfl rfl ?_
      refine y_aload rfl rfl rfl ?_
      refine y_gfr (t := 548) rfl rfl (by decide) rfl (by decide) ?_
      refine y_push rfl ?_
      refine y_iald (v := (σ 548 0)) (n := 2108) rfl rfl (by decide) rfl (by decide) rfl ?_
      refine y_push rfl ?_
      refine y_isub (v := ((σ 548 0) - 1)) rfl rfl (by omega) ?_
      refine y_i2l rfl ?_
      refine y_si (as := [(1, ((σ 555 i) + (-1))), (1, 0), (1, ((σ 548 0) - 1))]) (S := []) rfl rfl rfl rfl rfl rfl m_lies ?_
      rintro _ _ ⟨rfl, rfl⟩
      refine y_ifeq rfl (fun q58 => ?_) (fun q58 => ?_)
      · skip
        replace q58 := yb_0.mp q58
        refine y_ret rfl rfl ⟨rfl, ?_⟩
        have hg : mgoal (E 2 i) (D 1 i) 0 (D 5 0) (E 0 0) = D 1 i := by unfold mgoal; (repeat' split) <;> omega
        exact ⟨by rw [hg, yset_id]; exact hr, rfr_0 _⟩
      · skip
        replace q58 := yb_1.mp q58
        refine y_iload rfl rfl ?_
        refine y_ifeq rfl (fun q62 => ?_) (fun q62 => ?_)
        · exfalso; omega
        · skip
          refine y_aload rfl rfl rfl ?_
          refine y_gfi (v := (σ 547 18)) rfl rfl (by decide) rfl (by decide) rfl rfl ?_
          refine y_push rfl ?_
          refine y_irem (v := ((σ 547 18) % 2)) rfl rfl (by omega) ?_
          refine y_push rfl ?_
          refine y_iceq rfl (fun q72 => ?_) (fun q72 => ?_)
          · skip
            refine y_ret rfl rfl ⟨rfl, ?_⟩
            have hg : mgoal (E 2 i) (D 1 i) 0 (D 5 0) (E 0 0) = D 1 i := by unfold mgoal; (repeat' split) <;> omega
            exact ⟨by rw [hg, yset_id]; exact hr, rfr_0 _⟩
          · skip
            refine y_aload rfl rfl rfl ?_
            refine y_gfr (t := 555) rfl rfl (by decide) rfl (by decide) ?_
            refine y_iload rfl rfl ?_
            refine y_iload rfl rfl ?_
            refine y_iast (n := 3) rfl rfl (by decide) rfl (by omega) ?_
            refine y_ret rfl rfl ⟨rfl, ?_⟩
            have hg : mgoal (E 2 i) (D 1 i) 0 (D 5 0) (E 0 0) = ((σ 555 i) + (-1)) := by unfold mgoal; (repeat' split) <;> omega
            exact ⟨by rw [hg]; exact rm_m hr hi (by omega), rfr_s (rfr_0 _) (by omega)⟩
theorem m_moves1 {g : Launch × XG × va_G} {σ : YS} {E D : YS} {i : Int} (hr : rm σ E D) (he : eG E) (hd : dG E D) (hn : 0 ≤ D 5 0 ∧ D 5 0 < 1000000) (hi : 0 ≤ i ∧ i < E 1 0) : YU g 130 [(2, 547), (0, i), (0, 1)] σ (fun σ' => rm σ' E (yset D 1 i (mgoal (E 2 i) (D 1 i) (1) (D 5 0) (E 0 0))) ∧ rfr σ σ') := by
  refine y_start rfl rfl rfl ?_
  have ⟨⟨f1, f2, f3⟩, f4, f5, f6⟩ := hr
  have ⟨e1, e2, e3⟩ := he
  have ⟨⟨b1, b2, b3, b4⟩, ⟨b5, b6⟩, b7, b8⟩ := f5 i (by omega) (by omega)
  have ⟨⟨d1, d2⟩, ⟨d3, d4⟩, ⟨d5, d6⟩, d7⟩ := hd.2 i (by omega) (by omega)
  have ⟨⟨t1, t2⟩, ⟨t3, t4⟩, t5⟩ := e3 i (by omega) (by omega)
  have w1 : σ 554 (σ 555 i) = D 0 (D 1 i) := by rw [b1]; exact f4 _ (by omega) (by omega)
  have w2 := hd.1 (D 1 i) (by omega) (by omega)
  refine y_aload rfl rfl rfl ?_
  refine y_gfr (t := 548) rfl rfl (by decide) rfl (by decide) ?_
  refine y_push rfl ?_
  refine y_iload rfl rfl ?_
  refine y_iadd (v := (11 + i)) rfl rfl (by omega) ?_
  refine y_iald (v := (σ 548 (11 + i))) (n := 2108) rfl rfl (by decide) rfl (by omega) rfl ?_
  refine y_push rfl ?_
  refine y_iceq rfl (fun q10 => ?_) (fun q10 => ?_)
  · skip
    refine y_push rfl ?_
    refine y_goto rfl ?_
    refine y_istore (L' := [some (2, 547), some (0, i), some (0, 1), some (0, 1), none]) rfl rfl rfl rfl ?_
    refine y_aload rfl rfl rfl ?_
    refine y_gfr (t := 555) rfl rfl (by decide) rfl (by decide) ?_
    refine y_iload rfl rfl ?_
    refine y_iald (v := (σ 555 i)) (n := 3) rfl rfl (by decide) rfl (by omega) rfl ?_
    refine y_iload rfl rfl ?_
    refine y_iadd (v := ((σ 555 i) + 1)) rfl rfl (by omega) ?_
    refine y_istore (L' := [some (2, 547), some (0, i), some (0, 1), some (0, 1), some (0, ((σ 555 i) + 1))]) rfl rfl rfl rfl ?_
    refine y_iload rfl rfl ?_
    refine y_i2l rfl ?_
    refine y_lconst (v := 0) rfl rfl ?_
    refine y_aload rfl rfl rfl ?_
    refine y_gfr (t := 548) rfl rfl (by decide) rfl (by decide) ?_
    refine y_push rfl ?_
    refine y_iald (v := (σ 548 0)) (n := 2108) rfl rfl (by decide) rfl (by decide) rfl ?_
    refine y_push rfl ?_
    refine y_isub (v := ((σ 548 0) - 1)) rfl rfl (by omega) ?_
    refine y_i2l rfl ?_
    refine y_si (as := [(1, ((σ 555 i) + 1)), (1, 0), (1, ((σ 548 0) - 1))]) (S := []) rfl rfl rfl rfl rfl rfl m_lies ?_
    rintro _ _ ⟨rfl, rfl⟩
    refine y_ifeq rfl (fun q58 => ?_) (fun q58 => ?_)
    · skip
      replace q58 := yb_0.mp q58
      refine y_ret rfl rfl ⟨rfl, ?_⟩
      have hg : mgoal (E 2 i) (D 1 i) 1 (D 5 0) (E 0 0) = D 1 i := by unfold mgoal; (repeat' split) <;> omega
      exact ⟨by rw [hg, yset_id]; exact hr, rfr_0 _⟩
    · skip
      replace q58 := yb_1.mp q58
      refine y_iload rfl rfl ?_
      refine y_ifeq rfl (fun q62 => ?_) (fun q62 => ?_)
      · exfalso; omega
      · skip
        refine y_aload rfl rfl rfl ?_
        refine y_gfi (v := (σ 547 18)) rfl rfl (by decide) rfl (by decide) rfl rfl ?_
        refine y_push rfl ?_
        refine y_irem (v := ((σ 547 18) % 2)) rfl rfl (by omega) ?_
        refine y_push rfl ?_
        refine y_iceq rfl (fun q72 => ?_) (fun q72 => ?_)
        · skip
          refine y_ret rfl rfl ⟨rfl, ?_⟩
          have hg : mgoal (E 2 i) (D 1 i) 1 (D 5 0) (E 0 0) = D 1 i := by unfold mgoal; (repeat' split) <;> omega
          exact ⟨by rw [hg, yset_id]; exact hr, rfr_0 _⟩
        · skip
          refine y_aload rfl rfl rfl ?_
          refine y_gfr (t := 555) rfl rfl (by decide) rfl (by decide) ?_
          refine y_iload rfl rfl ?_
          refine y_iload rfl rfl ?_
          refine y_iast (n := 3) rfl rfl (by decide) rfl (by omega) ?_
          refine y_ret rfl rfl ⟨rfl, ?_⟩
          have hg : mgoal (E 2 i) (D 1 i) 1 (D 5 0) (E 0 0) = ((σ 555 i) + 1) := by unfold mgoal; (repeat' split) <;> omega
          exact ⟨by rw [hg]; exact rm_m hr hi (by omega), rfr_s (rfr_0 _) (by omega)⟩
  · skip
    refine y_aload rfl rfl rfl ?_
    refine y_gfr (t := 548) rfl rfl (by decide) rfl (by decide) ?_
    refine y_push rfl ?_
    refine y_iload rfl rfl ?_
    refine y_iadd (v := (11 + i)) rfl rfl (by omega) ?_
    refine y_iald (v := (σ 548 (11 + i))) (n := 2108) rfl rfl (by decide) rfl (by omega) rfl ?_
    refine y_push rfl ?_
    refine y_icne rfl (fun q23 => ?_) (fun q23 => ?_)
    · skip
      refine y_push rfl ?_
      refine y_istore (L' := [some (2, 547), some (0, i), some (0, 1), some (0, 0), none]) rfl rfl rfl rfl ?_
      refine y_aload rfl rfl rfl ?_
      refine y_gfr (t := 555) rfl rfl (by decide) rfl (by decide) ?_
      refine y_iload rfl rfl ?_
      refine y_iald (v := (σ 555 i)) (n := 3) rfl rfl (by decide) rfl (by omega) rfl ?_
      refine y_iload rfl rfl ?_
      refine y_iadd (v := ((σ 555 i) + 1)) rfl rfl (by omega) ?_
      refine y_istore (L' := [some (2, 547), some (0, i), some (0, 1), some (0, 0), some (0, ((σ 555 i) + 1))]) rfl rfl rfl rfl ?_
      refine y_iload rfl rfl ?_
      refine y_i2l rfl ?_
      refine y_lconst (v := 0) rfl rfl ?_
      refine y_aload rfl rfl rfl ?_
      refine y_gfr (t := 548) rfl rfl (by decide) rfl (by decide) ?_
      refine y_push rfl ?_
      refine y_iald (v := (σ 548 0)) (n := 2108) rfl rfl (by decide) rfl (by decide) rfl ?_
      refine y_push rfl ?_
      refine y_isub (v := ((σ 548 0) - 1)) rfl rfl (by omega) ?_
      refine y_i2l rfl ?_
      refine y_si (as := [(1, ((σ 555 i) + 1)), (1, 0), (1, ((σ 548 0) - 1))]) (S := []) rfl rfl rfl rfl rfl rfl m_lies ?_
      rintro _ _ ⟨rfl, rfl⟩
      refine y_ifeq rfl (fun q58 => ?_) (fun q58 => ?_)
      · skip
        replace q58 := yb_0.mp q58
        refine y_ret rfl rfl ⟨rfl, ?_⟩
        have hg : mgoal (E 2 i) (D 1 i) 1 (D 5 0) (E 0 0) = D 1 i := by unfold mgoal; (repeat' split) <;> omega
        exact ⟨by rw [hg, yset_id]; exact hr, rfr_0 _⟩
      · skip
        replace q58 := yb_1.mp q58
        refine y_iload rfl rfl ?_
        refine y_ifeq rfl (fun q62 => ?_) (fun q62 => ?_)
        · skip
          refine y_aload rfl rfl rfl ?_
          refine y_gfr (t := 555) rfl rfl (by decide) rfl (by decide) ?_
          refine y_iload rfl rfl ?_
          refine y_iload rfl rfl ?_
          refine y_iast (n := 3) rfl rfl (by decide) rfl (by omega) ?_
          refine y_ret rfl rfl ⟨rfl, ?_⟩
          have hg : mgoal (E 2 i) (D 1 i) 1 (D 5 0) (E 0 0) = ((σ 555 i) + 1) := by unfold mgoal; (repeat' split) <;> omega
          exact ⟨by rw [hg]; exact rm_m hr hi (by omega), rfr_s (rfr_0 _) (by omega)⟩
        · exfalso; omega
    · skip
      refine y_push rfl ?_
      refine y_goto rfl ?_
      refine y_istore (L' := [some (2, 547), some (0, i), some (0, 1), some (0, 1), none]) rfl rfl rfl rfl ?_
      refine y_aload rfl rfl rfl ?_
      refine y_gfr (t := 555) rfl rfl (by decide) rfl (by decide) ?_
      refine y_iload rfl rfl ?_
      refine y_iald (v := (σ 555 i)) (n := 3) rfl rfl (by decide) rfl (by omega) rfl ?_
      refine y_iload rfl rfl ?_
      refine y_iadd (v := ((σ 555 i) + 1)) rfl rfl (by omega) ?_
      refine y_istore (L' := [some (2, 547), some (0, i), some (0, 1), some (0, 1), some (0, ((σ 555 i) + 1))]) rfl rfl rfl rfl ?_
      refine y_iload rfl rfl ?_
      refine y_i2l rfl ?_
      refine y_lconst (v := 0) rfl rfl ?_
      refine y_aload rfl rfl rfl ?_
      refine y_gfr (t := 548) rfl rfl (by decide) rfl (by decide) ?_
      refine y_push rfl ?_
      refine y_iald (v := (σ 548 0)) (n := 2108) rfl rfl (by decide) rfl (by decide) rfl ?_
      refine y_push rfl ?_
      refine y_isub (v := ((σ 548 0) - 1)) rfl rfl (by omega) ?_
      refine y_i2l rfl ?_
      refine y_si (as := [(1, ((σ 555 i) + 1)), (1, 0), (1, ((σ 548 0) - 1))]) (S := []) rfl rfl rfl rfl rfl rfl m_lies ?_
      rintro _ _ ⟨rfl, rfl⟩
      refine y_ifeq rfl (fun q58 => ?_) (fun q58 => ?_)
      · skip
        replace q58 := yb_0.mp q58
        refine y_ret rfl rfl ⟨rfl, ?_⟩
        have hg : mgoal (E 2 i) (D 1 i) 1 (D 5 0) (E 0 0) = D 1 i := by unfold mgoal; (repeat' split) <;> omega
        exact ⟨by rw [hg, yset_id]; exact hr, rfr_0 _⟩
      · skip
        replace q58 := yb_1.mp q58
        refine y_iload rfl rfl ?_
        refine y_ifeq rfl (fun q62 => ?_) (fun q62 => ?_)
        · exfalso; omega
        · skip
          refine y_aload rfl rfl rfl ?_
          refine y_gfi (v := (σ 547 18)) rfl rfl (by decide) rfl (by decide) rfl rfl ?_
          refine y_push rfl ?_
          refine y_irem (v := ((σ 547 18) % 2)) rfl rfl (by omega) ?_
          refine y_push rfl ?_
          refine y_iceq rfl (fun q72 => ?_) (fun q72 => ?_)
          · skip
            refine y_ret rfl rfl ⟨rfl, ?_⟩
            have hg : mgoal (E 2 i) (D 1 i) 1 (D 5 0) (E 0 0) = D 1 i := by unfold mgoal; (repeat' split) <;> omega
            exact ⟨by rw [hg, yset_id]; exact hr, rfr_0 _⟩
          · skip
            refine y_aload rfl rfl rfl ?_
            refine y_gfr (t := 555) rfl rfl (by decide) rfl (by decide) ?_
            refine y_iload rfl rfl ?_
            refine y_iload rfl rfl ?_
            refine y_iast (n := 3) rfl rfl (by decide) rfl (by omega) ?_
            refine y_ret rfl rfl ⟨rfl, ?_⟩
            have hg : mgoal (E 2 i) (D 1 i) 1 (D 5 0) (E 0 0) = ((σ 555 i) + 1) := by unfold mgoal; (repeat' split) <;> omega
            exact ⟨by rw [hg]; exact rm_m hr hi (by omega), rfr_s (rfr_0 _) (by omega)⟩
theorem m_does {g : Launch × XG × va_G} {σ : YS} {E D : YS} {i sg : Int} (hr : rm σ E D) (he : eG E) (hd : dG E D) (hn : 0 ≤ D 5 0 ∧ D 5 0 < 1000000) (hi : 0 ≤ i ∧ i < E 1 0) (hs : sg ≠ 7 ∧ sg ≠ 8) : YI g 131 [(2, 547), (0, i), (0, sg)] σ (fun b σ' => (b = 1 ∧ ¬ (sg = 6 ∧ E 2 i ≠ 3 ∧ malone E D i) ∧ rm σ' E (mwork E D i sg) ∧ rfr σ σ') ∨ (b = 0 ∧ (sg = 6 ∧ E 2 i ≠ 3 ∧ malone E D i) ∧ σ = σ')) := by
  refine y_start rfl rfl rfl ?_
  have ⟨⟨f1, f2, f3⟩, f4, f5, f6⟩ := hr
  have ⟨e1, e2, e3⟩ := he
  have ⟨⟨b1, b2, b3, b4⟩, ⟨b5, b6⟩, b7, b8⟩ := f5 i (by omega) (by omega)
  have ⟨⟨d1, d2⟩, ⟨d3, d4⟩, ⟨d5, d6⟩, d7⟩ := hd.2 i (by omega) (by omega)
  have ⟨⟨t1, t2⟩, ⟨t3, t4⟩, t5⟩ := e3 i (by omega) (by omega)
  have w1 : σ 554 (σ 555 i) = D 0 (D 1 i) := by rw [b1]; exact f4 _ (by omega) (by omega)
  have w2 := hd.1 (D 1 i) (by omega) (by omega)
  refine y_aload rfl rfl rfl ?_
  refine y_gfr (t := 548) rfl rfl (by decide) rfl (by decide) ?_
  refine y_push rfl ?_
  refine y_iload rfl rfl ?_
  refine y_iadd (v := (11 + i)) rfl rfl (by omega) ?_
  refine y_iald (v := (σ 548 (11 + i))) (n := 2108) rfl rfl (by decide) rfl (by omega) rfl ?_
  refine y_istore (L' := [some (2, 547), some (0, i), some (0, sg), some (0, (σ 548 (11 + i))), none]) rfl rfl rfl rfl ?_
  refine y_iload rfl rfl ?_
  refine y_push rfl ?_
  refine y_icne rfl (fun q12 => ?_) (fun q12 => ?_)
  · skip
    refine y_push rfl ?_
    refine y_istore (L' := [some (2, 547), some (0, i), some (0, sg), some (0, (σ 548 (11 + i))), some (0, 0)]) rfl rfl rfl rfl ?_
    refine y_iload rfl rfl ?_
    refine y_tsw7 rfl rfl (by decide) rfl rfl rfl rfl rfl rfl rfl rfl (fun q35 => ?_) (fun q35 => ?_) (fun q35 => ?_) (fun q35 => ?_) (fun q35 => ?_) (fun q35 => ?_) (fun q35 => ?_) (fun q35 => ?_)
    · skip
      refine y_push rfl ?_
      refine y_zret rfl rfl (by decide) ⟨_, rfl, ?_⟩
      have hq : ¬ (sg = 6 ∧ E 2 i ≠ 3 ∧ malone E D i) := fun z => by omega
      have hg : mgoal (E 2 i) (D 1 i) sg (D 5 0) (E 0 0) = D 1 i := by unfold mgoal; (repeat' split) <;> omega
      exact Or.inl ⟨rfl, hq, by unfold mwork; rw [if_neg (by omega), if_neg (by omega), if_neg (by omega), hg, yset_id]; exact hr, rfr_0 _⟩
    · skip
      refine y_aload rfl rfl rfl ?_
      refine y_iload rfl rfl ?_
      refine y_push rfl ?_
      refine y_vu (as := [(2, 547), (0, i), (0, (-1))]) (S := []) rfl rfl rfl rfl rfl rfl (by decide) rfl (m_moves0 hr he hd hn hi) ?_
      rintro σ' ⟨z1, z2⟩
      refine y_push rfl ?_
      refine y_zret rfl rfl (by decide) ⟨_, rfl, ?_⟩
      have hq : ¬ (sg = 6 ∧ E 2 i ≠ 3 ∧ malone E D i) := fun z => by omega
      exact Or.inl ⟨rfl, hq, by unfold mwork; rw [if_neg (by omega), if_neg (by omega), if_neg (by omega), show sg = 0 by omega]; exact z1, z2⟩
    · skip
      refine y_aload rfl rfl rfl ?_
      refine y_iload rfl rfl ?_
      refine y_push rfl ?_
      refine y_vu (as := [(2, 547), (0, i), (0, 1)]) (S := []) rfl rfl rfl rfl rfl rfl (by decide) rfl (m_moves1 hr he hd hn hi) ?_
      rintro σ' ⟨z1, z2⟩
      refine y_push rfl ?_
      refine y_zret rfl rfl (by decide) ⟨_, rfl, ?_⟩
      have hq : ¬ (sg = 6 ∧ E 2 i ≠ 3 ∧ malone E D i) := fun z => by omega
      exact Or.inl ⟨rfl, hq, by unfold mwork; rw [if_neg (by omega), if_neg (by omega), if_neg (by omega), show sg = 1 by omega]; exact z1, z2⟩
    · skip
      refine y_aload rfl rfl rfl ?_
      refine y_iload rfl rfl ?_
      refine y_iload rfl rfl ?_
      refine y_ifeq rfl (fun q96 => ?_) (fun q96 => ?_)
      · skip
        refine y_iload rfl rfl ?_
        refine y_push rfl ?_
        refine y_icne rfl (fun q105 => ?_) (fun q105 => ?_)
        · skip
          refine y_iload rfl rfl ?_
          refine y_push rfl ?_
          refine y_icne rfl (fun q114 => ?_) (fun q114 => ?_)
          · skip
            refine y_push rfl ?_
            refine y_vu (as := [(2, 547), (0, i), (0, 1)]) (S := []) rfl rfl rfl rfl rfl rfl (by decide) rfl (m_fetch (t := 1) hr he hd hn hi (by omega)) ?_
            rintro σ' ⟨z1, z2⟩
            refine y_push rfl ?_
            refine y_zret rfl rfl (by decide) ⟨_, rfl, ?_⟩
            have hq : ¬ (sg = 6 ∧ E 2 i ≠ 3 ∧ malone E D i) := fun z => by omega
            have hm : mtimes (E 2 i) = 1 := by unfold mtimes; (repeat' split) <;> omega
            exact Or.inl ⟨rfl, hq, by unfold mwork; rw [if_pos (by omega), hm]; exact z1, z2⟩
          · skip
            refine y_push rfl ?_
            refine y_goto rfl ?_
            refine y_vu (as := [(2, 547), (0, i), (0, 20)]) (S := []) rfl rfl rfl rfl rfl rfl (by decide) rfl (m_fetch (t := 20) hr he hd hn hi (by omega)) ?_
            rintro σ' ⟨z1, z2⟩
            refine y_push rfl ?_
            refine y_zret rfl rfl (by decide) ⟨_, rfl, ?_⟩
            have hq : ¬ (sg = 6 ∧ E 2 i ≠ 3 ∧ malone E D i) := fun z => by omega
            have hm : mtimes (E 2 i) = 20 := by unfold mtimes; (repeat' split) <;> omega
            exact Or.inl ⟨rfl, hq, by unfold mwork; rw [if_pos (by omega), hm]; exact z1, z2⟩
        · skip
          refine y_push rfl ?_
          refine y_goto rfl ?_
          refine y_vu (as := [(2, 547), (0, i), (0, 2)]) (S := []) rfl rfl rfl rfl rfl rfl (by decide) rfl (m_fetch (t := 2) hr he hd hn hi (by omega)) ?_
          rintro σ' ⟨z1, z2⟩
          refine y_push rfl ?_
          refine y_zret rfl rfl (by decide) ⟨_, rfl, ?_⟩
          have hq : ¬ (sg = 6 ∧ E 2 i ≠ 3 ∧ malone E D i) := fun z => by omega
          have hm : mtimes (E 2 i) = 2 := by unfold mtimes; (repeat' split) <;> omega
          exact Or.inl ⟨rfl, hq, by unfold mwork; rw [if_pos (by omega), hm]; exact z1, z2⟩
      · exfalso; omega
    · skip
      refine y_iload rfl rfl ?_
      refine y_ifne rfl (fun q130 => ?_) (fun q130 => ?_)
      · exfalso; omega
      · skip
        refine y_aload rfl rfl rfl ?_
        refine y_gfr (t := 556) rfl rfl (by decide) rfl (by decide) ?_
        refine y_iload rfl rfl ?_
        refine y_iald (v := (σ 556 i)) (n := 3) rfl rfl (by decide) rfl (by omega) rfl ?_
        refine y_ifle rfl (fun q139 => ?_) (fun q139 => ?_)
        · skip
          refine y_push rfl ?_
          refine y_zret rfl rfl (by decide) ⟨_, rfl, ?_⟩
          have hq : ¬ (sg = 6 ∧ E 2 i ≠ 3 ∧ malone E D i) := fun z => by omega
          have hg : mgoal (E 2 i) (D 1 i) sg (D 5 0) (E 0 0) = D 1 i := by unfold mgoal; (repeat' split) <;> omega
          by_cases hrest : E 2 i = 5 ∧ D 5 0 % 7 = 6
          · exact Or.inl ⟨rfl, hq, by unfold mwork; rw [if_neg (by omega), if_neg (by omega), if_neg (by omega), hg, yset_id]; exact hr, rfr_0 _⟩
          · have hm : mput D i = D := if_neg (by omega)
            exact Or.inl ⟨rfl, hq, by unfold mwork; rw [if_neg (by omega), if_pos (by omega), hm]; exact hr, rfr_0 _⟩
        · skip
          refine y_aload rfl rfl rfl ?_
          refine y_gfr (t := 554) rfl rfl (by decide) rfl (by decide) ?_
          refine y_aload rfl rfl rfl ?_
          refine y_gfr (t := 555) rfl rfl (by decide) rfl (by decide) ?_
          refine y_iload rfl rfl ?_
          refine y_iald (v := (σ 555 i)) (n := 3) rfl rfl (by decide) rfl (by omega) rfl ?_
          refine y_iald (v := (σ 554 (σ 555 i))) (n := 9) rfl rfl (by decide) rfl (by omega) rfl ?_
          refine y_push rfl ?_
          refine y_icge rfl (fun q155 => ?_) (fun q155 => ?_)
          · skip
            refine y_push rfl ?_
            refine y_zret rfl rfl (by decide) ⟨_, rfl, ?_⟩
            have hq : ¬ (sg = 6 ∧ E 2 i ≠ 3 ∧ malone E D i) := fun z => by omega
            have hg : mgoal (E 2 i) (D 1 i) sg (D 5 0) (E 0 0) = D 1 i := by unfold mgoal; (repeat' split) <;> omega
            by_cases hrest : E 2 i = 5 ∧ D 5 0 % 7 = 6
            · exact Or.inl ⟨rfl, hq, by unfold mwork; rw [if_neg (by omega), if_neg (by omega), if_neg (by omega), hg, yset_id]; exact hr, rfr_0 _⟩
            · have hm : mput D i = D := if_neg (by omega)
              exact Or.inl ⟨rfl, hq, by unfold mwork; rw [if_neg (by omega), if_pos (by omega), hm]; exact hr, rfr_0 _⟩
          · skip
            refine y_aload rfl rfl rfl ?_
            refine y_gfr (t := 556) rfl rfl (by decide) rfl (by decide) ?_
            refine y_iload rfl rfl ?_
            refine y_dup2 rfl rfl rfl ?_
            refine y_iald (v := (σ 556 i)) (n := 3) rfl rfl (by decide) rfl (by omega) rfl ?_
            refine y_push rfl ?_
            refine y_isub (v := ((σ 556 i) - 1)) rfl rfl (by omega) ?_
            refine y_iast (n := 3) rfl rfl (by decide) rfl (by omega) ?_
            refine y_aload rfl rfl rfl ?_
            refine y_gfr (t := 554) rfl rfl (by decide) rfl (by decide) ?_
            refine y_aload rfl rfl rfl ?_
            refine y_gfr (t := 555) rfl rfl (by decide) rfl (by decide) ?_
            refine y_iload rfl rfl ?_
            refine y_iald (v := (σ 555 i)) (n := 3) rfl rfl (by decide) rfl (by omega) (yne (by omega) rfl) ?_
            refine y_dup2 rfl rfl rfl ?_
            refine y_iald (v := (σ 554 (σ 555 i))) (n := 9) rfl rfl (by decide) rfl (by omega) (yne (by omega) rfl) ?_
            refine y_push rfl ?_
            refine y_iadd (v := ((σ 554 (σ 555 i)) + 1)) rfl rfl (by omega) ?_
            refine y_iast (n := 9) rfl rfl (by decide) rfl (by omega) ?_
            refine y_push rfl ?_
            refine y_zret rfl rfl (by decide) ⟨_, rfl, ?_⟩
            have hq : ¬ (sg = 6 ∧ E 2 i ≠ 3 ∧ malone E D i) := fun z => by omega
            have hm : mput D i = yset (yset D 2 i (D 2 i - 1)) 0 (D 1 i) (D 0 (D 1 i) + 1) := if_pos (by omega)
            exact Or.inl ⟨rfl, hq, by unfold mwork; rw [if_neg (by omega), if_pos (by omega), hm, ← w1, ← b1, ← b2]; exact rm_w (rm_m hr hi (by omega)), rfr_s (rfr_s (rfr_0 _) (by omega)) (by omega)⟩
    · skip
      refine y_push rfl ?_
      refine y_zret rfl rfl (by decide) ⟨_, rfl, ?_⟩
      have hq : ¬ (sg = 6 ∧ E 2 i ≠ 3 ∧ malone E D i) := fun z => by omega
      have hg : mgoal (E 2 i) (D 1 i) sg (D 5 0) (E 0 0) = D 1 i := by unfold mgoal; (repeat' split) <;> omega
      exact Or.inl ⟨rfl, hq, by unfold mwork; rw [if_neg (by omega), if_neg (by omega), if_neg (by omega), hg, yset_id]; exact hr, rfr_0 _⟩
    · skip
      refine y_aload rfl rfl rfl ?_
      refine y_gfr (t := 558) rfl rfl (by decide) rfl (by decide) ?_
      refine y_iload rfl rfl ?_
      refine y_push rfl ?_
      refine y_iast (n := 3) rfl rfl (by decide) rfl (by omega) ?_
      refine y_push rfl ?_
      refine y_zret rfl rfl (by decide) ⟨_, rfl, ?_⟩
      have hq : ¬ (sg = 6 ∧ E 2 i ≠ 3 ∧ malone E D i) := fun z => by omega
      exact Or.inl ⟨rfl, hq, by unfold mwork; rw [if_neg (by omega), if_neg (by omega), if_pos (by omega)]; exact rm_m hr hi (by omega), rfr_s (rfr_0 _) (by omega)⟩
    · skip
      refine y_iload rfl rfl ?_
      refine y_push rfl ?_
      refine y_iceq rfl (fun q196 => ?_) (fun q196 => ?_)
      · skip
        refine y_push rfl ?_
        refine y_goto rfl ?_
        refine y_zret rfl rfl (by decide) ⟨_, rfl, ?_⟩
        have hg : mgoal (E 2 i) (D 1 i) sg (D 5 0) (E 0 0) = D 1 i := by unfold mgoal; (repeat' split) <;> omega
        have hq : ¬ (sg = 6 ∧ E 2 i ≠ 3 ∧ malone E D i) := fun z => by first | exact q204 z.2.2 | (have := z.2.1; omega)
        exact Or.inl ⟨rfl, hq, by unfold mwork; rw [if_neg (by omega), if_neg (by omega), if_neg (by omega), hg, yset_id]; exact hr, rfr_0 _⟩
      · skip
        refine y_aload rfl rfl rfl ?_
        refine y_iload rfl rfl ?_
        refine y_vi (as := [(2, 547), (0, i)]) (S := []) rfl rfl rfl rfl rfl rfl (by decide) rfl (m_together hr he hd hn hi) ?_
        rintro _ _ ⟨rfl, rfl⟩
        refine y_ifeq rfl (fun q204 => ?_) (fun q204 => ?_)
        · skip
          replace q204 := yb_0.mp q204
          refine y_push rfl ?_
          refine y_zret rfl rfl (by decide) ⟨_, rfl, ?_⟩
          exact Or.inr ⟨rfl, ⟨by omega, by omega, Classical.byContradiction q204⟩, rfl⟩
        · skip
          replace q204 := yb_1.mp q204
          refine y_push rfl ?_
          refine y_goto rfl ?_
          refine y_zret rfl rfl (by decide) ⟨_, rfl, ?_⟩
          have hg : mgoal (E 2 i) (D 1 i) sg (D 5 0) (E 0 0) = D 1 i := by unfold mgoal; (repeat' split) <;> omega
          have hq : ¬ (sg = 6 ∧ E 2 i ≠ 3 ∧ malone E D i) := fun z => by first | exact q204 z.2.2 | (have := z.2.1; omega)
          exact Or.inl ⟨rfl, hq, by unfold mwork; rw [if_neg (by omega), if_neg (by omega), if_neg (by omega), hg, yset_id]; exact hr, rfr_0 _⟩
  · skip
    refine y_aload rfl rfl rfl ?_
    refine y_gfi (v := (σ 547 18)) rfl rfl (by decide) rfl (by decide) rfl rfl ?_
    refine y_push rfl ?_
    refine y_irem (v := ((σ 547 18) % 7)) rfl rfl (by omega) ?_
    refine y_push rfl ?_
    refine y_icne rfl (fun q24 => ?_) (fun q24 => ?_)
    · skip
      refine y_push rfl ?_
      refine y_istore (L' := [some (2, 547), some (0, i), some (0, sg), some (0, (σ 548 (11 + i))), some (0, 0)]) rfl rfl rfl rfl ?_
      refine y_iload rfl rfl ?_
      refine y_tsw7 rfl rfl (by decide) rfl rfl rfl rfl rfl rfl rfl rfl (fun q35 => ?_) (fun q35 => ?_) (fun q35 => ?_) (fun q35 => ?_) (fun q35 => ?_) (fun q35 => ?_) (fun q35 => ?_) (fun q35 => ?_)
      · skip
        refine y_push rfl ?_
        refine y_zret rfl rfl (by decide) ⟨_, rfl, ?_⟩
        have hq : ¬ (sg = 6 ∧ E 2 i ≠ 3 ∧ malone E D i) := fun z => by omega
        have hg : mgoal (E 2 i) (D 1 i) sg (D 5 0) (E 0 0) = D 1 i := by unfold mgoal; (repeat' split) <;> omega
        exact Or.inl ⟨rfl, hq, by unfold mwork; rw [if_neg (by omega), if_neg (by omega), if_neg (by omega), hg, yset_id]; exact hr, rfr_0 _⟩
      · skip
        refine y_aload rfl rfl rfl ?_
        refine y_iload rfl rfl ?_
        refine y_push rfl ?_
        refine y_vu (as := [(2, 547), (0, i), (0, (-1))]) (S := []) rfl rfl rfl rfl rfl rfl (by decide) rfl (m_moves0 hr he hd hn hi) ?_
        rintro σ' ⟨z1, z2⟩
        refine y_push rfl ?_
        refine y_zret rfl rfl (by decide) ⟨_, rfl, ?_⟩
        have hq : ¬ (sg = 6 ∧ E 2 i ≠ 3 ∧ malone E D i) := fun z => by omega
        exact Or.inl ⟨rfl, hq, by unfold mwork; rw [if_neg (by omega), if_neg (by omega), if_neg (by omega), show sg = 0 by omega]; exact z1, z2⟩
      · skip
        refine y_aload rfl rfl rfl ?_
        refine y_iload rfl rfl ?_
        refine y_push rfl ?_
        refine y_vu (as := [(2, 547), (0, i), (0, 1)]) (S := []) rfl rfl rfl rfl rfl rfl (by decide) rfl (m_moves1 hr he hd hn hi) ?_
        rintro σ' ⟨z1, z2⟩
        refine y_push rfl ?_
        refine y_zret rfl rfl (by decide) ⟨_, rfl, ?_⟩
        have hq : ¬ (sg = 6 ∧ E 2 i ≠ 3 ∧ malone E D i) := fun z => by omega
        exact Or.inl ⟨rfl, hq, by unfold mwork; rw [if_neg (by omega), if_neg (by omega), if_neg (by omega), show sg = 1 by omega]; exact z1, z2⟩
      · skip
        refine y_aload rfl rfl rfl ?_
        refine y_iload rfl rfl ?_
        refine y_iload rfl rfl ?_
        refine y_ifeq rfl (fun q96 => ?_) (fun q96 => ?_)
        · skip
          refine y_iload rfl rfl ?_
          refine y_push rfl ?_
          refine y_icne rfl (fun q105 => ?_) (fun q105 => ?_)
          · skip
            refine y_iload rfl rfl ?_
            refine y_push rfl ?_
            refine y_icne rfl (fun q114 => ?_) (fun q114 => ?_)
            · skip
              refine y_push rfl ?_
              refine y_vu (as := [(2, 547), (0, i), (0, 1)]) (S := []) rfl rfl rfl rfl rfl rfl (by decide) rfl (m_fetch (t := 1) hr he hd hn hi (by omega)) ?_
              rintro σ' ⟨z1, z2⟩
              refine y_push rfl ?_
              refine y_zret rfl rfl (by decide) ⟨_, rfl, ?_⟩
              have hq : ¬ (sg = 6 ∧ E 2 i ≠ 3 ∧ malone E D i) := fun z => by omega
              have hm : mtimes (E 2 i) = 1 := by unfold mtimes; (repeat' split) <;> omega
              exact Or.inl ⟨rfl, hq, by unfold mwork; rw [if_pos (by omega), hm]; exact z1, z2⟩
            · skip
              refine y_push rfl ?_
              refine y_goto rfl ?_
              refine y_vu (as := [(2, 547), (0, i), (0, 20)]) (S := []) rfl rfl rfl rfl rfl rfl (by decide) rfl (m_fetch (t := 20) hr he hd hn hi (by omega)) ?_
              rintro σ' ⟨z1, z2⟩
              refine y_push rfl ?_
              refine y_zret rfl rfl (by decide) ⟨_, rfl, ?_⟩
              have hq : ¬ (sg = 6 ∧ E 2 i ≠ 3 ∧ malone E D i) := fun z => by omega
              have hm : mtimes (E 2 i) = 20 := by unfold mtimes; (repeat' split) <;> omega
              exact Or.inl ⟨rfl, hq, by unfold mwork; rw [if_pos (by omega), hm]; exact z1, z2⟩
          · skip
            refine y_push rfl ?_
            refine y_goto rfl ?_
            refine y_vu (as := [(2, 547), (0, i), (0, 2)]) (S := []) rfl rfl rfl rfl rfl rfl (by decide) rfl (m_fetch (t := 2) hr he hd hn hi (by omega)) ?_
            rintro σ' ⟨z1, z2⟩
            refine y_push rfl ?_
            refine y_zret rfl rfl (by decide) ⟨_, rfl, ?_⟩
            have hq : ¬ (sg = 6 ∧ E 2 i ≠ 3 ∧ malone E D i) := fun z => by omega
            have hm : mtimes (E 2 i) = 2 := by unfold mtimes; (repeat' split) <;> omega
            exact Or.inl ⟨rfl, hq, by unfold mwork; rw [if_pos (by omega), hm]; exact z1, z2⟩
        · exfalso; omega
      · skip
        refine y_iload rfl rfl ?_
        refine y_ifne rfl (fun q130 => ?_) (fun q130 => ?_)
        · exfalso; omega
        · skip
          refine y_aload rfl rfl rfl ?_
          refine y_gfr (t := 556) rfl rfl (by decide) rfl (by decide) ?_
          refine y_iload rfl rfl ?_
          refine y_iald (v := (σ 556 i)) (n := 3) rfl rfl (by decide) rfl (by omega) rfl ?_
          refine y_ifle rfl (fun q139 => ?_) (fun q139 => ?_)
          · skip
            refine y_push rfl ?_
            refine y_zret rfl rfl (by decide) ⟨_, rfl, ?_⟩
            have hq : ¬ (sg = 6 ∧ E 2 i ≠ 3 ∧ malone E D i) := fun z => by omega
            have hg : mgoal (E 2 i) (D 1 i) sg (D 5 0) (E 0 0) = D 1 i := by unfold mgoal; (repeat' split) <;> omega
            by_cases hrest : E 2 i = 5 ∧ D 5 0 % 7 = 6
            · exact Or.inl ⟨rfl, hq, by unfold mwork; rw [if_neg (by omega), if_neg (by omega), if_neg (by omega), hg, yset_id]; exact hr, rfr_0 _⟩
            · have hm : mput D i = D := if_neg (by omega)
              exact Or.inl ⟨rfl, hq, by unfold mwork; rw [if_neg (by omega), if_pos (by omega), hm]; exact hr, rfr_0 _⟩
          · skip
            refine y_aload rfl rfl rfl ?_
            refine y_gfr (t := 554) rfl rfl (by decide) rfl (by decide) ?_
            refine y_aload rfl rfl rfl ?_
            refine y_gfr (t := 555) rfl rfl (by decide) rfl (by decide) ?_
            refine y_iload rfl rfl ?_
            refine y_iald (v := (σ 555 i)) (n := 3) rfl rfl (by decide) rfl (by omega) rfl ?_
            refine y_iald (v := (σ 554 (σ 555 i))) (n := 9) rfl rfl (by decide) rfl (by omega) rfl ?_
            refine y_push rfl ?_
            refine y_icge rfl (fun q155 => ?_) (fun q155 => ?_)
            · skip
              refine y_push rfl ?_
              refine y_zret rfl rfl (by decide) ⟨_, rfl, ?_⟩
              have hq : ¬ (sg = 6 ∧ E 2 i ≠ 3 ∧ malone E D i) := fun z => by omega
              have hg : mgoal (E 2 i) (D 1 i) sg (D 5 0) (E 0 0) = D 1 i := by unfold mgoal; (repeat' split) <;> omega
              by_cases hrest : E 2 i = 5 ∧ D 5 0 % 7 = 6
              · exact Or.inl ⟨rfl, hq, by unfold mwork; rw [if_neg (by omega), if_neg (by omega), if_neg (by omega), hg, yset_id]; exact hr, rfr_0 _⟩
              · have hm : mput D i = D := if_neg (by omega)
                exact Or.inl ⟨rfl, hq, by unfold mwork; rw [if_neg (by omega), if_pos (by omega), hm]; exact hr, rfr_0 _⟩
            · skip
              refine y_aload rfl rfl rfl ?_
              refine y_gfr (t := 556) rfl rfl (by decide) rfl (by decide) ?_
              refine y_iload rfl rfl ?_
              refine y_dup2 rfl rfl rfl ?_
              refine y_iald (v := (σ 556 i)) (n := 3) rfl rfl (by decide) rfl (by omega) rfl ?_
              refine y_push rfl ?_
              refine y_isub (v := ((σ 556 i) - 1)) rfl rfl (by omega) ?_
              refine y_iast (n := 3) rfl rfl (by decide) rfl (by omega) ?_
              refine y_aload rfl rfl rfl ?_
              refine y_gfr (t := 554) rfl rfl (by decide) rfl (by decide) ?_
              refine y_aload rfl rfl rfl ?_
              refine y_gfr (t := 555) rfl rfl (by decide) rfl (by decide) ?_
              refine y_iload rfl rfl ?_
              refine y_iald (v := (σ 555 i)) (n := 3) rfl rfl (by decide) rfl (by omega) (yne (by omega) rfl) ?_
              refine y_dup2 rfl rfl rfl ?_
              refine y_iald (v := (σ 554 (σ 555 i))) (n := 9) rfl rfl (by decide) rfl (by omega) (yne (by omega) rfl) ?_
              refine y_push rfl ?_
              refine y_iadd (v := ((σ 554 (σ 555 i)) + 1)) rfl rfl (by omega) ?_
              refine y_iast (n := 9) rfl rfl (by decide) rfl (by omega) ?_
              refine y_push rfl ?_
              refine y_zret rfl rfl (by decide) ⟨_, rfl, ?_⟩
              have hq : ¬ (sg = 6 ∧ E 2 i ≠ 3 ∧ malone E D i) := fun z => by omega
              have hm : mput D i = yset (yset D 2 i (D 2 i - 1)) 0 (D 1 i) (D 0 (D 1 i) + 1) := if_pos (by omega)
              exact Or.inl ⟨rfl, hq, by unfold mwork; rw [if_neg (by omega), if_pos (by omega), hm, ← w1, ← b1, ← b2]; exact rm_w (rm_m hr hi (by omega)), rfr_s (rfr_s (rfr_0 _) (by omega)) (by omega)⟩
      · skip
        refine y_push rfl ?_
        refine y_zret rfl rfl (by decide) ⟨_, rfl, ?_⟩
        have hq : ¬ (sg = 6 ∧ E 2 i ≠ 3 ∧ malone E D i) := fun z => by omega
        have hg : mgoal (E 2 i) (D 1 i) sg (D 5 0) (E 0 0) = D 1 i := by unfold mgoal; (repeat' split) <;> omega
        exact Or.inl ⟨rfl, hq, by unfold mwork; rw [if_neg (by omega), if_neg (by omega), if_neg (by omega), hg, yset_id]; exact hr, rfr_0 _⟩
      · skip
        refine y_aload rfl rfl rfl ?_
        refine y_gfr (t := 558) rfl rfl (by decide) rfl (by decide) ?_
        refine y_iload rfl rfl ?_
        refine y_push rfl ?_
        refine y_iast (n := 3) rfl rfl (by decide) rfl (by omega) ?_
        refine y_push rfl ?_
        refine y_zret rfl rfl (by decide) ⟨_, rfl, ?_⟩
        have hq : ¬ (sg = 6 ∧ E 2 i ≠ 3 ∧ malone E D i) := fun z => by omega
        exact Or.inl ⟨rfl, hq, by unfold mwork; rw [if_neg (by omega), if_neg (by omega), if_pos (by omega)]; exact rm_m hr hi (by omega), rfr_s (rfr_0 _) (by omega)⟩
      · skip
        refine y_iload rfl rfl ?_
        refine y_push rfl ?_
        refine y_iceq rfl (fun q196 => ?_) (fun q196 => ?_)
        · skip
          refine y_push rfl ?_
          refine y_goto rfl ?_
          refine y_zret rfl rfl (by decide) ⟨_, rfl, ?_⟩
          have hg : mgoal (E 2 i) (D 1 i) sg (D 5 0) (E 0 0) = D 1 i := by unfold mgoal; (repeat' split) <;> omega
          have hq : ¬ (sg = 6 ∧ E 2 i ≠ 3 ∧ malone E D i) := fun z => by first | exact q204 z.2.2 | (have := z.2.1; omega)
          exact Or.inl ⟨rfl, hq, by unfold mwork; rw [if_neg (by omega), if_neg (by omega), if_neg (by omega), hg, yset_id]; exact hr, rfr_0 _⟩
        · skip
          refine y_aload rfl rfl rfl ?_
          refine y_iload rfl rfl ?_
          refine y_vi (as := [(2, 547), (0, i)]) (S := []) rfl rfl rfl rfl rfl rfl (by decide) rfl (m_together hr he hd hn hi) ?_
          rintro _ _ ⟨rfl, rfl⟩
          refine y_ifeq rfl (fun q204 => ?_) (fun q204 => ?_)
          · skip
            replace q204 := yb_0.mp q204
            refine y_push rfl ?_
            refine y_zret rfl rfl (by decide) ⟨_, rfl, ?_⟩
            exact Or.inr ⟨rfl, ⟨by omega, by omega, Classical.byContradiction q204⟩, rfl⟩
          · skip
            replace q204 := yb_1.mp q204
            refine y_push rfl ?_
            refine y_goto rfl ?_
            refine y_zret rfl rfl (by decide) ⟨_, rfl, ?_⟩
            have hg : mgoal (E 2 i) (D 1 i) sg (D 5 0) (E 0 0) = D 1 i := by unfold mgoal; (repeat' split) <;> omega
            have hq : ¬ (sg = 6 ∧ E 2 i ≠ 3 ∧ malone E D i) := fun z => by first | exact q204 z.2.2 | (have := z.2.1; omega)
            exact Or.inl ⟨rfl, hq, by unfold mwork; rw [if_neg (by omega), if_neg (by omega), if_neg (by omega), hg, yset_id]; exact hr, rfr_0 _⟩
    · skip
      refine y_push rfl ?_
      refine y_goto rfl ?_
      refine y_istore (L' := [some (2, 547), some (0, i), some (0, sg), some (0, (σ 548 (11 + i))), some (0, 1)]) rfl rfl rfl rfl ?_
      refine y_iload rfl rfl ?_
      refine y_tsw7 rfl rfl (by decide) rfl rfl rfl rfl rfl rfl rfl rfl (fun q35 => ?_) (fun q35 => ?_) (fun q35 => ?_) (fun q35 => ?_) (fun q35 => ?_) (fun q35 => ?_) (fun q35 => ?_) (fun q35 => ?_)
      · skip
        refine y_push rfl ?_
        refine y_zret rfl rfl (by decide) ⟨_, rfl, ?_⟩
        have hq : ¬ (sg = 6 ∧ E 2 i ≠ 3 ∧ malone E D i) := fun z => by omega
        have hg : mgoal (E 2 i) (D 1 i) sg (D 5 0) (E 0 0) = D 1 i := by unfold mgoal; (repeat' split) <;> omega
        exact Or.inl ⟨rfl, hq, by unfold mwork; rw [if_neg (by omega), if_neg (by omega), if_neg (by omega), hg, yset_id]; exact hr, rfr_0 _⟩
      · skip
        refine y_aload rfl rfl rfl ?_
        refine y_iload rfl rfl ?_
        refine y_push rfl ?_
        refine y_vu (as := [(2, 547), (0, i), (0, (-1))]) (S := []) rfl rfl rfl rfl rfl rfl (by decide) rfl (m_moves0 hr he hd hn hi) ?_
        rintro σ' ⟨z1, z2⟩
        refine y_push rfl ?_
        refine y_zret rfl rfl (by decide) ⟨_, rfl, ?_⟩
        have hq : ¬ (sg = 6 ∧ E 2 i ≠ 3 ∧ malone E D i) := fun z => by omega
        exact Or.inl ⟨rfl, hq, by unfold mwork; rw [if_neg (by omega), if_neg (by omega), if_neg (by omega), show sg = 0 by omega]; exact z1, z2⟩
      · skip
        refine y_aload rfl rfl rfl ?_
        refine y_iload rfl rfl ?_
        refine y_push rfl ?_
        refine y_vu (as := [(2, 547), (0, i), (0, 1)]) (S := []) rfl rfl rfl rfl rfl rfl (by decide) rfl (m_moves1 hr he hd hn hi) ?_
        rintro σ' ⟨z1, z2⟩
        refine y_push rfl ?_
        refine y_zret rfl rfl (by decide) ⟨_, rfl, ?_⟩
        have hq : ¬ (sg = 6 ∧ E 2 i ≠ 3 ∧ malone E D i) := fun z => by omega
        exact Or.inl ⟨rfl, hq, by unfold mwork; rw [if_neg (by omega), if_neg (by omega), if_neg (by omega), show sg = 1 by omega]; exact z1, z2⟩
      · skip
        refine y_aload rfl rfl rfl ?_
        refine y_iload rfl rfl ?_
        refine y_iload rfl rfl ?_
        refine y_ifeq rfl (fun q96 => ?_) (fun q96 => ?_)
        · exfalso; omega
        · skip
          refine y_push rfl ?_
          refine y_goto rfl ?_
          refine y_vu (as := [(2, 547), (0, i), (0, 0)]) (S := []) rfl rfl rfl rfl rfl rfl (by decide) rfl (m_fetch (t := 0) hr he hd hn hi (by omega)) ?_
          rintro σ' ⟨z1, z2⟩
          refine y_push rfl ?_
          refine y_zret rfl rfl (by decide) ⟨_, rfl, ?_⟩
          have hq : ¬ (sg = 6 ∧ E 2 i ≠ 3 ∧ malone E D i) := fun z => by omega
          have hg : mgoal (E 2 i) (D 1 i) sg (D 5 0) (E 0 0) = D 1 i := by unfold mgoal; (repeat' split) <;> omega
          have hm : mfetch D i (0 : Int).toNat = D := rfl
          rw [hm] at z1
          exact Or.inl ⟨rfl, hq, by unfold mwork; rw [if_neg (by omega), if_neg (by omega), if_neg (by omega), hg, yset_id]; exact z1, z2⟩
      · skip
        refine y_iload rfl rfl ?_
        refine y_ifne rfl (fun q130 => ?_) (fun q130 => ?_)
        · skip
          refine y_push rfl ?_
          refine y_zret rfl rfl (by decide) ⟨_, rfl, ?_⟩
          have hq : ¬ (sg = 6 ∧ E 2 i ≠ 3 ∧ malone E D i) := fun z => by omega
          have hg : mgoal (E 2 i) (D 1 i) sg (D 5 0) (E 0 0) = D 1 i := by unfold mgoal; (repeat' split) <;> omega
          by_cases hrest : E 2 i = 5 ∧ D 5 0 % 7 = 6
          · exact Or.inl ⟨rfl, hq, by unfold mwork; rw [if_neg (by omega), if_neg (by omega), if_neg (by omega), hg, yset_id]; exact hr, rfr_0 _⟩
          · have hm : mput D i = D := if_neg (by omega)
            exact Or.inl ⟨rfl, hq, by unfold mwork; rw [if_neg (by omega), if_pos (by omega), hm]; exact hr, rfr_0 _⟩
        · exfalso; omega
      · skip
        refine y_push rfl ?_
        refine y_zret rfl rfl (by decide) ⟨_, rfl, ?_⟩
        have hq : ¬ (sg = 6 ∧ E 2 i ≠ 3 ∧ malone E D i) := fun z => by omega
        have hg : mgoal (E 2 i) (D 1 i) sg (D 5 0) (E 0 0) = D 1 i := by unfold mgoal; (repeat' split) <;> omega
        exact Or.inl ⟨rfl, hq, by unfold mwork; rw [if_neg (by omega), if_neg (by omega), if_neg (by omega), hg, yset_id]; exact hr, rfr_0 _⟩
      · skip
        refine y_aload rfl rfl rfl ?_
        refine y_gfr (t := 558) rfl rfl (by decide) rfl (by decide) ?_
        refine y_iload rfl rfl ?_
        refine y_push rfl ?_
        refine y_iast (n := 3) rfl rfl (by decide) rfl (by omega) ?_
        refine y_push rfl ?_
        refine y_zret rfl rfl (by decide) ⟨_, rfl, ?_⟩
        have hq : ¬ (sg = 6 ∧ E 2 i ≠ 3 ∧ malone E D i) := fun z => by omega
        exact Or.inl ⟨rfl, hq, by unfold mwork; rw [if_neg (by omega), if_neg (by omega), if_pos (by omega)]; exact rm_m hr hi (by omega), rfr_s (rfr_0 _) (by omega)⟩
      · skip
        refine y_iload rfl rfl ?_
        refine y_push rfl ?_
        refine y_iceq rfl (fun q196 => ?_) (fun q196 => ?_)
        · skip
          refine y_push rfl ?_
          refine y_goto rfl ?_
          refine y_zret rfl rfl (by decide) ⟨_, rfl, ?_⟩
          have hg : mgoal (E 2 i) (D 1 i) sg (D 5 0) (E 0 0) = D 1 i := by unfold mgoal; (repeat' split) <;> omega
          have hq : ¬ (sg = 6 ∧ E 2 i ≠ 3 ∧ malone E D i) := fun z => by first | exact q204 z.2.2 | (have := z.2.1; omega)
          exact Or.inl ⟨rfl, hq, by unfold mwork; rw [if_neg (by omega), if_neg (by omega), if_neg (by omega), hg, yset_id]; exact hr, rfr_0 _⟩
        · skip
          refine y_aload rfl rfl rfl ?_
          refine y_iload rfl rfl ?_
          refine y_vi (as := [(2, 547), (0, i)]) (S := []) rfl rfl rfl rfl rfl rfl (by decide) rfl (m_together hr he hd hn hi) ?_
          rintro _ _ ⟨rfl, rfl⟩
          refine y_ifeq rfl (fun q204 => ?_) (fun q204 => ?_)
          · skip
            replace q204 := yb_0.mp q204
            refine y_push rfl ?_
            refine y_zret rfl rfl (by decide) ⟨_, rfl, ?_⟩
            exact Or.inr ⟨rfl, ⟨by omega, by omega, Classical.byContradiction q204⟩, rfl⟩
          · skip
            replace q204 := yb_1.mp q204
            refine y_push rfl ?_
            refine y_goto rfl ?_
            refine y_zret rfl rfl (by decide) ⟨_, rfl, ?_⟩
            have hg : mgoal (E 2 i) (D 1 i) sg (D 5 0) (E 0 0) = D 1 i := by unfold mgoal; (repeat' split) <;> omega
            have hq : ¬ (sg = 6 ∧ E 2 i ≠ 3 ∧ malone E D i) := fun z => by first | exact q204 z.2.2 | (have := z.2.1; omega)
            exact Or.inl ⟨rfl, hq, by unfold mwork; rw [if_neg (by omega), if_neg (by omega), if_neg (by omega), hg, yset_id]; exact hr, rfr_0 _⟩
theorem l_goStep {g : Launch × XG × va_G} {σ : YS} {E D : YS}  (he : eG E) : ∀ (nn : Nat) (τ : YS) (C : YS) (i : Int) (wt : Int), E 1 0 - i < (nn : Int) → (0 ≤ i ∧ i ≤ E 1 0) → (rm τ E C) → (dG E C) → (C = macts E (yset D 6 0 0) i.toNat) → (rfr σ τ) → (0 ≤ C 5 0 ∧ C 5 0 < 1000000) → (wt = C 6 0) → YW g 58 4 [some (2, 547), some (0, wt), some (0, i), none, none] [] τ (fun rv σ' => ∃ b, rv = some (0, b) ∧ (rm σ' E (mstep E D) ∧ mstep E D 6 0 = b ∧ rfr σ σ')) := by
  intro nn
  induction nn with
  | zero =>
    intro τ C i wt hn h0 h1 h2 h3 h4 h5 h6
    exfalso
    omega
  | succ nn ih =>
    intro τ C i wt hn h0 h1 h2 h3 h4 h5 h6
    have ⟨⟨f1, f2, f3⟩, f4, f5, f6⟩ := h1
    have ⟨e1, e2, e3⟩ := he
    refine y_iload rfl rfl ?_
    refine y_aload rfl rfl rfl ?_
    refine y_gfr (t := 548) rfl rfl (by decide) rfl (by decide) ?_
    refine y_push rfl ?_
    refine y_iald (v := (τ 548 10)) (n := 2108) rfl rfl (by decide) rfl (by decide) rfl ?_
    refine y_icge rfl (fun q12 => ?_) (fun q12 => ?_)
    · skip
      refine y_aload rfl rfl rfl ?_
      refine y_dup rfl rfl ?_
      refine y_gfi (v := (τ 547 18)) rfl rfl (by decide) rfl (by decide) rfl rfl ?_
      refine y_push rfl ?_
      refine y_iadd (v := ((τ 547 18) + 1)) rfl rfl (by omega) ?_
      refine y_pfi (j := 18) rfl rfl (by decide) rfl rfl rfl rfl rfl ?_
      refine y_iload rfl rfl ?_
      refine y_iret rfl rfl ⟨_, rfl, ?_⟩
      have hC : C = macts E (yset D 6 0 0) (E 1 0).toNat := by rw [h3, show i = E 1 0 by omega]
      have hR : rm (yset τ 547 18 (τ 547 18 + 1)) E (mstep E D) := by unfold mstep; rw [← hC, f3]; exact rm_num h1
      exact ⟨hR, by rw [h6]; unfold mstep; rw [yne (by omega) rfl, ← hC], rfr_s h4 (by omega)⟩
    · skip
      refine y_aload rfl rfl rfl ?_
      refine y_gfr (t := 558) rfl rfl (by decide) rfl (by decide) ?_
      refine y_iload rfl rfl ?_
      refine y_iald (v := (τ 558 i)) (n := 3) rfl rfl (by decide) rfl (by omega) rfl ?_
      refine y_ifne rfl (fun q21 => ?_) (fun q21 => ?_)
      · skip
        refine y_iinc (L' := [some (2, 547), some (0, wt), some (0, (i + 1)), none, none]) rfl rfl rfl rfl rfl (by omega) ?_
        refine y_goto rfl ?_
        refine ih τ C (i + 1) wt (by omega) (by omega) h1 h2 ?_ h4 h5 h6
        rw [macts_s (by omega), ← h3, if_neg]
        first
          | (have a4 := (f5 i (by omega) (by omega)).1.2.2.2; exact fun z => q21 (by omega))
          | exact fun z => q32 ((f6 i (by omega) (by omega)).mpr z.2)
      · skip
        refine y_aload rfl rfl rfl ?_
        refine y_gfi (v := (τ 547 19)) rfl rfl (by decide) rfl (by decide) rfl rfl ?_
        refine y_iload rfl rfl ?_
        refine y_si (as := [(0, (τ 547 19)), (0, i)]) (S := []) rfl rfl rfl rfl rfl rfl m_has ?_
        rintro _ _ ⟨rfl, rfl⟩
        refine y_ifeq rfl (fun q32 => ?_) (fun q32 => ?_)
        · skip
          replace q32 := yb_0.mp q32
          refine y_iinc (L' := [some (2, 547), some (0, wt), some (0, (i + 1)), none, none]) rfl rfl rfl rfl rfl (by omega) ?_
          refine y_goto rfl ?_
          refine ih τ C (i + 1) wt (by omega) (by omega) h1 h2 ?_ h4 h5 h6
          rw [macts_s (by omega), ← h3, if_neg]
          first
            | (have a4 := (f5 i (by omega) (by omega)).1.2.2.2; exact fun z => q21 (by omega))
            | exact fun z => q32 ((f6 i (by omega) (by omega)).mpr z.2)
        · skip
          replace q32 := yb_1.mp q32
          have ⟨⟨b1, b2, b3, b4⟩, ⟨b5, b6⟩, b7, b8⟩ := f5 i (by omega) (by omega)
          have ⟨⟨d1, d2⟩, ⟨d3, d4⟩, ⟨d5, d6⟩, d7⟩ := h2.2 i (by omega) (by omega)
          have ⟨⟨t1, t2⟩, ⟨t3, t4⟩, t5⟩ := e3 i (by omega) (by omega)
          have hz : C 4 i = 0 := by omega
          have hf := (by omega : 0 < E 3 i ∧ mfl E i = -1)
          have hth : mth E i := (f6 i (by omega) (by omega)).mp q32
          have hs : macts E (yset D 6 0 0) (i + 1).toNat = mact E C i := by rw [macts_s (by omega), ← h3, if_pos ⟨hz, hth⟩]
          refine y_aload rfl rfl rfl ?_
          refine y_gfr (t := 557) rfl rfl (by decide) rfl (by decide) ?_
          refine y_iload rfl rfl ?_
          refine y_iald (v := (τ 557 i)) (n := 3) rfl rfl (by decide) rfl (by omega) rfl ?_
          refine y_istore (L' := [some (2, 547), some (0, wt), some (0, i), some (0, (τ 557 i)), none]) rfl rfl rfl rfl ?_
          refine y_iload rfl rfl ?_
          refine y_aload rfl rfl rfl ?_
          refine y_gfr (t := 559) rfl rfl (by decide) rfl (by decide) ?_
          refine y_iload rfl rfl ?_
          refine y_iald (v := (τ 559 i)) (n := 3) rfl rfl (by decide) rfl (by omega) rfl ?_
          refine y_icge rfl (fun q49 => ?_) (fun q49 => ?_)
          · skip
            refine y_push rfl ?_
            refine y_istore (L' := [some (2, 547), some (0, wt), some (0, i), some (0, (τ 557 i)), some (0, (-1))]) rfl rfl rfl rfl ?_
            refine y_iload rfl rfl ?_
            refine y_push rfl ?_
            refine y_icne rfl (fun q72 => ?_) (fun q72 => ?_)
            · exfalso; omega
            · skip
              refine y_aload rfl rfl rfl ?_
              refine y_gfr (t := 558) rfl rfl (by decide) rfl (by decide) ?_
              refine y_iload rfl rfl ?_
              refine y_push rfl ?_
              refine y_iast (n := 3) rfl rfl (by decide) rfl (by omega) ?_
              refine y_goto rfl ?_
              refine y_iinc (L' := [some (2, 547), some (0, wt), some (0, (i + 1)), some (0, (τ 557 i)), some (0, (-1))]) rfl rfl rfl rfl rfl (by omega) ?_
              refine y_goto rfl ?_
              refine y_forget (M := [some (2, 547), some (0, wt), some (0, (i + 1)), none, none]) ⟨Or.inr rfl, ⟨Or.inr rfl, ⟨Or.inr rfl, ⟨Or.inl rfl, ⟨Or.inl rfl, trivial⟩⟩⟩⟩⟩ ?_
              refine ih (yset τ 558 i 1) (mact E C i) (i + 1) wt (by omega) (by omega) ?_ (dG_act h2 he ⟨by omega, by omega⟩ hz) hs.symm (rfr_s h4 (by omega)) (by rw [mact_k (by omega)]; exact h5) ?_
              · unfold mact
                rw [if_pos (by omega)]; exact rm_m h1 ⟨by omega, by omega⟩ (by omega)
              · unfold mact
                rw [if_pos (by omega)]; rw [yne (by omega) rfl]; exact h6
          · skip
            have hb := mfine hf.2 (j := C 3 i) (by omega) (by omega)
            have w3 : τ 560 (25 * i + τ 557 i) = msg E i (C 3 i) := by rw [b3]; exact b7 _ (by omega) (by omega)
            have w4 : msg E i (C 3 i) = 7 ∨ msg E i (C 3 i) = 8 → τ 561 (25 * i + τ 557 i) = mpa E i (C 3 i) := by intro z; rw [b3]; exact b8 hz _ (by omega) (by omega) z
            have w5 := t5 (C 3 i) (by omega) (by omega)
            refine y_aload rfl rfl rfl ?_
            refine y_gfr (t := 560) rfl rfl (by decide) rfl (by decide) ?_
            refine y_push rfl ?_
            refine y_iload rfl rfl ?_
            refine y_imul (v := (25 * i)) rfl rfl (by omega) ?_
            refine y_iload rfl rfl ?_
            refine y_iadd (v := ((25 * i) + (τ 557 i))) rfl rfl (by omega) ?_
            refine y_iald (v := (τ 560 ((25 * i) + (τ 557 i)))) (n := 75) rfl rfl (by decide) rfl (by omega) rfl ?_
            refine y_goto rfl ?_
            refine y_istore (L' := [some (2, 547), some (0, wt), some (0, i), some (0, (τ 557 i)), some (0, (τ 560 ((25 * i) + (τ 557 i))))]) rfl rfl rfl rfl ?_
            refine y_iload rfl rfl ?_
            refine y_push rfl ?_
            refine y_icne rfl (fun q72 => ?_) (fun q72 => ?_)
            · skip
              refine y_iload rfl rfl ?_
              refine y_push rfl ?_
              refine y_icne rfl (fun q89 => ?_) (fun q89 => ?_)
              · skip
                have hb2 := hb.2
                refine y_iload rfl rfl ?_
                refine y_push rfl ?_
                refine y_icne rfl (fun q145 => ?_) (fun q145 => ?_)
                · skip
                  refine y_aload rfl rfl rfl ?_
                  refine y_iload rfl rfl ?_
                  refine y_iload rfl rfl ?_
                  refine y_vi (as := [(2, 547), (0, i), (0, (τ 560 ((25 * i) + (τ 557 i))))]) (S := []) rfl rfl rfl rfl rfl rfl (by decide) rfl (m_does h1 he h2 h5 ⟨by omega, by omega⟩ (by omega)) ?_
                  rintro b_ σ' (⟨rfl, hq, z1, z2⟩ | ⟨rfl, hq, rfl⟩)
                  · skip
                    have wa : σ' 557 i = C 3 i := by rw [(z1.2.2.1 i (by omega) (by omega)).1.2.2.1, mwork_k (by omega)]
                    refine y_ifeq rfl (fun q175 => ?_) (fun q175 => ?_)
                    · exfalso; omega
                    · skip
                      refine y_aload rfl rfl rfl ?_
                      refine y_gfr (t := 557) rfl rfl (by decide) rfl (by decide) ?_
                      refine y_iload rfl rfl ?_
                      refine y_dup2 rfl rfl rfl ?_
                      refine y_iald (v := (σ' 557 i)) (n := 3) rfl rfl (by decide) rfl (by omega) rfl ?_
                      refine y_push rfl ?_
                      refine y_iadd (v := ((σ' 557 i) + 1)) rfl rfl (by omega) ?_
                      refine y_iast (n := 3) rfl rfl (by decide) rfl (by omega) ?_
                      refine y_goto rfl ?_
                      refine y_iinc (L' := [some (2, 547), some (0, wt), some (0, (i + 1)), some (0, (τ 557 i)), some (0, (τ 560 ((25 * i) + (τ 557 i))))]) rfl rfl rfl rfl rfl (by omega) ?_
                      refine y_goto rfl ?_
                      refine y_forget (M := [some (2, 547), some (0, wt), some (0, (i + 1)), none, none]) ⟨Or.inr rfl, ⟨Or.inr rfl, ⟨Or.inr rfl, ⟨Or.inl rfl, ⟨Or.inl rfl, trivial⟩⟩⟩⟩⟩ ?_
                      rw [w3] at z1
                      refine ih (yset σ' 557 i ((σ' 557 i) + 1)) (mact E C i) (i + 1) wt (by omega) (by omega) ?_ (dG_act h2 he ⟨by omega, by omega⟩ hz) hs.symm (rfr_s (rfr_t h4 z2) (by omega)) (by rw [mact_k (by omega)]; exact h5) ?_
                      · unfold mact
                        rw [if_neg (by omega), if_neg (by omega), if_neg (by omega), if_neg (by rw [← w3]; exact hq)]; rw [wa]; exact rm_m z1 ⟨by omega, by omega⟩ (by omega)
                      · unfold mact
                        rw [if_neg (by omega), if_neg (by omega), if_neg (by omega), if_neg (by rw [← w3]; exact hq)]; rw [yne (by omega) rfl, mwork_k (by omega)]; exact h6
                  · skip
                    refine y_ifeq rfl (fun q175 => ?_) (fun q175 => ?_)
                    · skip
                      refine y_iload rfl rfl ?_
                      refine y_push rfl ?_
                      refine y_iload rfl rfl ?_
                      refine y_ishl (v := (yshl 1 i)) rfl rfl ?_
                      refine y_ior (v := (yor wt (yshl 1 i))) rfl rfl ?_
                      refine y_istore (L' := [some (2, 547), some (0, (yor wt (yshl 1 i))), some (0, i), some (0, (τ 557 i)), some (0, (τ 560 ((25 * i) + (τ 557 i))))]) rfl rfl rfl rfl ?_
                      refine y_iinc (L' := [some (2, 547), some (0, (yor wt (yshl 1 i))), some (0, (i + 1)), some (0, (τ 557 i)), some (0, (τ 560 ((25 * i) + (τ 557 i))))]) rfl rfl rfl rfl rfl (by omega) ?_
                      refine y_goto rfl ?_
                      refine y_forget (M := [some (2, 547), some (0, (yor wt (yshl 1 i))), some (0, (i + 1)), none, none]) ⟨Or.inr rfl, ⟨Or.inr rfl, ⟨Or.inr rfl, ⟨Or.inl rfl, ⟨Or.inl rfl, trivial⟩⟩⟩⟩⟩ ?_
                      have hal : malone E C i := hq.2.2
                      have hk3 : E 2 i ≠ 3 := hq.2.1
                      refine ih τ (mact E C i) (i + 1) (yor wt (yshl 1 i)) (by omega) (by omega) ?_ (dG_act h2 he ⟨by omega, by omega⟩ hz) hs.symm h4 (by rw [mact_k (by omega)]; exact h5) ?_
                      · unfold mact
                        rw [if_neg (by omega), if_neg (by omega), if_neg (by omega), if_pos ⟨by omega, by omega, hal⟩]; exact rm_wait h1
                      · unfold mact
                        rw [if_neg (by omega), if_neg (by omega), if_neg (by omega), if_pos ⟨by omega, by omega, hal⟩]; rw [yeq, h6]
                    · exfalso; omega
                · skip
                  have hb3 := hb.2 (by omega)
                  have w7 := w4 (by omega)
                  refine y_aload rfl rfl rfl ?_
                  refine y_gfr (t := 557) rfl rfl (by decide) rfl (by decide) ?_
                  refine y_iload rfl rfl ?_
                  refine y_aload rfl rfl rfl ?_
                  refine y_gfr (t := 561) rfl rfl (by decide) rfl (by decide) ?_
                  refine y_push rfl ?_
                  refine y_iload rfl rfl ?_
                  refine y_imul (v := (25 * i)) rfl rfl (by omega) ?_
                  refine y_iload rfl rfl ?_
                  refine y_iadd (v := ((25 * i) + (τ 557 i))) rfl rfl (by omega) ?_
                  refine y_iald (v := (τ 561 ((25 * i) + (τ 557 i)))) (n := 75) rfl rfl (by decide) rfl (by omega) rfl ?_
                  refine y_iast (n := 3) rfl rfl (by decide) rfl (by omega) ?_
                  refine y_goto rfl ?_
                  refine y_iinc (L' := [some (2, 547), some (0, wt), some (0, (i + 1)), some (0, (τ 557 i)), some (0, (τ 560 ((25 * i) + (τ 557 i))))]) rfl rfl rfl rfl rfl (by omega) ?_
                  refine y_goto rfl ?_
                  refine y_forget (M := [some (2, 547), some (0, wt), some (0, (i + 1)), none, none]) ⟨Or.inr rfl, ⟨Or.inr rfl, ⟨Or.inr rfl, ⟨Or.inl rfl, ⟨Or.inl rfl, trivial⟩⟩⟩⟩⟩ ?_
                  refine ih (yset τ 557 i (τ 561 ((25 * i) + (τ 557 i)))) (mact E C i) (i + 1) wt (by omega) (by omega) ?_ (dG_act h2 he ⟨by omega, by omega⟩ hz) hs.symm (rfr_s h4 (by omega)) (by rw [mact_k (by omega)]; exact h5) ?_
                  · unfold mact
                    rw [if_neg (by omega)]; rw [if_neg (by omega), if_pos (by omega), w4 (by omega)]; exact rm_m h1 ⟨by omega, by omega⟩ (by omega)
                  · unfold mact
                    rw [if_neg (by omega)]; rw [if_neg (by omega), if_pos (by omega)]; rw [yne (by omega) rfl]; exact h6
              · skip
                have hb1 := hb.1 (by omega)
                have w6 : τ 560 (25 * i + τ 557 i + 1) = msg E i (C 3 i + 1) := by rw [b3, show 25 * i + C 3 i + 1 = 25 * i + (C 3 i + 1) by omega]; exact b7 _ (by omega) (by omega)
                refine y_aload rfl rfl rfl ?_
                refine y_gfr (t := 557) rfl rfl (by decide) rfl (by decide) ?_
                refine y_iload rfl rfl ?_
                refine y_aload rfl rfl rfl ?_
                refine y_iload rfl rfl ?_
                refine y_aload rfl rfl rfl ?_
                refine y_gfr (t := 560) rfl rfl (by decide) rfl (by decide) ?_
                refine y_push rfl ?_
                refine y_iload rfl rfl ?_
                refine y_imul (v := (25 * i)) rfl rfl (by omega) ?_
                refine y_iload rfl rfl ?_
                refine y_iadd (v := ((25 * i) + (τ 557 i))) rfl rfl (by omega) ?_
                refine y_push rfl ?_
                refine y_iadd (v := (((25 * i) + (τ 557 i)) + 1)) rfl rfl (by omega) ?_
                refine y_iald (v := (τ 560 (((25 * i) + (τ 557 i)) + 1))) (n := 75) rfl rfl (by decide) rfl (by omega) rfl ?_
                refine y_vi (as := [(2, 547), (0, i), (0, (τ 560 (((25 * i) + (τ 557 i)) + 1)))]) (S := [(0, i), (2, 557)]) rfl rfl rfl rfl rfl rfl (by decide) rfl (m_isSo h1 he h2 h5 ⟨by omega, by omega⟩) ?_
                rintro _ _ ⟨rfl, rfl⟩
                refine y_ifeq rfl (fun q115 => ?_) (fun q115 => ?_)
                · skip
                  replace q115 := yb_0.mp q115
                  rw [w6] at q115
                  have w7 := w4 (by omega)
                  refine y_aload rfl rfl rfl ?_
                  refine y_gfr (t := 561) rfl rfl (by decide) rfl (by decide) ?_
                  refine y_push rfl ?_
                  refine y_iload rfl rfl ?_
                  refine y_imul (v := (25 * i)) rfl rfl (by omega) ?_
                  refine y_iload rfl rfl ?_
                  refine y_iadd (v := ((25 * i) + (τ 557 i))) rfl rfl (by omega) ?_
                  refine y_iald (v := (τ 561 ((25 * i) + (τ 557 i)))) (n := 75) rfl rfl (by decide) rfl (by omega) rfl ?_
                  refine y_push rfl ?_
                  refine y_iadd (v := ((τ 561 ((25 * i) + (τ 557 i))) + 1)) rfl rfl (by omega) ?_
                  refine y_iast (n := 3) rfl rfl (by decide) rfl (by omega) ?_
                  refine y_goto rfl ?_
                  refine y_iinc (L' := [some (2, 547), some (0, wt), some (0, (i + 1)), some (0, (τ 557 i)), some (0, (τ 560 ((25 * i) + (τ 557 i))))]) rfl rfl rfl rfl rfl (by omega) ?_
                  refine y_goto rfl ?_
                  refine y_forget (M := [some (2, 547), some (0, wt), some (0, (i + 1)), none, none]) ⟨Or.inr rfl, ⟨Or.inr rfl, ⟨Or.inr rfl, ⟨Or.inl rfl, ⟨Or.inl rfl, trivial⟩⟩⟩⟩⟩ ?_
                  refine ih (yset τ 557 i ((τ 561 ((25 * i) + (τ 557 i))) + 1)) (mact E C i) (i + 1) wt (by omega) (by omega) ?_ (dG_act h2 he ⟨by omega, by omega⟩ hz) hs.symm (rfr_s h4 (by omega)) (by rw [mact_k (by omega)]; exact h5) ?_
                  · unfold mact
                    rw [if_neg (by omega)]; rw [if_pos (by omega), if_neg q115, w4 (by omega)]; exact rm_m h1 ⟨by omega, by omega⟩ (by omega)
                  · unfold mact
                    rw [if_neg (by omega)]; rw [if_pos (by omega), if_neg q115]; rw [yne (by omega) rfl]; exact h6
                · skip
                  replace q115 := yb_1.mp q115
                  rw [w6] at q115
                  refine y_iload rfl rfl ?_
                  refine y_push rfl ?_
                  refine y_iadd (v := ((τ 557 i) + 2)) rfl rfl (by omega) ?_
                  refine y_goto rfl ?_
                  refine y_iast (n := 3) rfl rfl (by decide) rfl (by omega) ?_
                  refine y_goto rfl ?_
                  refine y_iinc (L' := [some (2, 547), some (0, wt), some (0, (i + 1)), some (0, (τ 557 i)), some (0, (τ 560 ((25 * i) + (τ 557 i))))]) rfl rfl rfl rfl rfl (by omega) ?_
                  refine y_goto rfl ?_
                  refine y_forget (M := [some (2, 547), some (0, wt), some (0, (i + 1)), none, none]) ⟨Or.inr rfl, ⟨Or.inr rfl, ⟨Or.inr rfl, ⟨Or.inl rfl, ⟨Or.inl rfl, trivial⟩⟩⟩⟩⟩ ?_
                  refine ih (yset τ 557 i ((τ 557 i) + 2)) (mact E C i) (i + 1) wt (by omega) (by omega) ?_ (dG_act h2 he ⟨by omega, by omega⟩ hz) hs.symm (rfr_s h4 (by omega)) (by rw [mact_k (by omega)]; exact h5) ?_
                  · unfold mact
                    rw [if_neg (by omega)]; rw [if_pos (by omega), if_pos q115, b3]; exact rm_m h1 ⟨by omega, by omega⟩ (by omega)
                  · unfold mact
                    rw [if_neg (by omega)]; rw [if_pos (by omega), if_pos q115]; rw [yne (by omega) rfl]; exact h6
            · skip
              refine y_aload rfl rfl rfl ?_
              refine y_gfr (t := 558) rfl rfl (by decide) rfl (by decide) ?_
              refine y_iload rfl rfl ?_
              refine y_push rfl ?_
              refine y_iast (n := 3) rfl rfl (by decide) rfl (by omega) ?_
              refine y_goto rfl ?_
              refine y_iinc (L' := [some (2, 547), some (0, wt), some (0, (i + 1)), some (0, (τ 557 i)), some (0, (τ 560 ((25 * i) + (τ 557 i))))]) rfl rfl rfl rfl rfl (by omega) ?_
              refine y_goto rfl ?_
              refine y_forget (M := [some (2, 547), some (0, wt), some (0, (i + 1)), none, none]) ⟨Or.inr rfl, ⟨Or.inr rfl, ⟨Or.inr rfl, ⟨Or.inl rfl, ⟨Or.inl rfl, trivial⟩⟩⟩⟩⟩ ?_
              refine ih (yset τ 558 i 1) (mact E C i) (i + 1) wt (by omega) (by omega) ?_ (dG_act h2 he ⟨by omega, by omega⟩ hz) hs.symm (rfr_s h4 (by omega)) (by rw [mact_k (by omega)]; exact h5) ?_
              · unfold mact
                rw [if_pos (by omega)]; exact rm_m h1 ⟨by omega, by omega⟩ (by omega)
              · unfold mact
                rw [if_pos (by omega)]; rw [yne (by omega) rfl]; exact h6
theorem m_goStep {g : Launch × XG × va_G} {σ : YS} {E D : YS}  (hr : rm σ E D) (he : eG E) (hd : dG E D) (hn : 0 ≤ D 5 0 ∧ D 5 0 < 1000000) : YI g 58 [(2, 547)] σ (fun b σ' => rm σ' E (mstep E D) ∧ mstep E D 6 0 = b ∧ rfr σ σ') := by
  refine y_start rfl rfl rfl ?_
  refine y_push rfl ?_
  refine y_istore (L' := [some (2, 547), some (0, 0), none, none, none]) rfl rfl rfl rfl ?_
  refine y_push rfl ?_
  refine y_istore (L' := [some (2, 547), some (0, 0), some (0, 0), none, none]) rfl rfl rfl rfl ?_
  exact l_goStep he 4 σ (yset D 6 0 0) 0 0 (by have := he.2.1; omega) (by have := he.2.1; omega) (rm_wait hr) (dG_x hd (by omega)) rfl (rfr_0 _) (by rw [yne (by omega) rfl]; exact hn) (by rw [yeq])
