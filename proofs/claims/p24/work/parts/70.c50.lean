/-! Slips taken out in an order: the class empties the slip, the reference marks the man as stopped; the others don't see it. -/
abbrev mem1 (E : YS) (m : Nat) (D : YS) (q : Int) : YS := yset (msteps E D m) 4 q 1
theorem mem1_5 {E D : YS} {m : Nat} {q : Int} : mem1 E m D q 5 0 = D 5 0 + m := by
  show yset (msteps E D m) 4 q 1 5 0 = _
  rw [yne (by omega) rfl, msteps_5]
theorem dG_mem1 {E D : YS} {m : Nat} {q : Int} (he : eG E) (hd : dG E D) (hq : 0 ≤ q ∧ q < E 1 0) : dG E (mem1 E m D q) := dG_m (dG_steps hd he _) hq (Or.inr (Or.inr (Or.inr (Or.inl ⟨rfl, rfl⟩))))
def mch (E : YS) (m : Nat) (D : YS) : List Int → YS
  | [] => D
  | q :: l => mch E m (mem1 E m D q) l
theorem dG_mch {E : YS} {m : Nat} (he : eG E) : ∀ (l : List Int) (D : YS), dG E D → (∀ q ∈ l, 0 ≤ q ∧ q < E 1 0) → dG E (mch E m D l)
  | [], D, hd, _ => hd
  | q :: l, D, hd, hl => dG_mch he l _ (dG_mem1 he hd (hl q List.mem_cons_self)) (fun r hr => hl r (List.mem_cons_of_mem _ hr))
def mbx (s : Int × Int) (W cd : Int) : Int × Int := if s.1 < W then (W, cd) else s
theorem mbx_0 {s : Int × Int} {W cd : Int} (hs : 0 ≤ s.2) (hc : 0 ≤ cd) : 0 ≤ (mbx s W cd).2 := by
  unfold mbx
  split
  · exact hc
  · exact hs
def mfold (V : List Int → Int) : List (Int × List Int) → Int × Int → Int × Int
  | [], s => s
  | p :: r, s => mfold V r (mbx s (V p.2) p.1)
def mlist (w : Int) : List (Int × List Int) := if w = 0 then [(0, [])] else if w = 1 then [(0, [0])] else if w = 2 then [(1, [0, 1]), (2, [1, 0])] else [(5, [0, 1, 2]), (7, [0, 2, 1]), (11, [1, 0, 2]), (15, [1, 2, 0]), (19, [2, 0, 1]), (21, [2, 1, 0])]
def ransw (w : Int) (r : Int × Int) (i : Int) : Int := if w ≤ i then -5 else if i = -1 then r.1 else if w = 3 then (if i = 0 then r.2 / 9 % 3 else if i = 1 then r.2 / 3 % 3 else r.2 % 3) else if w = 2 then (if i = 0 then r.2 / 2 % 2 else r.2 % 2) else 0
def kemM (Z : YZ) (m c i : Int) : Int := ransw (Z 0 1 0) (mfold (fun l => mch (Z 0) m.toNat (Z 1) l 0 c) (mlist (Z 0 1 0)) (-1, 0)) i
/-- the same to all who see it -/
def V0 (D C : YS) : Prop := ∀ r, r = 0 ∨ r = 1 ∨ r = 2 ∨ r = 5 → ∀ c, C r c = D r c
theorem V0_set {D C : YS} {r c v : Int} (h : V0 D C) : V0 (yset D r c v) (yset C r c v) := fun x hx y => by
  by_cases e : x = r ∧ y = c
  · obtain ⟨rfl, rfl⟩ := e; rw [yeq, yeq]
  · rw [yne e rfl, yne e rfl]; exact h x hx y
theorem V0_o {D C : YS} {r c v r' c' v' : Int} (h : V0 D C) (hr : r = 3 ∨ r = 4 ∨ r = 6) (hr' : r' = 3 ∨ r' = 4 ∨ r' = 6) : V0 (yset D r c v) (yset C r' c' v') := fun x hx y => by
  rw [yne (by omega) rfl, yne (by omega) rfl]; exact h x hx y
theorem V0_fetch1 {D C : YS} {i : Int} (h : V0 D C) : V0 (mfetch1 D i) (mfetch1 C i) := by
  unfold mfetch1
  rw [h 1 (by omega) i, h 0 (by omega) (D 1 i), h 2 (by omega) i]
  split
  · exact V0_set (V0_set h)
  · exact h
theorem V0_fetch {i : Int} : ∀ (n : Nat) (D C : YS), V0 D C → V0 (mfetch D i n) (mfetch C i n)
  | 0, _, _, h => h
  | n + 1, D, C, h => V0_fetch n _ _ (V0_fetch1 h)
theorem V0_put {D C : YS} {i : Int} (h : V0 D C) : V0 (mput D i) (mput C i) := by
  unfold mput
  rw [h 1 (by omega) i, h 0 (by omega) (D 1 i), h 2 (by omega) i]
  split
  · exact V0_set (V0_set h)
  · exact h
theorem mwork_V {E E' D C : YS} {i sg : Int} (h0 : E' 0 0 = E 0 0) (h2 : E' 2 i = E 2 i) (h : V0 D C) (h4 : C 4 i = D 4 i) : V0 (mwork E D i sg) (mwork E' C i sg) ∧ mwork E' C i sg 4 i = mwork E D i sg 4 i := by
  unfold mwork
  rw [h0, h2, h 5 (by omega) 0, h 1 (by omega) i]
  split
  · exact ⟨V0_fetch _ _ _ h, by rw [mfetch_k (by omega), mfetch_k (by omega)]; exact h4⟩
  split
  · exact ⟨V0_put h, by rw [mput_k (by omega), mput_k (by omega)]; exact h4⟩
  split
  · exact ⟨V0_set h, by rw [yeq, yeq]⟩
  · exact ⟨V0_set h, by rw [yne (by omega) rfl, yne (by omega) rfl]; exact h4⟩
/-- a man's deed changes nothing of another man's place and rest -/
theorem mwork_o {E D : YS} {i sg r j : Int} (hr : r = 3 ∨ r = 4) (hj : j ≠ i) : mwork E D i sg r j = D r j := by
  unfold mwork
  split
  · exact mfetch_k (by omega) _
  split
  · exact mput_k (by omega)
  split
  · exact yne (by omega) rfl
  · exact yne (by omega) rfl
theorem mact_o {E D : YS} {i r j : Int} (hr : r = 3 ∨ r = 4) (hj : j ≠ i) : mact E D i r j = D r j := by
  unfold mact
  split
  · exact yne (by omega) rfl
  split
  · exact yne (by omega) rfl
  split
  · exact yne (by omega) rfl
  split
  · exact yne (by omega) rfl
  · rw [yne (by omega) rfl]; exact mwork_o hr hj
abbrev Esim (E E' : YS) : Prop := E' 0 0 = E 0 0 ∧ E' 1 0 = E 1 0 ∧ E' 6 0 = E 6 0 ∧ ∀ i, E' 2 i = E 2 i
theorem mact_V {E E' D C : YS} {i : Int} (hE : Esim E E') (h3e : E' 3 i = E 3 i) (hs : E' (10 + i) = E (10 + i)) (h : V0 D C) (h3 : C 3 i = D 3 i) (h4 : C 4 i = D 4 i) : V0 (mact E D i) (mact E' C i) ∧ mact E' C i 3 i = mact E D i 3 i ∧ mact E' C i 4 i = mact E D i 4 i := by
  obtain ⟨e0, e1, e6, e2⟩ := hE
  have mp : ∀ k, mpa E' i k = mpa E i k := fun k => by
    show bp (E' (10 + i)) (E' 3 i).toNat k = bp (E (10 + i)) (E 3 i).toNat k
    rw [hs, h3e]
  have ho : ∀ q, mholds C i q ↔ mholds D i q := fun q => by
    unfold mholds
    rw [h 1 (by omega) i, h 0 (by omega) (D 1 i), h 2 (by omega) i]
  have hn : ∀ q, mnear E' C i q ↔ mnear E D i q := fun q => by
    unfold mnear mth
    rw [e1, e6, h 1 (by omega) q, h 1 (by omega) i]
  have ha : malone E' C i ↔ malone E D i := by
    unfold malone
    rw [hn, hn, hn]
  have hms : ∀ k, msg E' i k = msg E i k := fun k => by show E' (10 + i) k = E (10 + i) k; rw [hs]
  have hw := mwork_V (E := E) (E' := E') (sg := msg E i (D 3 i)) e0 (e2 i) h h4
  unfold mact
  rw [h3, h3e, hms, hms, mp, e2]
  by_cases c1 : E 3 i ≤ D 3 i
  · rw [if_pos c1, if_pos c1]
    exact ⟨V0_o h (by omega) (by omega), by rw [yne (by omega) rfl, yne (by omega) rfl]; exact h3, by rw [yeq, yeq]⟩
  rw [if_neg c1, if_neg c1]
  by_cases c2 : msg E i (D 3 i) = 7
  · rw [if_pos c2, if_pos c2]
    refine ⟨V0_o h (by omega) (by omega), ?_, by rw [yne (by omega) rfl, yne (by omega) rfl]; exact h4⟩
    rw [yeq, yeq]
    by_cases c : mholds D i (msg E i (D 3 i + 1))
    · rw [if_pos c, if_pos ((ho _).mpr c)]
    · rw [if_neg c, if_neg (fun z => c ((ho _).mp z))]
  rw [if_neg c2, if_neg c2]
  by_cases c3 : msg E i (D 3 i) = 8
  · rw [if_pos c3, if_pos c3]
    exact ⟨V0_o h (by omega) (by omega), by rw [yeq, yeq], by rw [yne (by omega) rfl, yne (by omega) rfl]; exact h4⟩
  rw [if_neg c3, if_neg c3]
  by_cases c4 : msg E i (D 3 i) = 6 ∧ E 2 i ≠ 3 ∧ malone E D i
  · rw [if_pos c4, if_pos ⟨c4.1, c4.2.1, ha.mpr c4.2.2⟩]
    exact ⟨V0_o h (by omega) (by omega), by rw [yne (by omega) rfl, yne (by omega) rfl]; exact h3, by rw [yne (by omega) rfl, yne (by omega) rfl]; exact h4⟩
  · rw [if_neg c4, if_neg (fun z => c4 ⟨z.1, z.2.1, ha.mp z.2.2⟩)]
    refine ⟨fun r hr c => ?_, by rw [yeq, yeq], by rw [yne (by omega) rfl, yne (by omega) rfl]; exact hw.2⟩
    rw [yne (by omega) rfl, yne (by omega) rfl]
    exact hw.1 r hr c
/-- a man that both hold for stopped, or whom both hold for the same -/
abbrev Smp (E D E' C : YS) (j : Int) : Prop := (D 4 j = 1 ∧ C 4 j = 1) ∨ ((E' 3 j = E 3 j ∧ E' (10 + j) = E (10 + j)) ∧ C 3 j = D 3 j ∧ C 4 j = D 4 j)
def Sm (E D E' C : YS) : Prop := Esim E E' ∧ V0 D C ∧ ∀ j, 0 ≤ j → j < E 1 0 → Smp E D E' C j
theorem Sm_acts {E D E' C : YS} (h : Sm E D E' C) : ∀ n : Nat, (n : Int) ≤ E 1 0 → Sm E (macts E D n) E' (macts E' C n)
  | 0, _ => h
  | n + 1, hn => by
    have ih := Sm_acts h n (by omega)
    obtain ⟨h1, h2, h3⟩ := ih
    have hth : mth E' n ↔ mth E n := by unfold mth; rw [h1.2.2.1]
    have ea : macts E D (n + 1) = if macts E D n 4 n = 0 ∧ mth E n then mact E (macts E D n) n else macts E D n := rfl
    have eb : macts E' C (n + 1) = if macts E' C n 4 n = 0 ∧ mth E' n then mact E' (macts E' C n) n else macts E' C n := rfl
    rw [ea, eb]
    rcases h3 n (by omega) (by omega) with ⟨z1, z2⟩ | ⟨⟨z1, z2⟩, z3, z4⟩
    · rw [if_neg (fun z => by omega), if_neg (fun z => by omega)]
      exact ⟨h1, h2, h3⟩
    · by_cases c : macts E D n 4 n = 0 ∧ mth E n
      · rw [if_pos c, if_pos ⟨z4.trans c.1, hth.mpr c.2⟩]
        have q := mact_V h1 z1 z2 h2 z3 z4
        refine ⟨h1, q.1, fun j j0 j1 => ?_⟩
        by_cases e : j = n
        · subst e; exact Or.inr ⟨⟨z1, z2⟩, q.2.1, q.2.2⟩
        · unfold Smp
          rw [mact_o (by omega) e, mact_o (by omega) e, mact_o (by omega) e, mact_o (by omega) e]
          exact h3 j j0 j1
      · rw [if_neg c, if_neg (fun z => c ⟨z4.symm.trans z.1, hth.mp z.2⟩)]
        exact ⟨h1, h2, h3⟩
theorem Sm_step {E D E' C : YS} (hm : 0 ≤ E 1 0) (h : Sm E D E' C) : Sm E (mstep E D) E' (mstep E' C) := by
  have h6 : Sm E (yset D 6 0 0) E' (yset C 6 0 0) := ⟨h.1, V0_o h.2.1 (by omega) (by omega), fun j a b => by
    unfold Smp
    rw [yne (by omega) rfl, yne (by omega) rfl, yne (by omega) rfl, yne (by omega) rfl]
    exact h.2.2 j a b⟩
  obtain ⟨h1, h2, h3⟩ := Sm_acts h6 (E 1 0).toNat (by omega)
  unfold mstep
  rw [h.1.2.1]
  refine ⟨h1, ?_, fun j a b => ?_⟩
  · rw [h2 5 (by omega) 0]
    exact V0_set h2
  · unfold Smp
    rw [yne (by omega) rfl, yne (by omega) rfl, yne (by omega) rfl, yne (by omega) rfl]
    exact h3 j a b
theorem Sm_steps {E D E' C : YS} (hm : 0 ≤ E 1 0) (h : Sm E D E' C) : ∀ n : Nat, Sm E (msteps E D n) E' (msteps E' C n)
  | 0 => h
  | n + 1 => Sm_step hm (Sm_steps hm h n)
theorem Sm_emp {E D E' C : YS} {q : Int} (hq : 0 ≤ q) (h : Sm E D E' C) : Sm (empE E q) (empD D q) E' (yset C 4 q 1) := by
  obtain ⟨⟨e0, e1, e6, e2⟩, h2, h3⟩ := h
  have g : ∀ r c, (r ≠ 3 ∨ c ≠ q) → r ≠ 10 + q → empE E q r c = E r c := fun r c a b => slpE_g a b
  refine ⟨⟨by rw [g _ _ (by omega) (by omega)]; exact e0, by rw [g _ _ (by omega) (by omega)]; exact e1, by rw [g _ _ (by omega) (by omega)]; exact e6, fun i => by rw [g _ _ (by omega) (by omega)]; exact e2 i⟩, fun r hr c => ?_, fun j j0 j1 => ?_⟩
  · unfold empD slpD
    rw [yne (by omega) rfl, yne (by omega) rfl, yne (by omega) rfl]
    exact h2 r hr c
  · rw [g _ _ (by omega) (by omega)] at j1
    unfold Smp empD slpD
    by_cases e : j = q
    · subst e; rw [yeq, yeq]; exact Or.inl ⟨rfl, rfl⟩
    · have e10 : empE E q (10 + j) = E (10 + j) := by funext k; exact g _ _ (by omega) (by omega)
      rw [yne (by omega) rfl, yne (by omega) rfl, yne (by omega) rfl, yne (by omega) rfl, yne (by omega) rfl, yne (by omega) rfl, g 3 j (by omega) (by omega), e10]
      exact h3 j j0 j1
/-- an order's men that are there -/
def chn (E : YS) (m : Nat) (D : YS) (od : Int) : Nat → YS
  | 0 => D
  | k + 1 => if yord (3 * od + k) < E 1 0 then mem1 E m (chn E m D od k) (yord (3 * od + k)) else chn E m D od k
theorem mempt_Sm {E D : YS} {m od w : Int} (hm : 0 ≤ E 1 0) (ho : 0 ≤ od ∧ od < 6) : ∀ k : Nat, k ≤ 3 → Sm (mempt E (yset D 6 0 w) m od k).1 (mempt E (yset D 6 0 w) m od k).2 E (chn E m.toNat D od k)
  | 0, _ => ⟨⟨rfl, rfl, rfl, fun _ => rfl⟩, fun r hr c => by show D r c = yset D 6 0 w r c; rw [yne (by omega) rfl], fun j a b => by
      refine Or.inr ⟨⟨rfl, rfl⟩, ?_, ?_⟩
      · show D 3 j = yset D 6 0 w 3 j; rw [yne (by omega) rfl]
      · show D 4 j = yset D 6 0 w 4 j; rw [yne (by omega) rfl]⟩
  | k + 1, hk => by
    have ih := mempt_Sm (D := D) (m := m) (w := w) hm ho k (by omega)
    have r := yord_r (i := 3 * od + k) (by omega)
    have e1 : mempt E (yset D 6 0 w) m od (k + 1) = if yord (3 * od + k) < E 1 0 then (empE (mempt E (yset D 6 0 w) m od k).1 (yord (3 * od + k)), empD (msteps (mempt E (yset D 6 0 w) m od k).1 (mempt E (yset D 6 0 w) m od k).2 m.toNat) (yord (3 * od + k))) else mempt E (yset D 6 0 w) m od k := rfl
    have e2 : chn E m.toNat D od (k + 1) = if yord (3 * od + k) < E 1 0 then mem1 E m.toNat (chn E m.toNat D od k) (yord (3 * od + k)) else chn E m.toNat D od k := rfl
    rw [e1, e2]
    by_cases c : yord (3 * od + k) < E 1 0
    · rw [if_pos c, if_pos c]
      exact Sm_emp r.1 (Sm_steps (by rw [← ih.1.2.1]; exact hm) ih _)
    · rw [if_neg c, if_neg c]
      exact ih
theorem mleft_chn {E D : YS} {m c od w : Int} (hm : 0 ≤ E 1 0) (ho : 0 ≤ od ∧ od < 6) : mleft E (yset D 6 0 w) m c od = chn E m.toNat D od 3 0 c := ((mempt_Sm (D := D) (m := m) (w := w) hm ho 3 (by omega)).2.1 0 (by omega) c).symm
/-! The best order on both sides. -/
theorem mbest_1 (f : Int → Int) (n : Nat) : mbest f (n + 1) = if (mbest f n).1 < f n then (f n, (n : Int)) else mbest f n := rfl
def tc3 (j : Int) : Int := ([5, 7, 11, 15, 19, 21] : List Int).getD j.toNat 0
theorem mbx_b {f : Int → Int} {n : Nat} {s : Int × Int} {W cd : Int} (h1 : s.1 = (mbest f n).1) (h2 : s.2 = tc3 (mbest f n).2) (hW : f n = W) (hc : cd = tc3 n) : (mbx s W cd).1 = (mbest f (n + 1)).1 ∧ (mbx s W cd).2 = tc3 (mbest f (n + 1)).2 := by
  rw [mbest_1]
  unfold mbx
  rw [hW, h1]
  by_cases c : (mbest f n).1 < W
  · rw [if_pos c, if_pos c]; exact ⟨rfl, hc⟩
  · rw [if_neg c, if_neg c]; exact ⟨h1, h2⟩
theorem mbest_eq {f : Int → Int} {A b : Int} {n : Nat} (h : mbest f n = (A, b)) (hf : ¬ A < f n) : mbest f (n + 1) = (A, b) := by
  rw [mbest_1, h]
  exact if_neg hf
theorem mbest_gt {f : Int → Int} {A b : Int} {n : Nat} (h : mbest f n = (A, b)) (hf : A < f n) : mbest f (n + 1) = (f n, (n : Int)) := by
  rw [mbest_1, h]
  exact if_pos hf
theorem chn_0_0 {E D : YS} {m : Nat} (hw : E 1 0 = 0) : chn E m D 0 3 = mch E m D [] := by
  have y0 : yord (3 * 0 + ((0 : Nat) : Int)) = 0 := by decide
  have y1 : yord (3 * 0 + ((1 : Nat) : Int)) = 1 := by decide
  have y2 : yord (3 * 0 + ((2 : Nat) : Int)) = 2 := by decide
  have c1 : chn E m D 0 1 = D := by
    show (if yord (3 * 0 + ((0 : Nat) : Int)) < E 1 0 then mem1 E m (chn E m D 0 0) (yord (3 * 0 + ((0 : Nat) : Int))) else chn E m D 0 0) = _
    rw [y0, if_neg (by omega)]
    all_goals rfl
  have c2 : chn E m D 0 2 = D := by
    show (if yord (3 * 0 + ((1 : Nat) : Int)) < E 1 0 then mem1 E m (chn E m D 0 1) (yord (3 * 0 + ((1 : Nat) : Int))) else chn E m D 0 1) = _
    rw [y1, if_neg (by omega), c1]
  have c3 : chn E m D 0 3 = D := by
    show (if yord (3 * 0 + ((2 : Nat) : Int)) < E 1 0 then mem1 E m (chn E m D 0 2) (yord (3 * 0 + ((2 : Nat) : Int))) else chn E m D 0 2) = _
    rw [y2, if_neg (by omega), c2]
  rw [c3]
  all_goals rfl
theorem chn_0_1 {E D : YS} {m : Nat} (hw : E 1 0 = 0) : chn E m D 1 3 = mch E m D [] := by
  have y0 : yord (3 * 1 + ((0 : Nat) : Int)) = 0 := by decide
  have y1 : yord (3 * 1 + ((1 : Nat) : Int)) = 2 := by decide
  have y2 : yord (3 * 1 + ((2 : Nat) : Int)) = 1 := by decide
  have c1 : chn E m D 1 1 = D := by
    show (if yord (3 * 1 + ((0 : Nat) : Int)) < E 1 0 then mem1 E m (chn E m D 1 0) (yord (3 * 1 + ((0 : Nat) : Int))) else chn E m D 1 0) = _
    rw [y0, if_neg (by omega)]
    all_goals rfl
  have c2 : chn E m D 1 2 = D := by
    show (if yord (3 * 1 + ((1 : Nat) : Int)) < E 1 0 then mem1 E m (chn E m D 1 1) (yord (3 * 1 + ((1 : Nat) : Int))) else chn E m D 1 1) = _
    rw [y1, if_neg (by omega), c1]
  have c3 : chn E m D 1 3 = D := by
    show (if yord (3 * 1 + ((2 : Nat) : Int)) < E 1 0 then mem1 E m (chn E m D 1 2) (yord (3 * 1 + ((2 : Nat) : Int))) else chn E m D 1 2) = _
    rw [y2, if_neg (by omega), c2]
  rw [c3]
  all_goals rfl
theorem chn_0_2 {E D : YS} {m : Nat} (hw : E 1 0 = 0) : chn E m D 2 3 = mch E m D [] := by
  have y0 : yord (3 * 2 + ((0 : Nat) : Int)) = 1 := by decide
  have y1 : yord (3 * 2 + ((1 : Nat) : Int)) = 0 := by decide
  have y2 : yord (3 * 2 + ((2 : Nat) : Int)) = 2 := by decide
  have c1 : chn E m D 2 1 = D := by
    show (if yord (3 * 2 + ((0 : Nat) : Int)) < E 1 0 then mem1 E m (chn E m D 2 0) (yord (3 * 2 + ((0 : Nat) : Int))) else chn E m D 2 0) = _
    rw [y0, if_neg (by omega)]
    all_goals rfl
  have c2 : chn E m D 2 2 = D := by
    show (if yord (3 * 2 + ((1 : Nat) : Int)) < E 1 0 then mem1 E m (chn E m D 2 1) (yord (3 * 2 + ((1 : Nat) : Int))) else chn E m D 2 1) = _
    rw [y1, if_neg (by omega), c1]
  have c3 : chn E m D 2 3 = D := by
    show (if yord (3 * 2 + ((2 : Nat) : Int)) < E 1 0 then mem1 E m (chn E m D 2 2) (yord (3 * 2 + ((2 : Nat) : Int))) else chn E m D 2 2) = _
    rw [y2, if_neg (by omega), c2]
  rw [c3]
  all_goals rfl
theorem chn_0_3 {E D : YS} {m : Nat} (hw : E 1 0 = 0) : chn E m D 3 3 = mch E m D [] := by
  have y0 : yord (3 * 3 + ((0 : Nat) : Int)) = 1 := by decide
  have y1 : yord (3 * 3 + ((1 : Nat) : Int)) = 2 := by decide
  have y2 : yord (3 * 3 + ((2 : Nat) : Int)) = 0 := by decide
  have c1 : chn E m D 3 1 = D := by
    show (if yord (3 * 3 + ((0 : Nat) : Int)) < E 1 0 then mem1 E m (chn E m D 3 0) (yord (3 * 3 + ((0 : Nat) : Int))) else chn E m D 3 0) = _
    rw [y0, if_neg (by omega)]
    all_goals rfl
  have c2 : chn E m D 3 2 = D := by
    show (if yord (3 * 3 + ((1 : Nat) : Int)) < E 1 0 then mem1 E m (chn E m D 3 1) (yord (3 * 3 + ((1 : Nat) : Int))) else chn E m D 3 1) = _
    rw [y1, if_neg (by omega), c1]
  have c3 : chn E m D 3 3 = D := by
    show (if yord (3 * 3 + ((2 : Nat) : Int)) < E 1 0 then mem1 E m (chn E m D 3 2) (yord (3 * 3 + ((2 : Nat) : Int))) else chn E m D 3 2) = _
    rw [y2, if_neg (by omega), c2]
  rw [c3]
  all_goals rfl
theorem chn_0_4 {E D : YS} {m : Nat} (hw : E 1 0 = 0) : chn E m D 4 3 = mch E m D [] := by
  have y0 : yord (3 * 4 + ((0 : Nat) : Int)) = 2 := by decide
  have y1 : yord (3 * 4 + ((1 : Nat) : Int)) = 0 := by decide
  have y2 : yord (3 * 4 + ((2 : Nat) : Int)) = 1 := by decide
  have c1 : chn E m D 4 1 = D := by
    show (if yord (3 * 4 + ((0 : Nat) : Int)) < E 1 0 then mem1 E m (chn E m D 4 0) (yord (3 * 4 + ((0 : Nat) : Int))) else chn E m D 4 0) = _
    rw [y0, if_neg (by omega)]
    all_goals rfl
  have c2 : chn E m D 4 2 = D := by
    show (if yord (3 * 4 + ((1 : Nat) : Int)) < E 1 0 then mem1 E m (chn E m D 4 1) (yord (3 * 4 + ((1 : Nat) : Int))) else chn E m D 4 1) = _
    rw [y1, if_neg (by omega), c1]
  have c3 : chn E m D 4 3 = D := by
    show (if yord (3 * 4 + ((2 : Nat) : Int)) < E 1 0 then mem1 E m (chn E m D 4 2) (yord (3 * 4 + ((2 : Nat) : Int))) else chn E m D 4 2) = _
    rw [y2, if_neg (by omega), c2]
  rw [c3]
  all_goals rfl
theorem chn_0_5 {E D : YS} {m : Nat} (hw : E 1 0 = 0) : chn E m D 5 3 = mch E m D [] := by
  have y0 : yord (3 * 5 + ((0 : Nat) : Int)) = 2 := by decide
  have y1 : yord (3 * 5 + ((1 : Nat) : Int)) = 1 := by decide
  have y2 : yord (3 * 5 + ((2 : Nat) : Int)) = 0 := by decide
  have c1 : chn E m D 5 1 = D := by
    show (if yord (3 * 5 + ((0 : Nat) : Int)) < E 1 0 then mem1 E m (chn E m D 5 0) (yord (3 * 5 + ((0 : Nat) : Int))) else chn E m D 5 0) = _
    rw [y0, if_neg (by omega)]
    all_goals rfl
  have c2 : chn E m D 5 2 = D := by
    show (if yord (3 * 5 + ((1 : Nat) : Int)) < E 1 0 then mem1 E m (chn E m D 5 1) (yord (3 * 5 + ((1 : Nat) : Int))) else chn E m D 5 1) = _
    rw [y1, if_neg (by omega), c1]
  have c3 : chn E m D 5 3 = D := by
    show (if yord (3 * 5 + ((2 : Nat) : Int)) < E 1 0 then mem1 E m (chn E m D 5 2) (yord (3 * 5 + ((2 : Nat) : Int))) else chn E m D 5 2) = _
    rw [y2, if_neg (by omega), c2]
  rw [c3]
  all_goals rfl
theorem chn_1_0 {E D : YS} {m : Nat} (hw : E 1 0 = 1) : chn E m D 0 3 = mch E m D [0] := by
  have y0 : yord (3 * 0 + ((0 : Nat) : Int)) = 0 := by decide
  have y1 : yord (3 * 0 + ((1 : Nat) : Int)) = 1 := by decide
  have y2 : yord (3 * 0 + ((2 : Nat) : Int)) = 2 := by decide
  have c1 : chn E m D 0 1 = (mem1 E m D 0) := by
    show (if yord (3 * 0 + ((0 : Nat) : Int)) < E 1 0 then mem1 E m (chn E m D 0 0) (yord (3 * 0 + ((0 : Nat) : Int))) else chn E m D 0 0) = _
    rw [y0, if_pos (by omega)]
    all_goals rfl
  have c2 : chn E m D 0 2 = (mem1 E m D 0) := by
    show (if yord (3 * 0 + ((1 : Nat) : Int)) < E 1 0 then mem1 E m (chn E m D 0 1) (yord (3 * 0 + ((1 : Nat) : Int))) else chn E m D 0 1) = _
    rw [y1, if_neg (by omega), c1]
  have c3 : chn E m D 0 3 = (mem1 E m D 0) := by
    show (if yord (3 * 0 + ((2 : Nat) : Int)) < E 1 0 then mem1 E m (chn E m D 0 2) (yord (3 * 0 + ((2 : Nat) : Int))) else chn E m D 0 2) = _
    rw [y2, if_neg (by omega), c2]
  rw [c3]
  all_goals rfl
theorem chn_1_1 {E D : YS} {m : Nat} (hw : E 1 0 = 1) : chn E m D 1 3 = mch E m D [0] := by
  have y0 : yord (3 * 1 + ((0 : Nat) : Int)) = 0 := by decide
  have y1 : yord (3 * 1 + ((1 : Nat) : Int)) = 2 := by decide
  have y2 : yord (3 * 1 + ((2 : Nat) : Int)) = 1 := by decide
  have c1 : chn E m D 1 1 = (mem1 E m D 0) := by
    show (if yord (3 * 1 + ((0 : Nat) : Int)) < E 1 0 then mem1 E m (chn E m D 1 0) (yord (3 * 1 + ((0 : Nat) : Int))) else chn E m D 1 0) = _
    rw [y0, if_pos (by omega)]
    all_goals rfl
  have c2 : chn E m D 1 2 = (mem1 E m D 0) := by
    show (if yord (3 * 1 + ((1 : Nat) : Int)) < E 1 0 then mem1 E m (chn E m D 1 1) (yord (3 * 1 + ((1 : Nat) : Int))) else chn E m D 1 1) = _
    rw [y1, if_neg (by omega), c1]
  have c3 : chn E m D 1 3 = (mem1 E m D 0) := by
    show (if yord (3 * 1 + ((2 : Nat) : Int)) < E 1 0 then mem1 E m (chn E m D 1 2) (yord (3 * 1 + ((2 : Nat) : Int))) else chn E m D 1 2) = _
    rw [y2, if_neg (by omega), c2]
  rw [c3]
  all_goals rfl
theorem chn_1_2 {E D : YS} {m : Nat} (hw : E 1 0 = 1) : chn E m D 2 3 = mch E m D [0] := by
  have y0 : yord (3 * 2 + ((0 : Nat) : Int)) = 1 := by decide
  have y1 : yord (3 * 2 + ((1 : Nat) : Int)) = 0 := by decide
  have y2 : yord (3 * 2 + ((2 : Nat) : Int)) = 2 := by decide
  have c1 : chn E m D 2 1 = D := by
    show (if yord (3 * 2 + ((0 : Nat) : Int)) < E 1 0 then mem1 E m (chn E m D 2 0) (yord (3 * 2 + ((0 : Nat) : Int))) else chn E m D 2 0) = _
    rw [y0, if_neg (by omega)]
    all_goals rfl
  have c2 : chn E m D 2 2 = (mem1 E m D 0) := by
    show (if yord (3 * 2 + ((1 : Nat) : Int)) < E 1 0 then mem1 E m (chn E m D 2 1) (yord (3 * 2 + ((1 : Nat) : Int))) else chn E m D 2 1) = _
    rw [y1, if_pos (by omega), c1]
  have c3 : chn E m D 2 3 = (mem1 E m D 0) := by
    show (if yord (3 * 2 + ((2 : Nat) : Int)) < E 1 0 then mem1 E m (chn E m D 2 2) (yord (3 * 2 + ((2 : Nat) : Int))) else chn E m D 2 2) = _
    rw [y2, if_neg (by omega), c2]
  rw [c3]
  all_goals rfl
theorem chn_1_3 {E D : YS} {m : Nat} (hw : E 1 0 = 1) : chn E m D 3 3 = mch E m D [0] := by
  have y0 : yord (3 * 3 + ((0 : Nat) : Int)) = 1 := by decide
  have y1 : yord (3 * 3 + ((1 : Nat) : Int)) = 2 := by decide
  have y2 : yord (3 * 3 + ((2 : Nat) : Int)) = 0 := by decide
  have c1 : chn E m D 3 1 = D := by
    show (if yord (3 * 3 + ((0 : Nat) : Int)) < E 1 0 then mem1 E m (chn E m D 3 0) (yord (3 * 3 + ((0 : Nat) : Int))) else chn E m D 3 0) = _
    rw [y0, if_neg (by omega)]
    all_goals rfl
  have c2 : chn E m D 3 2 = D := by
    show (if yord (3 * 3 + ((1 : Nat) : Int)) < E 1 0 then mem1 E m (chn E m D 3 1) (yord (3 * 3 + ((1 : Nat) : Int))) else chn E m D 3 1) = _
    rw [y1, if_neg (by omega), c1]
  have c3 : chn E m D 3 3 = (mem1 E m D 0) := by
    show (if yord (3 * 3 + ((2 : Nat) : Int)) < E 1 0 then mem1 E m (chn E m D 3 2) (yord (3 * 3 + ((2 : Nat) : Int))) else chn E m D 3 2) = _
    rw [y2, if_pos (by omega), c2]
  rw [c3]
  all_goals rfl
theorem chn_1_4 {E D : YS} {m : Nat} (hw : E 1 0 = 1) : chn E m D 4 3 = mch E m D [0] := by
  have y0 : yord (3 * 4 + ((0 : Nat) : Int)) = 2 := by decide
  have y1 : yord (3 * 4 + ((1 : Nat) : Int)) = 0 := by decide
  have y2 : yord (3 * 4 + ((2 : Nat) : Int)) = 1 := by decide
  have c1 : chn E m D 4 1 = D := by
    show (if yord (3 * 4 + ((0 : Nat) : Int)) < E 1 0 then mem1 E m (chn E m D 4 0) (yord (3 * 4 + ((0 : Nat) : Int))) else chn E m D 4 0) = _
    rw [y0, if_neg (by omega)]
    all_goals rfl
  have c2 : chn E m D 4 2 = (mem1 E m D 0) := by
    show (if yord (3 * 4 + ((1 : Nat) : Int)) < E 1 0 then mem1 E m (chn E m D 4 1) (yord (3 * 4 + ((1 : Nat) : Int))) else chn E m D 4 1) = _
    rw [y1, if_pos (by omega), c1]
  have c3 : chn E m D 4 3 = (mem1 E m D 0) := by
    show (if yord (3 * 4 + ((2 : Nat) : Int)) < E 1 0 then mem1 E m (chn E m D 4 2) (yord (3 * 4 + ((2 : Nat) : Int))) else chn E m D 4 2) = _
    rw [y2, if_neg (by omega), c2]
  rw [c3]
  all_goals rfl
theorem chn_1_5 {E D : YS} {m : Nat} (hw : E 1 0 = 1) : chn E m D 5 3 = mch E m D [0] := by
  have y0 : yord (3 * 5 + ((0 : Nat) : Int)) = 2 := by decide
  have y1 : yord (3 * 5 + ((1 : Nat) : Int)) = 1 := by decide
  have y2 : yord (3 * 5 + ((2 : Nat) : Int)) = 0 := by decide
  have c1 : chn E m D 5 1 = D := by
    show (if yord (3 * 5 + ((0 : Nat) : Int)) < E 1 0 then mem1 E m (chn E m D 5 0) (yord (3 * 5 + ((0 : Nat) : Int))) else chn E m D 5 0) = _
    rw [y0, if_neg (by omega)]
    all_goals rfl
  have c2 : chn E m D 5 2 = D := by
    show (if yord (3 * 5 + ((1 : Nat) : Int)) < E 1 0 then mem1 E m (chn E m D 5 1) (yord (3 * 5 + ((1 : Nat) : Int))) else chn E m D 5 1) = _
    rw [y1, if_neg (by omega), c1]
  have c3 : chn E m D 5 3 = (mem1 E m D 0) := by
    show (if yord (3 * 5 + ((2 : Nat) : Int)) < E 1 0 then mem1 E m (chn E m D 5 2) (yord (3 * 5 + ((2 : Nat) : Int))) else chn E m D 5 2) = _
    rw [y2, if_pos (by omega), c2]
  rw [c3]
  all_goals rfl
theorem chn_2_0 {E D : YS} {m : Nat} (hw : E 1 0 = 2) : chn E m D 0 3 = mch E m D [0, 1] := by
  have y0 : yord (3 * 0 + ((0 : Nat) : Int)) = 0 := by decide
  have y1 : yord (3 * 0 + ((1 : Nat) : Int)) = 1 := by decide
  have y2 : yord (3 * 0 + ((2 : Nat) : Int)) = 2 := by decide
  have c1 : chn E m D 0 1 = (mem1 E m D 0) := by
    show (if yord (3 * 0 + ((0 : Nat) : Int)) < E 1 0 then mem1 E m (chn E m D 0 0) (yord (3 * 0 + ((0 : Nat) : Int))) else chn E m D 0 0) = _
    rw [y0, if_pos (by omega)]
    all_goals rfl
  have c2 : chn E m D 0 2 = (mem1 E m (mem1 E m D 0) 1) := by
    show (if yord (3 * 0 + ((1 : Nat) : Int)) < E 1 0 then mem1 E m (chn E m D 0 1) (yord (3 * 0 + ((1 : Nat) : Int))) else chn E m D 0 1) = _
    rw [y1, if_pos (by omega), c1]
  have c3 : chn E m D 0 3 = (mem1 E m (mem1 E m D 0) 1) := by
    show (if yord (3 * 0 + ((2 : Nat) : Int)) < E 1 0 then mem1 E m (chn E m D 0 2) (yord (3 * 0 + ((2 : Nat) : Int))) else chn E m D 0 2) = _
    rw [y2, if_neg (by omega), c2]
  rw [c3]
  all_goals rfl
theorem chn_2_1 {E D : YS} {m : Nat} (hw : E 1 0 = 2) : chn E m D 1 3 = mch E m D [0, 1] := by
  have y0 : yord (3 * 1 + ((0 : Nat) : Int)) = 0 := by decide
  have y1 : yord (3 * 1 + ((1 : Nat) : Int)) = 2 := by decide
  have y2 : yord (3 * 1 + ((2 : Nat) : Int)) = 1 := by decide
  have c1 : chn E m D 1 1 = (mem1 E m D 0) := by
    show (if yord (3 * 1 + ((0 : Nat) : Int)) < E 1 0 then mem1 E m (chn E m D 1 0) (yord (3 * 1 + ((0 : Nat) : Int))) else chn E m D 1 0) = _
    rw [y0, if_pos (by omega)]
    all_goals rfl
  have c2 : chn E m D 1 2 = (mem1 E m D 0) := by
    show (if yord (3 * 1 + ((1 : Nat) : Int)) < E 1 0 then mem1 E m (chn E m D 1 1) (yord (3 * 1 + ((1 : Nat) : Int))) else chn E m D 1 1) = _
    rw [y1, if_neg (by omega), c1]
  have c3 : chn E m D 1 3 = (mem1 E m (mem1 E m D 0) 1) := by
    show (if yord (3 * 1 + ((2 : Nat) : Int)) < E 1 0 then mem1 E m (chn E m D 1 2) (yord (3 * 1 + ((2 : Nat) : Int))) else chn E m D 1 2) = _
    rw [y2, if_pos (by omega), c2]
  rw [c3]
  all_goals rfl
theorem chn_2_2 {E D : YS} {m : Nat} (hw : E 1 0 = 2) : chn E m D 2 3 = mch E m D [1, 0] := by
  have y0 : yord (3 * 2 + ((0 : Nat) : Int)) = 1 := by decide
  have y1 : yord (3 * 2 + ((1 : Nat) : Int)) = 0 := by decide
  have y2 : yord (3 * 2 + ((2 : Nat) : Int)) = 2 := by decide
  have c1 : chn E m D 2 1 = (mem1 E m D 1) := by
    show (if yord (3 * 2 + ((0 : Nat) : Int)) < E 1 0 then mem1 E m (chn E m D 2 0) (yord (3 * 2 + ((0 : Nat) : Int))) else chn E m D 2 0) = _
    rw [y0, if_pos (by omega)]
    all_goals rfl
  have c2 : chn E m D 2 2 = (mem1 E m (mem1 E m D 1) 0) := by
    show (if yord (3 * 2 + ((1 : Nat) : Int)) < E 1 0 then mem1 E m (chn E m D 2 1) (yord (3 * 2 + ((1 : Nat) : Int))) else chn E m D 2 1) = _
    rw [y1, if_pos (by omega), c1]
  have c3 : chn E m D 2 3 = (mem1 E m (mem1 E m D 1) 0) := by
    show (if yord (3 * 2 + ((2 : Nat) : Int)) < E 1 0 then mem1 E m (chn E m D 2 2) (yord (3 * 2 + ((2 : Nat) : Int))) else chn E m D 2 2) = _
    rw [y2, if_neg (by omega), c2]
  rw [c3]
  all_goals rfl
theorem chn_2_3 {E D : YS} {m : Nat} (hw : E 1 0 = 2) : chn E m D 3 3 = mch E m D [1, 0] := by
  have y0 : yord (3 * 3 + ((0 : Nat) : Int)) = 1 := by decide
  have y1 : yord (3 * 3 + ((1 : Nat) : Int)) = 2 := by decide
  have y2 : yord (3 * 3 + ((2 : Nat) : Int)) = 0 := by decide
  have c1 : chn E m D 3 1 = (mem1 E m D 1) := by
    show (if yord (3 * 3 + ((0 : Nat) : Int)) < E 1 0 then mem1 E m (chn E m D 3 0) (yord (3 * 3 + ((0 : Nat) : Int))) else chn E m D 3 0) = _
    rw [y0, if_pos (by omega)]
    all_goals rfl
  have c2 : chn E m D 3 2 = (mem1 E m D 1) := by
    show (if yord (3 * 3 + ((1 : Nat) : Int)) < E 1 0 then mem1 E m (chn E m D 3 1) (yord (3 * 3 + ((1 : Nat) : Int))) else chn E m D 3 1) = _
    rw [y1, if_neg (by omega), c1]
  have c3 : chn E m D 3 3 = (mem1 E m (mem1 E m D 1) 0) := by
    show (if yord (3 * 3 + ((2 : Nat) : Int)) < E 1 0 then mem1 E m (chn E m D 3 2) (yord (3 * 3 + ((2 : Nat) : Int))) else chn E m D 3 2) = _
    rw [y2, if_pos (by omega), c2]
  rw [c3]
  all_goals rfl
theorem chn_2_4 {E D : YS} {m : Nat} (hw : E 1 0 = 2) : chn E m D 4 3 = mch E m D [0, 1] := by
  have y0 : yord (3 * 4 + ((0 : Nat) : Int)) = 2 := by decide
  have y1 : yord (3 * 4 + ((1 : Nat) : Int)) = 0 := by decide
  have y2 : yord (3 * 4 + ((2 : Nat) : Int)) = 1 := by decide
  have c1 : chn E m D 4 1 = D := by
    show (if yord (3 * 4 + ((0 : Nat) : Int)) < E 1 0 then mem1 E m (chn E m D 4 0) (yord (3 * 4 + ((0 : Nat) : Int))) else chn E m D 4 0) = _
    rw [y0, if_neg (by omega)]
    all_goals rfl
  have c2 : chn E m D 4 2 = (mem1 E m D 0) := by
    show (if yord (3 * 4 + ((1 : Nat) : Int)) < E 1 0 then mem1 E m (chn E m D 4 1) (yord (3 * 4 + ((1 : Nat) : Int))) else chn E m D 4 1) = _
    rw [y1, if_pos (by omega), c1]
  have c3 : chn E m D 4 3 = (mem1 E m (mem1 E m D 0) 1) := by
    show (if yord (3 * 4 + ((2 : Nat) : Int)) < E 1 0 then mem1 E m (chn E m D 4 2) (yord (3 * 4 + ((2 : Nat) : Int))) else chn E m D 4 2) = _
    rw [y2, if_pos (by omega), c2]
  rw [c3]
  all_goals rfl
theorem chn_2_5 {E D : YS} {m : Nat} (hw : E 1 0 = 2) : chn E m D 5 3 = mch E m D [1, 0] := by
  have y0 : yord (3 * 5 + ((0 : Nat) : Int)) = 2 := by decide
  have y1 : yord (3 * 5 + ((1 : Nat) : Int)) = 1 := by decide
  have y2 : yord (3 * 5 + ((2 : Nat) : Int)) = 0 := by decide
  have c1 : chn E m D 5 1 = D := by
    show (if yord (3 * 5 + ((0 : Nat) : Int)) < E 1 0 then mem1 E m (chn E m D 5 0) (yord (3 * 5 + ((0 : Nat) : Int))) else chn E m D 5 0) = _
    rw [y0, if_neg (by omega)]
    all_goals rfl
  have c2 : chn E m D 5 2 = (mem1 E m D 1) := by
    show (if yord (3 * 5 + ((1 : Nat) : Int)) < E 1 0 then mem1 E m (chn E m D 5 1) (yord (3 * 5 + ((1 : Nat) : Int))) else chn E m D 5 1) = _
    rw [y1, if_pos (by omega), c1]
  have c3 : chn E m D 5 3 = (mem1 E m (mem1 E m D 1) 0) := by
    show (if yord (3 * 5 + ((2 : Nat) : Int)) < E 1 0 then mem1 E m (chn E m D 5 2) (yord (3 * 5 + ((2 : Nat) : Int))) else chn E m D 5 2) = _
    rw [y2, if_pos (by omega), c2]
  rw [c3]
  all_goals rfl
theorem chn_3_0 {E D : YS} {m : Nat} (hw : E 1 0 = 3) : chn E m D 0 3 = mch E m D [0, 1, 2] := by
  have y0 : yord (3 * 0 + ((0 : Nat) : Int)) = 0 := by decide
  have y1 : yord (3 * 0 + ((1 : Nat) : Int)) = 1 := by decide
  have y2 : yord (3 * 0 + ((2 : Nat) : Int)) = 2 := by decide
  have c1 : chn E m D 0 1 = (mem1 E m D 0) := by
    show (if yord (3 * 0 + ((0 : Nat) : Int)) < E 1 0 then mem1 E m (chn E m D 0 0) (yord (3 * 0 + ((0 : Nat) : Int))) else chn E m D 0 0) = _
    rw [y0, if_pos (by omega)]
    all_goals rfl
  have c2 : chn E m D 0 2 = (mem1 E m (mem1 E m D 0) 1) := by
    show (if yord (3 * 0 + ((1 : Nat) : Int)) < E 1 0 then mem1 E m (chn E m D 0 1) (yord (3 * 0 + ((1 : Nat) : Int))) else chn E m D 0 1) = _
    rw [y1, if_pos (by omega), c1]
  have c3 : chn E m D 0 3 = (mem1 E m (mem1 E m (mem1 E m D 0) 1) 2) := by
    show (if yord (3 * 0 + ((2 : Nat) : Int)) < E 1 0 then mem1 E m (chn E m D 0 2) (yord (3 * 0 + ((2 : Nat) : Int))) else chn E m D 0 2) = _
    rw [y2, if_pos (by omega), c2]
  rw [c3]
  all_goals rfl
theorem chn_3_1 {E D : YS} {m : Nat} (hw : E 1 0 = 3) : chn E m D 1 3 = mch E m D [0, 2, 1] := by
  have y0 : yord (3 * 1 + ((0 : Nat) : Int)) = 0 := by decide
  have y1 : yord (3 * 1 + ((1 : Nat) : Int)) = 2 := by decide
  have y2 : yord (3 * 1 + ((2 : Nat) : Int)) = 1 := by decide
  have c1 : chn E m D 1 1 = (mem1 E m D 0) := by
    show (if yord (3 * 1 + ((0 : Nat) : Int)) < E 1 0 then mem1 E m (chn E m D 1 0) (yord (3 * 1 + ((0 : Nat) : Int))) else chn E m D 1 0) = _
    rw [y0, if_pos (by omega)]
    all_goals rfl
  have c2 : chn E m D 1 2 = (mem1 E m (mem1 E m D 0) 2) := by
    show (if yord (3 * 1 + ((1 : Nat) : Int)) < E 1 0 then mem1 E m (chn E m D 1 1) (yord (3 * 1 + ((1 : Nat) : Int))) else chn E m D 1 1) = _
    rw [y1, if_pos (by omega), c1]
  have c3 : chn E m D 1 3 = (mem1 E m (mem1 E m (mem1 E m D 0) 2) 1) := by
    show (if yord (3 * 1 + ((2 : Nat) : Int)) < E 1 0 then mem1 E m (chn E m D 1 2) (yord (3 * 1 + ((2 : Nat) : Int))) else chn E m D 1 2) = _
    rw [y2, if_pos (by omega), c2]
  rw [c3]
  all_goals rfl
theorem chn_3_2 {E D : YS} {m : Nat} (hw : E 1 0 = 3) : chn E m D 2 3 = mch E m D [1, 0, 2] := by
  have y0 : yord (3 * 2 + ((0 : Nat) : Int)) = 1 := by decide
  have y1 : yord (3 * 2 + ((1 : Nat) : Int)) = 0 := by decide
  have y2 : yord (3 * 2 + ((2 : Nat) : Int)) = 2 := by decide
  have c1 : chn E m D 2 1 = (mem1 E m D 1) := by
    show (if yord (3 * 2 + ((0 : Nat) : Int)) < E 1 0 then mem1 E m (chn E m D 2 0) (yord (3 * 2 + ((0 : Nat) : Int))) else chn E m D 2 0) = _
    rw [y0, if_pos (by omega)]
    all_goals rfl
  have c2 : chn E m D 2 2 = (mem1 E m (mem1 E m D 1) 0) := by
    show (if yord (3 * 2 + ((1 : Nat) : Int)) < E 1 0 then mem1 E m (chn E m D 2 1) (yord (3 * 2 + ((1 : Nat) : Int))) else chn E m D 2 1) = _
    rw [y1, if_pos (by omega), c1]
  have c3 : chn E m D 2 3 = (mem1 E m (mem1 E m (mem1 E m D 1) 0) 2) := by
    show (if yord (3 * 2 + ((2 : Nat) : Int)) < E 1 0 then mem1 E m (chn E m D 2 2) (yord (3 * 2 + ((2 : Nat) : Int))) else chn E m D 2 2) = _
    rw [y2, if_pos (by omega), c2]
  rw [c3]
  all_goals rfl
theorem chn_3_3 {E D : YS} {m : Nat} (hw : E 1 0 = 3) : chn E m D 3 3 = mch E m D [1, 2, 0] := by
  have y0 : yord (3 * 3 + ((0 : Nat) : Int)) = 1 := by decide
  have y1 : yord (3 * 3 + ((1 : Nat) : Int)) = 2 := by decide
  have y2 : yord (3 * 3 + ((2 : Nat) : Int)) = 0 := by decide
  have c1 : chn E m D 3 1 = (mem1 E m D 1) := by
    show (if yord (3 * 3 + ((0 : Nat) : Int)) < E 1 0 then mem1 E m (chn E m D 3 0) (yord (3 * 3 + ((0 : Nat) : Int))) else chn E m D 3 0) = _
    rw [y0, if_pos (by omega)]
    all_goals rfl
  have c2 : chn E m D 3 2 = (mem1 E m (mem1 E m D 1) 2) := by
    show (if yord (3 * 3 + ((1 : Nat) : Int)) < E 1 0 then mem1 E m (chn E m D 3 1) (yord (3 * 3 + ((1 : Nat) : Int))) else chn E m D 3 1) = _
    rw [y1, if_pos (by omega), c1]
  have c3 : chn E m D 3 3 = (mem1 E m (mem1 E m (mem1 E m D 1) 2) 0) := by
    show (if yord (3 * 3 + ((2 : Nat) : Int)) < E 1 0 then mem1 E m (chn E m D 3 2) (yord (3 * 3 + ((2 : Nat) : Int))) else chn E m D 3 2) = _
    rw [y2, if_pos (by omega), c2]
  rw [c3]
  all_goals rfl
theorem chn_3_4 {E D : YS} {m : Nat} (hw : E 1 0 = 3) : chn E m D 4 3 = mch E m D [2, 0, 1] := by
  have y0 : yord (3 * 4 + ((0 : Nat) : Int)) = 2 := by decide
  have y1 : yord (3 * 4 + ((1 : Nat) : Int)) = 0 := by decide
  have y2 : yord (3 * 4 + ((2 : Nat) : Int)) = 1 := by decide
  have c1 : chn E m D 4 1 = (mem1 E m D 2) := by
    show (if yord (3 * 4 + ((0 : Nat) : Int)) < E 1 0 then mem1 E m (chn E m D 4 0) (yord (3 * 4 + ((0 : Nat) : Int))) else chn E m D 4 0) = _
    rw [y0, if_pos (by omega)]
    all_goals rfl
  have c2 : chn E m D 4 2 = (mem1 E m (mem1 E m D 2) 0) := by
    show (if yord (3 * 4 + ((1 : Nat) : Int)) < E 1 0 then mem1 E m (chn E m D 4 1) (yord (3 * 4 + ((1 : Nat) : Int))) else chn E m D 4 1) = _
    rw [y1, if_pos (by omega), c1]
  have c3 : chn E m D 4 3 = (mem1 E m (mem1 E m (mem1 E m D 2) 0) 1) := by
    show (if yord (3 * 4 + ((2 : Nat) : Int)) < E 1 0 then mem1 E m (chn E m D 4 2) (yord (3 * 4 + ((2 : Nat) : Int))) else chn E m D 4 2) = _
    rw [y2, if_pos (by omega), c2]
  rw [c3]
  all_goals rfl
theorem chn_3_5 {E D : YS} {m : Nat} (hw : E 1 0 = 3) : chn E m D 5 3 = mch E m D [2, 1, 0] := by
  have y0 : yord (3 * 5 + ((0 : Nat) : Int)) = 2 := by decide
  have y1 : yord (3 * 5 + ((1 : Nat) : Int)) = 1 := by decide
  have y2 : yord (3 * 5 + ((2 : Nat) : Int)) = 0 := by decide
  have c1 : chn E m D 5 1 = (mem1 E m D 2) := by
    show (if yord (3 * 5 + ((0 : Nat) : Int)) < E 1 0 then mem1 E m (chn E m D 5 0) (yord (3 * 5 + ((0 : Nat) : Int))) else chn E m D 5 0) = _
    rw [y0, if_pos (by omega)]
    all_goals rfl
  have c2 : chn E m D 5 2 = (mem1 E m (mem1 E m D 2) 1) := by
    show (if yord (3 * 5 + ((1 : Nat) : Int)) < E 1 0 then mem1 E m (chn E m D 5 1) (yord (3 * 5 + ((1 : Nat) : Int))) else chn E m D 5 1) = _
    rw [y1, if_pos (by omega), c1]
  have c3 : chn E m D 5 3 = (mem1 E m (mem1 E m (mem1 E m D 2) 1) 0) := by
    show (if yord (3 * 5 + ((2 : Nat) : Int)) < E 1 0 then mem1 E m (chn E m D 5 2) (yord (3 * 5 + ((2 : Nat) : Int))) else chn E m D 5 2) = _
    rw [y2, if_pos (by omega), c2]
  rw [c3]
  all_goals rfl
/-- what the class answers is what the reference answers -/
theorem kempt_M {Z : YZ} {I : Int → YZ} {M : YS} {N m c i b : Int} (hg : wG Z I M N) (hc : (0 ≤ m ∧ m ≤ 60) ∧ (0 ≤ c ∧ c < Z 0 0 0) ∧ -1 ≤ i) (h : kempt Z m c i b) : b = kemM Z m c i := by
  have he := hg.1.1
  have hd := hg.1.2.1
  have e1 := he.2.1
  have e0 := he.1
  obtain ⟨f, hf, rfl⟩ := h
  have fv : ∀ od, 0 ≤ od → od < 6 → f od = chn (Z 0) m.toNat (Z 1) od 3 0 c := fun od a b => by
    obtain ⟨w, hw⟩ := hf od a b
    rw [hw, mleft_chn e1.1 ⟨a, b⟩]
  have pos : ∀ l : List Int, (∀ q ∈ l, 0 ≤ q ∧ q < Z 0 1 0) → 0 ≤ mch (Z 0) m.toNat (Z 1) l 0 c := fun l hl => ((dG_mch he l _ hd hl).1 c (by omega) (by omega)).1
  have b0 : mbest f 0 = (-1, 0) := rfl
  unfold kemM
  rcases (by omega : Z 0 1 0 = 0 ∨ Z 0 1 0 = 1 ∨ Z 0 1 0 = 2 ∨ Z 0 1 0 = 3) with hw | hw | hw | hw
  · have f0 : f 0 = mch (Z 0) m.toNat (Z 1) [] 0 c := by rw [fv 0 (by omega) (by omega), chn_0_0 hw]
    have f1 : f 1 = mch (Z 0) m.toNat (Z 1) [] 0 c := by rw [fv 1 (by omega) (by omega), chn_0_1 hw]
    have f2 : f 2 = mch (Z 0) m.toNat (Z 1) [] 0 c := by rw [fv 2 (by omega) (by omega), chn_0_2 hw]
    have f3 : f 3 = mch (Z 0) m.toNat (Z 1) [] 0 c := by rw [fv 3 (by omega) (by omega), chn_0_3 hw]
    have f4 : f 4 = mch (Z 0) m.toNat (Z 1) [] 0 c := by rw [fv 4 (by omega) (by omega), chn_0_4 hw]
    have f5 : f 5 = mch (Z 0) m.toNat (Z 1) [] 0 c := by rw [fv 5 (by omega) (by omega), chn_0_5 hw]
    have p0 := pos [] (by intro q hq; cases hq)
    rw [hw]
    show _ = ransw 0 (mbx (-1, 0) (mch (Z 0) m.toNat (Z 1) [] 0 c) 0) i
    generalize mch (Z 0) m.toNat (Z 1) [] 0 c = A at f0 f1 f2 f3 f4 f5 p0 ⊢
    have b1 : mbest f 1 = (A, 0) := (mbest_gt b0 (show (-1 : Int) < f 0 by omega)).trans (Prod.ext f0 rfl)
    have b2 : mbest f 2 = (A, 0) := mbest_eq b1 (show ¬ A < f 1 by omega)
    have b3 : mbest f 3 = (A, 0) := mbest_eq b2 (show ¬ A < f 2 by omega)
    have b4 : mbest f 4 = (A, 0) := mbest_eq b3 (show ¬ A < f 3 by omega)
    have b5 : mbest f 5 = (A, 0) := mbest_eq b4 (show ¬ A < f 4 by omega)
    have b6 : mbest f 6 = (A, 0) := mbest_eq b5 (show ¬ A < f 5 by omega)
    have s1 : mbx (-1, 0) A 0 = (A, 0) := if_pos (show (-1 : Int) < A by omega)
    rw [b6, s1]
    unfold ransw
    rcases (by omega : 0 ≤ i ∨ i = -1) with z | rfl
    · rw [if_pos z, if_pos z]
    · first | rfl | simp
  · have f0 : f 0 = mch (Z 0) m.toNat (Z 1) [0] 0 c := by rw [fv 0 (by omega) (by omega), chn_1_0 hw]
    have f1 : f 1 = mch (Z 0) m.toNat (Z 1) [0] 0 c := by rw [fv 1 (by omega) (by omega), chn_1_1 hw]
    have f2 : f 2 = mch (Z 0) m.toNat (Z 1) [0] 0 c := by rw [fv 2 (by omega) (by omega), chn_1_2 hw]
    have f3 : f 3 = mch (Z 0) m.toNat (Z 1) [0] 0 c := by rw [fv 3 (by omega) (by omega), chn_1_3 hw]
    have f4 : f 4 = mch (Z 0) m.toNat (Z 1) [0] 0 c := by rw [fv 4 (by omega) (by omega), chn_1_4 hw]
    have f5 : f 5 = mch (Z 0) m.toNat (Z 1) [0] 0 c := by rw [fv 5 (by omega) (by omega), chn_1_5 hw]
    have p0 := pos [0] (by intro q hq; simp at hq; omega)
    rw [hw]
    show _ = ransw 1 (mbx (-1, 0) (mch (Z 0) m.toNat (Z 1) [0] 0 c) 0) i
    generalize mch (Z 0) m.toNat (Z 1) [0] 0 c = A at f0 f1 f2 f3 f4 f5 p0 ⊢
    have b1 : mbest f 1 = (A, 0) := (mbest_gt b0 (show (-1 : Int) < f 0 by omega)).trans (Prod.ext f0 rfl)
    have b2 : mbest f 2 = (A, 0) := mbest_eq b1 (show ¬ A < f 1 by omega)
    have b3 : mbest f 3 = (A, 0) := mbest_eq b2 (show ¬ A < f 2 by omega)
    have b4 : mbest f 4 = (A, 0) := mbest_eq b3 (show ¬ A < f 3 by omega)
    have b5 : mbest f 5 = (A, 0) := mbest_eq b4 (show ¬ A < f 4 by omega)
    have b6 : mbest f 6 = (A, 0) := mbest_eq b5 (show ¬ A < f 5 by omega)
    have s1 : mbx (-1, 0) A 0 = (A, 0) := if_pos (show (-1 : Int) < A by omega)
    rw [b6, s1]
    unfold ransw
    rcases (by omega : 1 ≤ i ∨ i = -1 ∨ i = 0) with z | rfl | rfl
    · rw [if_pos z, if_pos z]
    · first | rfl | simp
    · first | rfl | simp
  · have f0 : f 0 = mch (Z 0) m.toNat (Z 1) [0, 1] 0 c := by rw [fv 0 (by omega) (by omega), chn_2_0 hw]
    have f1 : f 1 = mch (Z 0) m.toNat (Z 1) [0, 1] 0 c := by rw [fv 1 (by omega) (by omega), chn_2_1 hw]
    have f2 : f 2 = mch (Z 0) m.toNat (Z 1) [1, 0] 0 c := by rw [fv 2 (by omega) (by omega), chn_2_2 hw]
    have f3 : f 3 = mch (Z 0) m.toNat (Z 1) [1, 0] 0 c := by rw [fv 3 (by omega) (by omega), chn_2_3 hw]
    have f4 : f 4 = mch (Z 0) m.toNat (Z 1) [0, 1] 0 c := by rw [fv 4 (by omega) (by omega), chn_2_4 hw]
    have f5 : f 5 = mch (Z 0) m.toNat (Z 1) [1, 0] 0 c := by rw [fv 5 (by omega) (by omega), chn_2_5 hw]
    have p0 := pos [0, 1] (by intro q hq; simp at hq; omega)
    rw [hw]
    show _ = ransw 2 (mbx (mbx (-1, 0) (mch (Z 0) m.toNat (Z 1) [0, 1] 0 c) 1) (mch (Z 0) m.toNat (Z 1) [1, 0] 0 c) 2) i
    generalize mch (Z 0) m.toNat (Z 1) [0, 1] 0 c = A at f0 f1 f4 p0 ⊢
    generalize mch (Z 0) m.toNat (Z 1) [1, 0] 0 c = B at f2 f3 f5 ⊢
    have b1 : mbest f 1 = (A, 0) := (mbest_gt b0 (show (-1 : Int) < f 0 by omega)).trans (Prod.ext f0 rfl)
    have b2 : mbest f 2 = (A, 0) := mbest_eq b1 (show ¬ A < f 1 by omega)
    have s1 : mbx (-1, 0) A 1 = (A, 1) := if_pos (show (-1 : Int) < A by omega)
    rw [s1]
    by_cases ab : A < B
    · have b3 : mbest f 3 = (B, 2) := (mbest_gt b2 (show A < f 2 by omega)).trans (Prod.ext f2 rfl)
      have b4 : mbest f 4 = (B, 2) := mbest_eq b3 (show ¬ B < f 3 by omega)
      have b5 : mbest f 5 = (B, 2) := mbest_eq b4 (show ¬ B < f 4 by omega)
      have b6 : mbest f 6 = (B, 2) := mbest_eq b5 (show ¬ B < f 5 by omega)
      have s2 : mbx (A, 1) B 2 = (B, 2) := if_pos (show A < B by omega)
      rw [b6, s2]
      unfold ransw
      rcases (by omega : 2 ≤ i ∨ i = -1 ∨ i = 0 ∨ i = 1) with z | rfl | rfl | rfl
      · rw [if_pos z, if_pos z]
      · first | rfl | simp
      · first | rfl | simp
      · first | rfl | simp
    · have b3 : mbest f 3 = (A, 0) := mbest_eq b2 (show ¬ A < f 2 by omega)
      have b4 : mbest f 4 = (A, 0) := mbest_eq b3 (show ¬ A < f 3 by omega)
      have b5 : mbest f 5 = (A, 0) := mbest_eq b4 (show ¬ A < f 4 by omega)
      have b6 : mbest f 6 = (A, 0) := mbest_eq b5 (show ¬ A < f 5 by omega)
      have s2 : mbx (A, 1) B 2 = (A, 1) := if_neg (show ¬ A < B by omega)
      rw [b6, s2]
      unfold ransw
      rcases (by omega : 2 ≤ i ∨ i = -1 ∨ i = 0 ∨ i = 1) with z | rfl | rfl | rfl
      · rw [if_pos z, if_pos z]
      · first | rfl | simp
      · first | rfl | simp
      · first | rfl | simp
  · have f0 : f 0 = mch (Z 0) m.toNat (Z 1) [0, 1, 2] 0 c := by rw [fv 0 (by omega) (by omega), chn_3_0 hw]
    have f1 : f 1 = mch (Z 0) m.toNat (Z 1) [0, 2, 1] 0 c := by rw [fv 1 (by omega) (by omega), chn_3_1 hw]
    have f2 : f 2 = mch (Z 0) m.toNat (Z 1) [1, 0, 2] 0 c := by rw [fv 2 (by omega) (by omega), chn_3_2 hw]
    have f3 : f 3 = mch (Z 0) m.toNat (Z 1) [1, 2, 0] 0 c := by rw [fv 3 (by omega) (by omega), chn_3_3 hw]
    have f4 : f 4 = mch (Z 0) m.toNat (Z 1) [2, 0, 1] 0 c := by rw [fv 4 (by omega) (by omega), chn_3_4 hw]
    have f5 : f 5 = mch (Z 0) m.toNat (Z 1) [2, 1, 0] 0 c := by rw [fv 5 (by omega) (by omega), chn_3_5 hw]
    have p0 := pos [0, 1, 2] (by intro q hq; simp at hq; omega)
    have ml : mlist 3 = [(5, [0, 1, 2]), (7, [0, 2, 1]), (11, [1, 0, 2]), (15, [1, 2, 0]), (19, [2, 0, 1]), (21, [2, 1, 0])] := rfl
    have b1 : mbest f 1 = (f 0, 0) := mbest_gt b0 (show (-1 : Int) < f 0 by omega)
    have m1 : mbx (-1, 0) (mch (Z 0) m.toNat (Z 1) [0, 1, 2] 0 c) 5 = (mch (Z 0) m.toNat (Z 1) [0, 1, 2] 0 c, 5) := if_pos (show (-1 : Int) < mch (Z 0) m.toNat (Z 1) [0, 1, 2] 0 c by omega)
    have s1 : (mbx (-1, 0) (mch (Z 0) m.toNat (Z 1) [0, 1, 2] 0 c) 5).1 = (mbest f 1).1 ∧ (mbx (-1, 0) (mch (Z 0) m.toNat (Z 1) [0, 1, 2] 0 c) 5).2 = tc3 (mbest f 1).2 := by
      rw [b1, m1]
      exact ⟨f0.symm, rfl⟩
    have s2 := mbx_b (n := 1) (cd := 7) s1.1 s1.2 f1 rfl
    have s3 := mbx_b (n := 2) (cd := 11) s2.1 s2.2 f2 rfl
    have s4 := mbx_b (n := 3) (cd := 15) s3.1 s3.2 f3 rfl
    have s5 := mbx_b (n := 4) (cd := 19) s4.1 s4.2 f4 rfl
    have s6 := mbx_b (n := 5) (cd := 21) s5.1 s5.2 f5 rfl
    have s7 : (mbx (mbx (mbx (mbx (mbx (mbx (-1, 0) (mch (Z 0) m.toNat (Z 1) [0, 1, 2] 0 c) 5) (mch (Z 0) m.toNat (Z 1) [0, 2, 1] 0 c) 7) (mch (Z 0) m.toNat (Z 1) [1, 0, 2] 0 c) 11) (mch (Z 0) m.toNat (Z 1) [1, 2, 0] 0 c) 15) (mch (Z 0) m.toNat (Z 1) [2, 0, 1] 0 c) 19) (mch (Z 0) m.toNat (Z 1) [2, 1, 0] 0 c) 21).1 = (mbest f 6).1 ∧ (mbx (mbx (mbx (mbx (mbx (mbx (-1, 0) (mch (Z 0) m.toNat (Z 1) [0, 1, 2] 0 c) 5) (mch (Z 0) m.toNat (Z 1) [0, 2, 1] 0 c) 7) (mch (Z 0) m.toNat (Z 1) [1, 0, 2] 0 c) 11) (mch (Z 0) m.toNat (Z 1) [1, 2, 0] 0 c) 15) (mch (Z 0) m.toNat (Z 1) [2, 0, 1] 0 c) 19) (mch (Z 0) m.toNat (Z 1) [2, 1, 0] 0 c) 21).2 = tc3 (mbest f 6).2 := s6
    rw [hw, ml]
    show _ = ransw 3 (mbx (mbx (mbx (mbx (mbx (mbx (-1, 0) (mch (Z 0) m.toNat (Z 1) [0, 1, 2] 0 c) 5) (mch (Z 0) m.toNat (Z 1) [0, 2, 1] 0 c) 7) (mch (Z 0) m.toNat (Z 1) [1, 0, 2] 0 c) 11) (mch (Z 0) m.toNat (Z 1) [1, 2, 0] 0 c) 15) (mch (Z 0) m.toNat (Z 1) [2, 0, 1] 0 c) 19) (mch (Z 0) m.toNat (Z 1) [2, 1, 0] 0 c) 21) i
    generalize mbx (mbx (mbx (mbx (mbx (mbx (-1, 0) (mch (Z 0) m.toNat (Z 1) [0, 1, 2] 0 c) 5) (mch (Z 0) m.toNat (Z 1) [0, 2, 1] 0 c) 7) (mch (Z 0) m.toNat (Z 1) [1, 0, 2] 0 c) 11) (mch (Z 0) m.toNat (Z 1) [1, 2, 0] 0 c) 15) (mch (Z 0) m.toNat (Z 1) [2, 0, 1] 0 c) 19) (mch (Z 0) m.toNat (Z 1) [2, 1, 0] 0 c) 21 = r at s7 ⊢
    have br := mbest_r f 6
    obtain ⟨s61, s62⟩ := s7
    generalize mbest f 6 = bb at s61 s62 br ⊢
    obtain ⟨b1_, b2_⟩ := bb
    obtain ⟨r1, r2⟩ := r
    dsimp only at s61 s62 br
    subst s61 s62
    unfold ransw
    dsimp only
    by_cases i3 : 3 ≤ i
    · rw [if_pos i3, if_pos i3]
    rw [if_neg i3, if_neg i3]
    by_cases im : i = -1
    · rw [if_pos im, if_pos im]
    rw [if_neg im, if_neg im, if_pos rfl]
    have key : ∀ j : Nat, j < 6 → yord (3 * (j : Int) + 0) = tc3 j / 9 % 3 ∧ yord (3 * (j : Int) + 1) = tc3 j / 3 % 3 ∧ yord (3 * (j : Int) + 2) = tc3 j % 3 := by decide
    have kj := key b2_.toNat (by omega)
    rw [show ((b2_.toNat : Nat) : Int) = b2_ by omega] at kj
    rcases (by omega : i = 0 ∨ i = 1 ∨ i = 2) with rfl | rfl | rfl
    · rw [if_pos rfl]; exact kj.1
    · rw [if_neg (by omega), if_pos rfl]; exact kj.2.1
    · rw [if_neg (by omega), if_neg (by omega)]; exact kj.2.2
