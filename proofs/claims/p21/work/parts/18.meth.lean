theorem xlocs_len {G : XG} : ∀ {as : List XV} {vs : List Value}, XSok G as vs → (lg_sl vs).length = (xlocs as).length ∧ ∀ (i : Nat) (x : XV), (xlocs as)[i]? = some (some x) → ∃ w, (lg_sl vs)[i]? = some (.val w) ∧ XVok G x w
  | [], vs, h => by
    rw [XSok_nil h]
    exact ⟨rfl, fun i x hx => by simp [xlocs] at hx⟩
  | v :: as, vs, h => by
    obtain ⟨w, vs', rfl, h1, h2⟩ := XSok_cons h
    obtain ⟨h3, h4⟩ := xlocs_len h2
    have hc := XVcat h1
    rcases v with u | u | u
    · have e1 : lg_sl (w :: vs') = .val w :: lg_sl vs' := by
        unfold lg_sl
        rw [List.flatMap_cons, if_neg (by rw [hc]; exact (by decide : ¬ (1 : Nat) = 2))]
        rfl
      have e2 : xlocs (.inl u :: as) = some (.inl u) :: xlocs as := rfl
      rw [e1, e2]
      refine ⟨by simp [h3], fun i x hx => ?_⟩
      cases i with
      | zero => cases hx; exact ⟨w, rfl, h1⟩
      | succ i => exact h4 i x hx
    · have e1 : lg_sl (w :: vs') = .val w :: .second :: lg_sl vs' := by
        unfold lg_sl
        rw [List.flatMap_cons, if_pos (show w.category = 2 from hc)]
        rfl
      have e2 : xlocs (.inr (.inl u) :: as) = some (.inr (.inl u)) :: none :: xlocs as := rfl
      rw [e1, e2]
      refine ⟨by simp [h3], fun i x hx => ?_⟩
      cases i with
      | zero => cases hx; exact ⟨w, rfl, h1⟩
      | succ i =>
        cases i with
        | zero => cases hx
        | succ i => exact h4 i x hx
    · have e1 : lg_sl (w :: vs') = .val w :: lg_sl vs' := by
        unfold lg_sl
        rw [List.flatMap_cons, if_neg (by rw [hc]; exact (by decide : ¬ (1 : Nat) = 2))]
        rfl
      have e2 : xlocs (.inr (.inr u) :: as) = some (.inr (.inr u)) :: xlocs as := rfl
      rw [e1, e2]
      refine ⟨by simp [h3], fun i x hx => ?_⟩
      cases i with
      | zero => cases hx; exact ⟨w, rfl, h1⟩
      | succ i => exact h4 i x hx
theorem xloop_succ (stp : XS → XO) (f : Nat) (ws : List XS) (acc : List XRt) : xloop stp (f + 1) ws acc = (match ws with
      | [] => some acc
      | x :: ws' => (match stp x with
        | none => none
        | some (.inl y) => xloop stp f (y :: ws') acc
        | some (.inr (.inl ys)) => xapp ys ws' fun w => xloop stp f w acc
        | some (.inr (.inr r)) => xloop stp f ws' (r :: acc))) := rfl
theorem xmeth_succ (d i : Nat) (as : List XV) (E : XE) (Hx : XH) (n : Nat) : xmeth (d + 1) i as E Hx n = (match xnth xqTs i, xnth xqml i, xnth xqmcl i with
      | some T, some (ml, rt), some (mc, ms) => bif Nat.ble (xlen (xlocs as)) ml then xpad (xlocs as) (ml - xlen (xlocs as)) fun L => xloop (xstep (xmeth d) xqcst T rt mc ms) 1000000 [(0, L, [], E, Hx, n, 0, 0)] [] else none
      | _, _, _ => none) := rfl
section XQ7
variable {p : Program} {l : Launch} {e : Env} {R : Room} {s : State} {m : MethodId} {args : Array Value} {below : List Frame} {meth : Method} {c : Code} {Q : State → Prop} {G : XG} {D : va_G} {nL : Nat}
theorem xloop_ok {stp : XS → XO} {rs : List XRt} (hst : ∀ (x : XS) (o : XS ⊕ (List XS ⊕ XRt)), stp x = some o → XOk p l e R s m args below meth c Q G D nL (fun r => r ∈ rs) o → XWin p l e R s m args below meth c Q G D nL x) : ∀ (f : Nat) (ws : List XS) (acc : List XRt), xloop stp f ws acc = some rs → (∀ r ∈ acc, r ∈ rs) ∧ ∀ x ∈ ws, XWin p l e R s m args below meth c Q G D nL x := by
  intro f
  induction f with
  | zero => intro ws acc h; cases h
  | succ f ih =>
    intro ws acc h
    rw [xloop_succ] at h
    cases ws with
    | nil =>
      cases h
      exact ⟨fun r hr => hr, fun x hx => absurd hx List.not_mem_nil⟩
    | cons x ws' =>
      dsimp only at h
      split at h
      · cases h
      · rename_i y hy
        obtain ⟨h1, h2⟩ := ih _ _ h
        refine ⟨h1, fun z hz => ?_⟩
        rcases List.mem_cons.mp hz with rfl | hz
        · exact hst _ _ hy (h2 y List.mem_cons_self)
        · exact h2 z (List.mem_cons_of_mem _ hz)
      · rename_i ys hy
        rw [xapp_eq] at h
        obtain ⟨h1, h2⟩ := ih _ _ h
        refine ⟨h1, fun z hz => ?_⟩
        rcases List.mem_cons.mp hz with rfl | hz
        · exact hst _ _ hy (fun y hy => h2 y (List.mem_append_left _ hy))
        · exact h2 z (List.mem_append_right _ hz)
      · rename_i r hy
        obtain ⟨h1, h2⟩ := ih _ _ h
        refine ⟨fun q hq => h1 q (List.mem_cons_of_mem _ hq), fun z hz => ?_⟩
        rcases List.mem_cons.mp hz with rfl | hz
        · exact hst _ _ hy (h1 r List.mem_cons_self)
        · exact h2 z hz
end XQ7
theorem xdisp99 (cal : Nat → List XV → XE → XH → Nat → Option (List XRt)) (rt mc ms A : Nat) (B : Int) (nx r1 r2 r3 pc : Nat) (L : XLc) (S : List XV) (E : XE) (Hx : XH) (n ce sl : Nat) : xdisp 99 cal xqcst rt mc ms A B nx r1 r2 r3 pc L S E Hx n ce sl = none := rfl
set_option maxHeartbeats 4000000 in
theorem xmet {l : Launch} {G : XG} {D : va_G} : ∀ (d i : Nat), i < 163 → ∀ (as : List XV) (E : XE) (Hx : XH) (n : Nat) (rs : List XRt), xmeth d i as E Hx n = some rs → XEok G.2.2 E → Met l (xqyn i) (xqws i) (xqrm d i) (XPc G D as Hx n) (XQc G D rs) (xqcst i).1 (xqcst i).2 (fun q => G.1 ≤ q) := by
  intro d
  induction d with
  | zero => intro i hi as E Hx n rs h; cases h
  | succ d ih =>
    intro i hi as E Hx n rs h hE
    rw [xmeth_succ] at h
    split at h
    rotate_left
    · cases h
    rename_i T ml rt mc ms hT hml0 hmc0
    cases e0 : Nat.ble (xlen (xlocs as)) ml
    · rw [e0] at h; cases h
    rw [e0, cond_true] at h
    rw [Nat.ble_eq, xlen_eq] at e0
    have hcst : xqcst i = (mc, ms) := by unfold xqcst; rw [hmc0]
    have hmll : xqmll i = ml ∧ xqrt i = rt := by
      rw [xnth_eq] at hml0
      unfold xqmll xqrt
      rw [hml0]
      exact ⟨rfl, rfl⟩
    have hTs : (xqTs[i]?).getD [] = T := by
      rw [xnth_eq] at hT
      rw [hT]
      rfl
    obtain ⟨c1, c2, c3, c4, c5⟩ := xqcall_ok hi
    have htk := xqtk i hi
    rw [hTs] at htk
    rw [hcst]
    refine Met.ofW (cc := xqcb i) (maxL := xqmll i) (ret := xqrty (xqrt i)) (xqplain hi) rfl ?_
    intro p e s m args below meth c s₁ B hml hv
    obtain ⟨vs, rfl, hvs, hW, GL⟩ := hv
    have hx := B.exec
    have hb := B.bytes
    have hr := B.returns
    have hts : ∀ w ∈ xqgw, w.before vs.toArray s = true := fun w hw => atoms_spec (ws := xqws i) B.pre w (List.mem_cons_of_mem _ hw)
    have hown : s.vm.findClass (xqyn i).cls = some m.cls := findClass_of_methodNamed B.named
    have hlocks := B.notSynchronized
    have hin : meth.name = (xqyn i).name := (name_of_methodNamed B.named B.method).1
    rw [lg_entry_eq]
    obtain ⟨hlen, hloc⟩ := xlocs_len hvs
    have hle : (lg_sl vs).length ≤ xqmll i := by rw [hlen, hmll.1]; exact e0
    have hl := lv_entry vs hle
    generalize hls : (lg_sl vs ++ List.replicate (xqmll i - (lg_sl vs).length) Slot.unset).toArray = ls at hl ⊢
    have hrm : (headSpec (xqws i) (xqrm (d + 1) i)).room = xqrm (d + 1) i := rfl
    have hRc : (xqrm (d + 1) i).cells = mc := by unfold xqrm; rw [hcst]
    have hRs : (xqrm (d + 1) i).slots = ms := by unfold xqrm; rw [hcst]
    have qmoved : ∀ {t : State} {H : Heap} {E' : XE} {H' : XH} {n' ce sl : Nat} {rv : Option XV} {oc : Outcome}, t.heap = H → s.WarmedH t.vm → (rv, E', H', n', ce, sl) ∈ rs → XEok G.2.2 E' → XWok G D s H' n' H → (∀ q : Nat, q < G.1 → H[q]? = s.heap[q]?) → XOc G rv oc → XQc G D rs vs.toArray s oc t := by
      intro t H E' H' n' ce sl rv oc ht hw hr he hW hf ho
      exact ⟨fun q hq => by rw [ht]; exact hf q hq, _, hr, he, by rw [ht]; exact hW.moved hw.alike, ho⟩
    unfold xpad at h
    rw [xapp_eq] at h
    have hall := xloop_ok (p := p) (l := l) (e := e) (R := (headSpec (xqws i) (xqrm (d + 1) i)).room) (s := s) (m := m) (args := vs.toArray) (below := below) (meth := meth) (c := c) (Q := MQ below (XQc G D rs) vs.toArray s mc ms (fun q => G.1 ≤ q)) (G := G) (D := D) (nL := xqmll i) (rs := rs) ?_ _ _ _ h
    · refine hall.2 _ List.mem_cons_self ls [] s.heap [] ⟨hl.1, ?_, hl.2.1, fun j x hx => ?_⟩ trivial hE hW (fun q hq => by cases hq) (fun q hq => rfl)
      · show (xlocs as ++ _).length ≤ _
        rw [List.length_append, List.length_replicate, xlen_eq, hmll.1]
        omega
      · have hx : (xlocs as ++ List.replicate (ml - xlen (xlocs as)) none)[j]? = some (some x) := hx
        by_cases hj : j < (xlocs as).length
        · rw [List.getElem?_append_left hj] at hx
          obtain ⟨w, w1, w2⟩ := hloc j x hx
          refine ⟨w, ?_, w2⟩
          rw [← hls, List.getElem?_toArray, List.getElem?_append_left (by omega)]
          exact w1
        · rw [List.getElem?_append_right (by omega)] at hx
          have := List.eq_of_mem_replicate (List.mem_of_getElem? hx)
          cases this
    · intro x o hxo hk
      obtain ⟨pc, L, S, E', Hx', n', ce, sl⟩ := x
      unfold xstep at hxo
      dsimp only at hxo
      split at hxo
      · cases hxo
      · rename_i op A B' nx r1 r2 r3 hen
        have hp := xqtab_ok htk hen
        unfold xqokP at hp
        dsimp only at hp
        cases e1 : Nat.beq op 99
        · rw [e1, cond_false] at hp
          split at hp
          · rename_i ins len hdec
            refine xs_disp (d := d) (rt := rt) (mc := mc) (ms := ms) hx hb hml hown hin hts GL (by rw [hrm, hRc]; exact Nat.le_refl _) (by rw [hrm, hRs]; exact Nat.le_refl _) (show 1 ≤ d + 1 by omega) (show 36 ≤ 36 * (d + 1) by omega) (fun j hj => ⟨show d + 1 ≤ d + 1 from Nat.le_refl _, ?_⟩) ih ?_ ?_ ?_ hdec hp hxo hk
            · have := (xqcall_ok hj).2.2.2.2
              show 8 + (xqmll j + 11) + 36 * d ≤ 36 * (d + 1)
              omega
            · intro u E2 H2 n2 ce2 sl2 hrt hmem pc2 ls2 iv H locs hd1 h1 h2 hi2 hz hE2 hW2 hl2 hf2
              refine W.widen h1 h2 ?_
              rcases hrt with rfl | rfl
              · exact W.iret hx hb (by rw [hr, hmll.2]; rfl) (fun t ht hw => qmoved ht hw hmem hE2 hW2 hf2 ⟨_, rfl, iv, rfl, hi2⟩) hl2 hd1
              · exact W.zret hx hb (ty := .boolean) (by rw [hr, hmll.2]; rfl) (xnarz (hz rfl).1 (hz rfl).2) (fun t ht hw => qmoved ht hw hmem hE2 hW2 hf2 ⟨_, rfl, iv, rfl, hi2⟩) hl2 hd1
            · intro u E2 H2 n2 ce2 sl2 hrt hmem pc2 ls2 w H locs hd1 h1 h2 hi2 hE2 hW2 hl2 hf2
              refine W.widen h1 h2 ?_
              subst hrt
              obtain ⟨iv, rfl, hi3⟩ := hi2
              exact W.lret hx hb (by rw [hr, hmll.2]; rfl) (fun t ht hw => qmoved ht hw hmem hE2 hW2 hf2 ⟨_, rfl, iv, rfl, hi3⟩) hl2 hd1
            · intro E2 H2 n2 ce2 sl2 hrt hmem pc2 ls2 H locs hd1 h1 h2 hE2 hW2 hl2 hf2
              refine W.widen h1 h2 ?_
              subst hrt
              exact W.vret hx hb (by rw [hr, hmll.2]; rfl) (fun t ht hw => qmoved ht hw hmem hE2 hW2 hf2 rfl) hl2 hd1
          · cases hp
        · have e1 := Nat.eq_of_beq_eq_true e1
          subst e1
          rw [xdisp99] at hxo
          cases hxo
