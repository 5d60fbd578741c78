section XQA
variable {p : Program} {l : Launch} {e : Env} {R : Room} {s : State} {m : MethodId} {args : Array Value} {below : List Frame} {meth : Method} {c : Code} {Q : State → Prop} {G : XG} {D : va_G} {nL : Nat} {cc : ByteArray} {own : String}
/-- a call of a method without arguments -/
theorem xrun0 (hx : p.tables.exec = Jvm.exec) (hb : c.code = cc) (hml : c.maxLocals = nL) (hown : s.vm.findClass own = some m.cls) (hts : ∀ w ∈ xqgw, w.before args s = true) (GL : XGl G D s) {d id idx ci a pc n ce sl : Nat} (hid : id < 112) (hcnt : xqcnt id = 0) (hR : d + 1 ≤ R.frames ∧ 36 * (d + 1) ≤ R.locals) (hcst : xqcst id = (0, 0)) (hw1 : Cond.methodLink own idx (xqyn id) ∈ xqgw) (hw2 : Cond.selects (xqyn id).cls (xqyn id) (xqyn id) ∈ xqgw) (hw3 : Cond.instanceMethod (xqyn id) ∈ xqgw) (hw4 : Cond.initialized (xqyn id).cls ∈ xqgw) {H2 : XH} {rs : List XRt}
    (hMet : Met l (xqyn id) (xqws id) (xqrm d id) (XPc G D [.inr (.inr (.inl (some a)))] H2 n) (XQc G D rs) (xqcst id).1 (xqcst id).2 (fun q => G.1 ≤ q)) (hrv : xrecv H2 (ci + 1) [.inr (.inr (.inl (some a)))] = true) (hci : ∀ r : vw_C, xqcls[ci]? = some r → r.1 = (xqyn id).cls) (hd : decode cc pc = .ok (.invokevirtual idx, 3)) {H : Heap} {locs : List Loc} {ls : Array Slot} (hW : XWok G D s H2 n H) (hf : ∀ q : Nat, q < G.1 → H[q]? = s.heap[q]?) (hls : ls.size = nL) (hce : ce ≤ R.cells ∧ sl ≤ R.slots) :
    va_Run p l e R s m args below meth c H locs ce sl 0 0 (F0 m pc ls [.ref (G.1 + a)]) [] (XQc G D rs #[.ref (G.1 + a)]) (fun q => G.1 ≤ q) := by
  obtain ⟨c1, c2, c3, c4, c5⟩ := xqcall_ok hid
  obtain ⟨a', as', fs, ha, hg⟩ := xrecv_ok hrv
  cases ha
  obtain ⟨vs', z1, z2, r, hr, cell, z3, z4, z5, z6⟩ := hW.2 _ _ hg
  dsimp only at hr z3 z4
  have hC := hci r hr
  have hsz : G.1 ≤ H.size := by rw [hW.1]; exact Nat.le_add_right _ _
  have hrm : (xqrm d id).cells = 0 ∧ (xqrm d id).slots = 0 := by unfold xqrm; rw [hcst]; exact ⟨rfl, rfl⟩
  rw [hcst] at hMet
  rw [hcnt] at c4
  refine va_runV (C := (xqyn id).cls) (b := G.1 + a) (As := []) (rest := []) (n := 0) ⟨hx, hb, hml, hown, hts⟩ hMet (cwV (ret := xqrty (xqrt id)) 0 hts ?_ rfl hrm.1 hrm.2 ⟨rfl, c2, c3, c4⟩ ⟨show d + 1 ≤ _ from hR.1, ?_⟩) ⟨XPc_blind _, ⟨cell, z3, by rw [z5]; rfl, by rw [z4, ← hC]; exact (GL.1 _ _ hr).2.1⟩, fun U hU hWm => ⟨[.ref (G.1 + a)], rfl, ⟨rfl, trivial⟩, by rw [hU]; exact hW.moved hWm.alike, GL.moved hWm (by rw [hU]; exact hsz) (fun q hq => by rw [hU]; exact hf q hq)⟩⟩ rfl rfl hls rfl (lv_room (by decide)) hd ⟨by omega, by omega⟩
  · intro w hw
    rcases List.mem_append.mp hw with hw | hw
    · simp only [List.mem_cons, List.not_mem_nil, or_false] at hw
      rcases hw with rfl | rfl | rfl | rfl
      · exact xqgood1 hw1
      · exact xqgood1 hw3
      · exact xqgood1 hw2
      · exact xqgood1 hw4
    · exact xqgoodw c1 w hw
  · show 8 + (xqmll id + 11) + 36 * d ≤ _
    have := hR.2
    omega
end XQA
theorem x111d0 : decode (xqcb 111) 0 = .ok (.iconst 0, 1) := by decide +kernel
theorem x111d1 : decode (xqcb 111) 1 = .ok (.istore_n 2, 1) := by decide +kernel
theorem x111d2 : decode (xqcb 111) 2 = .ok (.iload_n 2, 1) := by decide +kernel
theorem x111d3 : decode (xqcb 111) 3 = .ok (.iload_n 1, 1) := by decide +kernel
theorem x111d4 : decode (xqcb 111) 4 = .ok (.if_icmp .ge 14, 3) := by decide +kernel
theorem x111d7 : decode (xqcb 111) 7 = .ok (.aload_n 0, 1) := by decide +kernel
theorem x111d8 : decode (xqcb 111) 8 = .ok (.invokevirtual 98, 3) := by decide +kernel
theorem x111d11 : decode (xqcb 111) 11 = .ok (.pop, 1) := by decide +kernel
theorem x111d12 : decode (xqcb 111) 12 = .ok (.iinc 2 1, 3) := by decide +kernel
theorem x111d15 : decode (xqcb 111) 15 = .ok (.goto (-13), 3) := by decide +kernel
theorem x110d52 : decode (xqcb 110) 52 = .ok (.iload 4, 2) := by decide +kernel
theorem x110d54 : decode (xqcb 110) 54 = .ok (.iload_n 1, 1) := by decide +kernel
theorem x110d55 : decode (xqcb 110) 55 = .ok (.if_icmp .ge 14, 3) := by decide +kernel
theorem x110d58 : decode (xqcb 110) 58 = .ok (.aload_n 0, 1) := by decide +kernel
theorem x110d59 : decode (xqcb 110) 59 = .ok (.invokevirtual 217, 3) := by decide +kernel
theorem x110d62 : decode (xqcb 110) 62 = .ok (.pop, 1) := by decide +kernel
theorem x110d63 : decode (xqcb 110) 63 = .ok (.iinc 4 1, 3) := by decide +kernel
theorem x110d66 : decode (xqcb 110) 66 = .ok (.goto (-14), 3) := by decide +kernel
theorem x51w1 : Cond.methodLink (xqyn 111).cls 98 (xqyn 51) ∈ xqgw := xqof (by decide +kernel)
theorem x51w2 : Cond.selects (xqyn 51).cls (xqyn 51) (xqyn 51) ∈ xqgw := xqof (by decide +kernel)
theorem x51w3 : Cond.instanceMethod (xqyn 51) ∈ xqgw := xqof (by decide +kernel)
theorem x51w4 : Cond.initialized (xqyn 51).cls ∈ xqgw := xqof (by decide +kernel)
theorem x58w1 : Cond.methodLink (xqyn 110).cls 217 (xqyn 58) ∈ xqgw := xqof (by decide +kernel)
theorem x58w2 : Cond.selects (xqyn 58).cls (xqyn 58) (xqyn 58) ∈ xqgw := xqof (by decide +kernel)
theorem x58w3 : Cond.instanceMethod (xqyn 58) ∈ xqgw := xqof (by decide +kernel)
theorem x58w4 : Cond.initialized (xqyn 58).cls ∈ xqgw := xqof (by decide +kernel)
set_option maxHeartbeats 4000000 in
set_option maxRecDepth 100000 in
theorem xcus111_ok {l : Launch} {G : XG} {D : va_G} {as : List XV} {E : XE} {Hx : XH} {n : Nat} {rs : List XRt} (h : xcus111 as E Hx n = some rs) (hE : XEok G.2.2 E) : Met l (xqyn 111) (xqws 111) (xqrm (8 + 1) 111) (XPc G D as Hx n) (XQc G D rs) (xqcst 111).1 (xqcst 111).2 (fun q => G.1 ≤ q) := by
  unfold xcus111 at h
  split at h
  rotate_left
  · cases h
  rename_i a mv
  cases e0 : xrecv Hx 3 [.inr (.inr (.inl (some a))), .inl mv]
  · rw [e0] at h; cases h
  rw [e0, cond_true] at h
  obtain ⟨H2, h2, hweak⟩ := xqforget_ok h
  obtain ⟨h3, rv, z1, z2, hadv⟩ := xqstay_ok h2
  cases e1 : xrecv H2 3 [.inr (.inr (.inl (some a))), .inl mv]
  · rw [e1] at h3; cases h3
  rw [e1] at h3
  cases h3
  have e1 : xrecv H2 (2 + 1) [.inr (.inr (.inl (some a)))] = true := e1
  have hMet := xmet (l := l) (G := G) (D := D) 8 51 (by decide) _ E H2 n _ hadv hE
  refine Met.ofW (cc := xqcb 111) (maxL := xqmll 111) (ret := xqrty (xqrt 111)) (xqplain (by decide)) rfl ?_
  intro p e s m args below meth c s₁ B hml hv
  obtain ⟨vs, rfl, hvs, hW, GL⟩ := hv
  have hx := B.exec
  have hb := B.bytes
  have hts : ∀ w ∈ xqgw, w.before vs.toArray s = true := fun w hw => atoms_spec (ws := xqws 111) B.pre w (List.mem_cons_of_mem _ hw)
  have hown : s.vm.findClass (xqyn 111).cls = some m.cls := findClass_of_methodNamed B.named
  have hL0 := xentry (ml := xqmll 111) hvs (show 2 ≤ xqmll 111 by decide)
  rw [lg_entry_eq]
  generalize (lg_sl vs ++ List.replicate (xqmll 111 - (lg_sl vs).length) Slot.unset).toArray = ls at hL0 ⊢
  have hL1 : XLok G [some (.inr (.inr (.inl (some a)))), some (.inl mv), none] ls (xqmll 111) := hL0
  obtain ⟨lv, g1, g2⟩ := hL1.list
  obtain ⟨wm, g4, M, rfl, hM⟩ := g2 1 (.inl mv) rfl
  refine lv_iconst (v := 0) hx hb x111d0 rfl ?_
  refine lv_istore_n hx hb x111d1 rfl g1 (show 2 < xqmll 111 by decide) rfl (fun ls' h' => ?_)
  have hL2 := hL1.store1 (i := 2) (v := .inl xqTop) g2 rfl ⟨0, rfl, xtop_ok 0⟩ h'
  refine xq_loop (kL := 2) (h := 2) (p1 := 3) (X := 18) (a := a) (n := n) (ce := 0) (sl := 0) (idx := 98) (L0 := [some (.inr (.inr (.inl (some a)))), some (.inl mv), some (.inl xqTop)]) (mv := mv) (rv := rv) (E := E) (H2 := H2) (z1 := z1) (z2 := z2) (aa := #[.ref (G.1 + a)]) hx hb (by decide) GL.2.2.2.1 rfl rfl rfl rfl rfl
    (fun H locs ls st x hx0 k => lv_iload_n hx hb x111d2 rfl hx0 k) x111d3 x111d4 (by decide) x111d7 x111d11 x111d12 x111d15 (by decide) ?_ ?_ ((M.toInt - (0 : Int32).toInt).toNat) 0 M ls' s.heap [] (Nat.le_refl _) (h'.2.2 (2, _) List.mem_cons_self) (h'.2.2 (1, .int M) (List.mem_cons_of_mem _ (List.mem_filter.mpr ⟨g4, rfl⟩))) hL2 hE (hweak hW) (fun q hq => by cases hq) (fun q hq => rfl)
  · intro H locs ls hW2 hE2 hf hls
    exact xrun0 (d := 8) (id := 51) (ci := 2) hx hb hml hown hts GL (by decide) (by decide) ⟨Nat.le_refl _, Nat.le_refl _⟩ (by decide) x51w1 x51w2 x51w3 x51w4 hMet e1 (fun r hr => by cases hr; rfl) x111d8 hW2 hf hls ⟨Nat.zero_le _, Nat.zero_le _⟩
  · exact xmstep (d := 8) (i := 111) (by decide) (xmet 8) B hml GL (rs := [(none, E, H2, n, 0, 0)]) _ (.inr (.inr (none, E, H2, n, 0, 0))) rfl List.mem_cons_self
theorem xreachG_ok {p : Program} {l : Launch} {e : Env} {R : Room} {s : State} {m : MethodId} {args : Array Value} {below : List Frame} {meth : Method} {c : Code} {Q : State → Prop} {G : XG} {D : va_G} {nL : Nat} {stp : XS → XO} {rs : List XRt} (hst : ∀ (x : XS) (o : XS ⊕ (List XS ⊕ XRt)), stp x = some o → XOk p l e R s m args below meth c Q G D nL (fun r => r ∈ rs) o → XWin p l e R s m args below meth c Q G D nL x) {pc0 : Nat} : ∀ (f : Nat) (x y : XS), xreachG stp pc0 f x = some y → XWin p l e R s m args below meth c Q G D nL y → XWin p l e R s m args below meth c Q G D nL x := by
  intro f
  induction f with
  | zero => intro x y h; cases h
  | succ f ih =>
    intro x y h hw
    rw [xreachG_succ] at h
    cases e0 : Nat.beq x.1 pc0
    · rw [e0, cond_false] at h
      split at h
      · rename_i z hz
        exact hst x _ hz (ih z y h hw)
      · rename_i z hz
        refine hst x _ hz ?_
        intro z' hz'
        rw [List.mem_singleton.mp hz']
        exact ih z y h hw
      · cases h
    · rw [e0] at h
      cases h
      exact hw
set_option maxHeartbeats 4000000 in
set_option maxRecDepth 100000 in
theorem xcus110_ok {l : Launch} {G : XG} {D : va_G} {as : List XV} {E : XE} {Hx : XH} {n : Nat} {rs : List XRt} (h : xcus110 as E Hx n = some rs) (hE : XEok G.2.2 E) : Met l (xqyn 110) (xqws 110) (xqrm (9 + 1) 110) (XPc G D as Hx n) (XQc G D rs) (xqcst 110).1 (xqcst 110).2 (fun q => G.1 ≤ q) := by
  unfold xcus110 at h
  split at h
  rotate_left
  · cases h
  rename_i pc a mv x2 x3 kv E1 H1 n1 hreach
  cases e0 : (Nat.beq pc 52 && Nat.beq (xlocs as).length 4 && xclr [some (.inr (.inr (.inl (some a)))), some (.inl mv), x2, x3, some (.inl xqTop)] 4)
  · rw [e0] at h; cases h
  rw [e0, cond_true] at h
  rw [Bool.and_eq_true, Bool.and_eq_true] at e0
  have hpc := Nat.eq_of_beq_eq_true e0.1.1
  have hal := Nat.eq_of_beq_eq_true e0.1.2
  have hclr4 := e0.2
  subst hpc
  obtain ⟨H2, h2, hweak⟩ := xqforget_ok h
  obtain ⟨h3, rv, z1, z2, hadv⟩ := xqstay_ok h2
  cases e1 : xrecv H2 6 [.inr (.inr (.inl (some a)))]
  · rw [e1] at h3; cases h3
  rw [e1, cond_true] at h3
  have e1 : xrecv H2 (5 + 1) [.inr (.inr (.inl (some a)))] = true := e1
  refine Met.ofW (cc := xqcb 110) (maxL := xqmll 110) (ret := xqrty (xqrt 110)) (xqplain (by decide)) rfl ?_
  intro p e s m args below meth c s₁ B hml hv
  obtain ⟨vs, rfl, hvs, hW, GL⟩ := hv
  have hx := B.exec
  have hb := B.bytes
  have hts : ∀ w ∈ xqgw, w.before vs.toArray s = true := fun w hw => atoms_spec (ws := xqws 110) B.pre w (List.mem_cons_of_mem _ hw)
  have hown : s.vm.findClass (xqyn 110).cls = some m.cls := findClass_of_methodNamed B.named
  have hL0 := xentry (ml := xqmll 110) hvs (by rw [hal]; decide)
  rw [lg_entry_eq]
  generalize (lg_sl vs ++ List.replicate (xqmll 110 - (lg_sl vs).length) Slot.unset).toArray = ls at hL0 ⊢
  have hst := fun x o hxo hk => xmstep (d := 9) (i := 110) (by decide) (xmet (l := l) (G := G) (D := D) 9) B hml GL (rs := rs) x o hxo hk
  refine xreachG_ok (stp := xstp110) hst 100000 _ _ hreach ?_ ls [] s.heap [] hL0 trivial hE hW (fun q hq => by cases hq) (fun q hq => rfl)
  intro ls st H locs hL hS hE1 hW1 hl hf
  have hst0 := XSok_nil hS
  subst hst0
  have hMet := xmet (l := l) (G := G) (D := D) 9 58 (by decide) _ E1 H2 n1 _ hadv hE1
  obtain ⟨wm, w1, M, rfl, hM⟩ := hL.2.2.2 1 (.inl mv) rfl
  obtain ⟨wk, w2, k, rfl, hk⟩ := hL.2.2.2 4 (.inl kv) rfl
  have hL2 : XLok G [some (.inr (.inr (.inl (some a)))), some (.inl mv), x2, x3, some (.inl xqTop)] ls (xqmll 110) := by
    refine ⟨hL.1, hL.2.1, hL.2.2.1, fun i x hx => ?_⟩
    match i, hx with
    | 0, hx => exact hL.2.2.2 0 x hx
    | 1, hx => exact hL.2.2.2 1 x hx
    | 2, hx => exact hL.2.2.2 2 x hx
    | 3, hx => exact hL.2.2.2 3 x hx
    | 4, hx => cases hx; exact ⟨_, w2, k, rfl, xtop_ok k⟩
    | i + 5, hx => simp at hx
  refine xq_loop (kL := 4) (h := 52) (p1 := 54) (X := 69) (a := a) (n := n1) (ce := 0) (sl := 0) (idx := 217) (L0 := [some (.inr (.inr (.inl (some a)))), some (.inl mv), x2, x3, some (.inl xqTop)]) (mv := mv) (rv := rv) (E := E1) (H2 := H2) (z1 := z1) (z2 := z2) (aa := #[.ref (G.1 + a)]) hx hb (by decide) GL.2.2.2.1 rfl rfl rfl rfl ?_
    (fun H locs ls st x hx0 k => lv_iload hx hb x110d52 hx0 k) x110d54 x110d55 (by decide) x110d58 x110d62 x110d63 x110d66 (by decide) ?_ ?_ ((M.toInt - k.toInt).toNat) k M ls H locs (Nat.le_refl _) w2 w1 hL2 hE1 (hweak hW1) hl hf
  · exact hclr4
  · intro H locs ls hW2 hE2 hf hls
    exact xrun0 (d := 9) (id := 58) (ci := 5) hx hb hml hown hts GL (by decide) (by decide) ⟨Nat.le_refl _, Nat.le_refl _⟩ (by decide) x58w1 x58w2 x58w3 x58w4 hMet e1 (fun r hr => by cases hr; rfl) x110d59 hW2 hf hls ⟨Nat.zero_le _, Nat.zero_le _⟩
  · exact (xloop_ok (stp := xstp110) hst 100000 _ [] h3).2 _ List.mem_cons_self
theorem xcus_ok {l : Launch} {G : XG} {D : va_G} {d i : Nat} {as : List XV} {E : XE} {Hx : XH} {n : Nat} {rs : List XRt} (h : xcus d i as E Hx n = some rs) (hE : XEok G.2.2 E) : Met l (xqyn i) (xqws i) (xqrm (d + 1) i) (XPc G D as Hx n) (XQc G D rs) (xqcst i).1 (xqcst i).2 (fun q => G.1 ≤ q) := by
  unfold xcus at h
  cases e0 : (Nat.beq d 8 && Nat.beq i 111)
  · rw [e0, cond_false] at h
    cases e1 : (Nat.beq d 9 && Nat.beq i 110)
    · rw [e1] at h; cases h
    rw [e1, cond_true] at h
    rw [Bool.and_eq_true] at e1
    have q1 := Nat.eq_of_beq_eq_true e1.1
    have q2 := Nat.eq_of_beq_eq_true e1.2
    subst q1 q2
    exact xcus110_ok h hE
  · rw [e0, cond_true] at h
    rw [Bool.and_eq_true] at e0
    have q1 := Nat.eq_of_beq_eq_true e0.1
    have q2 := Nat.eq_of_beq_eq_true e0.2
    subst q1 q2
    exact xcus111_ok h hE
set_option maxHeartbeats 4000000 in
theorem xmetR {l : Launch} {G : XG} {D : va_G} : ∀ (d i : Nat), i < 112 → ∀ (as : List XV) (E : XE) (Hx : XH) (n : Nat) (rs : List XRt), xmethR d i as E Hx n = some rs → XEok G.2.2 E → Met l (xqyn i) (xqws i) (xqrm d i) (XPc G D as Hx n) (XQc G D rs) (xqcst i).1 (xqcst i).2 (fun q => G.1 ≤ q) := by
  intro d
  induction d with
  | zero => intro i hi as E Hx n rs h; cases h
  | succ d ih =>
    intro i hi as E Hx n rs h hE
    rw [xmethR_succ] at h
    split at h
    · rename_i rs' hc
      cases h
      exact xcus_ok hc hE
    split at h
    rotate_left
    · cases h
    rename_i T ml rt mc ms hT hml0 hmc0
    cases e0 : Nat.ble (xlen (xlocs as)) ml
    · rw [e0] at h; cases h
    rw [e0, cond_true] at h
    rw [Nat.ble_eq, xlen_eq] at e0
    have hcst : xqcst i = (mc, ms) := by unfold xqcst; rw [hmc0]
    have hmll : xqmll i = ml ∧ xqrt i = rt := by
      rw [xnth_eq] at hml0
      unfold xqmll xqrt
      rw [hml0]
      exact ⟨rfl, rfl⟩
    have hTs : (xqTs[i]?).getD [] = T := by
      rw [xnth_eq] at hT
      rw [hT]
      rfl
    refine Met.ofW (cc := xqcb i) (maxL := xqmll i) (ret := xqrty (xqrt i)) (xqplain hi) rfl ?_
    intro p e s m args below meth c s₁ B hml hv
    obtain ⟨vs, rfl, hvs, hW, GL⟩ := hv
    have hL0 := xentry (ml := xqmll i) hvs (by rw [hmll.1]; exact e0)
    rw [lg_entry_eq]
    generalize (lg_sl vs ++ List.replicate (xqmll i - (lg_sl vs).length) Slot.unset).toArray = ls at hL0 ⊢
    have hst := fun x o hxo hk => xmstep (d := d) (i := i) hi ih B hml GL (rs := rs) x o hxo hk
    unfold xpad at h
    rw [xapp_eq, xlen_eq] at h
    rw [hTs, hmll.2, hcst] at hst
    rw [hcst]
    rw [← hmll.1] at h
    exact (xloop_ok (stp := xstep (xmethR d) xqcst T rt mc ms) hst _ _ [] h).2 _ List.mem_cons_self ls [] s.heap [] hL0 trivial hE hW (fun q hq => by cases hq) (fun q hq => rfl)
