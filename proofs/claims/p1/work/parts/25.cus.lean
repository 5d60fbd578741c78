theorem XWok.weak {G : XG} {D : va_G} {U : State} {Hx H' : XH} {n : Nat} {H : Heap} (h : XWok G D U Hx n H) {a ci j : Nat} {fs : List XV} {u : XVI} (hg : hget Hx a = some (.inl (ci, fs))) (hj : fs[j]? = some (.inl u)) (hx : ∀ (b : Nat) (c : XC), hget H' b = some c → (b = a ∧ c = .inl (ci, fs.set j (.inl xqTop))) ∨ (b ≠ a ∧ hget Hx b = some c)) : XWok G D U H' n H := by
  refine ⟨h.1, fun k c hk => ?_⟩
  rcases hx k c hk with ⟨rfl, rfl⟩ | ⟨h1, h2⟩
  · obtain ⟨vs, g1, g2, g3⟩ := h.2 _ _ hg
    refine ⟨vs, g1.trans (List.length_set).symm, fun i x hi => ?_, g3⟩
    dsimp only at hi
    rw [List.getElem?_set] at hi
    by_cases e : j = i
    · subst e
      rw [if_pos rfl] at hi
      split at hi
      · cases hi
        obtain ⟨w, w1, iv, rfl, -⟩ := g2 j _ hj
        exact ⟨_, w1, iv, rfl, xtop_ok _⟩
      · cases hi
    · rw [if_neg e] at hi
      exact g2 i x hi
  · exact h.2 k c h2
/-- the locals at a method's entry -/
theorem xentry {G : XG} {as : List XV} {vs : List Value} {ml : Nat} (hvs : XSok G as vs) (hle : (xlocs as).length ≤ ml) : XLok G (xlocs as ++ List.replicate (ml - (xlocs as).length) none) ((lg_sl vs ++ List.replicate (ml - (lg_sl vs).length) Slot.unset).toArray) ml := by
  obtain ⟨hlen, hloc⟩ := xlocs_len hvs
  have hl := lv_entry vs (n := ml) (by omega)
  refine ⟨hl.1, by rw [List.length_append, List.length_replicate]; omega, hl.2.1, fun j x hx => ?_⟩
  by_cases hj : j < (xlocs as).length
  · rw [List.getElem?_append_left hj] at hx
    obtain ⟨w, w1, w2⟩ := hloc j x hx
    refine ⟨w, ?_, w2⟩
    rw [List.getElem?_toArray, List.getElem?_append_left (by omega)]
    exact w1
  · rw [List.getElem?_append_right (by omega)] at hx
    have := List.eq_of_mem_replicate (List.mem_of_getElem? hx)
    cases this
set_option maxHeartbeats 4000000 in
/-- a method's steps, over any callees that hold their contracts -/
theorem xmstep {l : Launch} {G : XG} {D : va_G} {d i : Nat} (hi : i < 112) {cal : Nat → List XV → XE → XH → Nat → Option (List XRt)} (ih : ∀ j, j < 112 → ∀ (as : List XV) (E : XE) (Hx : XH) (n : Nat) (rs : List XRt), cal j as E Hx n = some rs → XEok G.2.2 E → Met l (xqyn j) (xqws j) (xqrm d j) (XPc G D as Hx n) (XQc G D rs) (xqcst j).1 (xqcst j).2 (fun q => G.1 ≤ q))
    {p : Program} {e : Env} {s : State} {m : MethodId} {args : Array Value} {below : List Frame} {meth : Method} {c : Code} {s₁ : State} (B : BodyLoose p l (xqyn i) (headSpec (xqws i) (xqrm (d + 1) i)) (xqcb i) (xqmll i) (xqrty (xqrt i)) e s m args below meth c s₁) (hml : c.maxLocals = xqmll i) (GL : XGl G D s) {rs : List XRt} (x : XS) (o : XS ⊕ (List XS ⊕ XRt)) (hxo : xstep cal xqcst ((xqTs[i]?).getD []) (xqrt i) (xqcst i).1 (xqcst i).2 x = some o)
    (hk : XOk p l e (xqrm (d + 1) i) s m args below meth c (MQ below (XQc G D rs) args s (xqcst i).1 (xqcst i).2 (fun q => G.1 ≤ q)) G D (xqmll i) (fun r => r ∈ rs) o) : XWin p l e (xqrm (d + 1) i) s m args below meth c (MQ below (XQc G D rs) args s (xqcst i).1 (xqcst i).2 (fun q => G.1 ≤ q)) G D (xqmll i) x := by
  have htk := xqtk i hi
  have hx := B.exec
  have hb := B.bytes
  have hr := B.returns
  have hts : ∀ w ∈ xqgw, w.before args s = true := fun w hw => atoms_spec (ws := xqws i) B.pre w (List.mem_cons_of_mem _ hw)
  have hown : s.vm.findClass (xqyn i).cls = some m.cls := findClass_of_methodNamed B.named
  have hlocks := B.notSynchronized
  have hin : meth.name = (xqyn i).name := (name_of_methodNamed B.named B.method).1
  have qmoved : ∀ {t : State} {H : Heap} {E' : XE} {H' : XH} {n' ce sl : Nat} {rv : Option XV} {oc : Outcome}, t.heap = H → s.WarmedH t.vm → (rv, E', H', n', ce, sl) ∈ rs → XEok G.2.2 E' → XWok G D s H' n' H → (∀ q : Nat, q < G.1 → H[q]? = s.heap[q]?) → XOc G rv oc → XQc G D rs args s oc t := by
    intro t H E' H' n' ce sl rv oc ht hw hr he hW hf ho
    exact ⟨fun q hq => by rw [ht]; exact hf q hq, _, hr, he, by rw [ht]; exact hW.moved hw.alike, ho⟩
  obtain ⟨pc, L, S, E', Hx', n', ce, sl⟩ := x
  unfold xstep at hxo
  dsimp only at hxo
  split at hxo
  · cases hxo
  · rename_i op A B' nx r1 r2 r3 hen
    have hp := xqtab_ok htk hen
    unfold xqokP at hp
    dsimp only at hp
    cases e1 : Nat.beq op 99
    · rw [e1, cond_false] at hp
      split at hp
      · rename_i ins len hdec
        refine xs_disp (d := d) (rt := xqrt i) (mc := (xqcst i).1) (ms := (xqcst i).2) hx hb hml hown hin hts GL (Nat.le_refl _) (Nat.le_refl _) (show 1 ≤ d + 1 by omega) (show 36 ≤ 36 * (d + 1) by omega) (fun j hj => ⟨show d + 1 ≤ d + 1 from Nat.le_refl _, ?_⟩) ih ?_ ?_ ?_ hdec hp hxo hk
        · have := (xqcall_ok hj).2.2.2.2
          show 8 + (xqmll j + 11) + 36 * d ≤ 36 * (d + 1)
          omega
        · intro u E2 H2 n2 ce2 sl2 hrt hmem pc2 ls2 iv H locs hd1 h1 h2 hi2 hz hE2 hW2 hl2 hf2
          refine W.widen h1 h2 ?_
          rcases hrt with hrt | hrt
          · exact W.iret hx hb (by rw [hr, hrt]; rfl) (fun t ht hw => qmoved ht hw hmem hE2 hW2 hf2 ⟨_, rfl, iv, rfl, hi2⟩) hl2 hd1
          · exact W.zret hx hb (ty := .boolean) (by rw [hr, hrt]; rfl) (xnarz (hz hrt).1 (hz hrt).2) (fun t ht hw => qmoved ht hw hmem hE2 hW2 hf2 ⟨_, rfl, iv, rfl, hi2⟩) hl2 hd1
        · intro u E2 H2 n2 ce2 sl2 hrt hmem pc2 ls2 w H locs hd1 h1 h2 hi2 hE2 hW2 hl2 hf2
          refine W.widen h1 h2 ?_
          obtain ⟨iv, rfl, hi3⟩ := hi2
          exact W.lret hx hb (by rw [hr, hrt]; rfl) (fun t ht hw => qmoved ht hw hmem hE2 hW2 hf2 ⟨_, rfl, iv, rfl, hi3⟩) hl2 hd1
        · intro E2 H2 n2 ce2 sl2 hrt hmem pc2 ls2 H locs hd1 h1 h2 hE2 hW2 hl2 hf2
          refine W.widen h1 h2 ?_
          exact W.vret hx hb (by rw [hr, hrt]; rfl) (fun t ht hw => qmoved ht hw hmem hE2 hW2 hf2 rfl) hl2 hd1
      · cases hp
    · have e1 := Nat.eq_of_beq_eq_true e1
      subst e1
      rw [xdisp99] at hxo
      cases hxo
noncomputable def xreachG (stp : XS → XO) (pc0 : Nat) (f : Nat) : XS → Option XS := Nat.rec (fun _ => none) (fun _ ih x => bif Nat.beq x.1 pc0 then some x else (match stp x with
  | some (.inl y) => ih y
  | some (.inr (.inl [y])) => ih y
  | _ => none)) f
theorem xreachG_succ (stp : XS → XO) (pc0 f : Nat) (x : XS) : xreachG stp pc0 (f + 1) x = bif Nat.beq x.1 pc0 then some x else (match stp x with
  | some (.inl y) => xreachG stp pc0 f y
  | some (.inr (.inl [y])) => xreachG stp pc0 f y
  | _ => none) := rfl
/-- what the field j of the cell a holds is forgotten -/
noncomputable def xqforget {β : Type} (H : XH) (a j : Nat) (k : XH → β) (kn : β) : β := match hget H a with
  | some (.inl (ci, fs)) => (match xnth fs j with
    | some (.inl _) => xset fs (.inl xqTop) j fun fs' => hset H a (.inl (ci, fs')) k
    | _ => kn)
  | _ => kn
theorem xqforget_ok {H : XH} {a j : Nat} {x : List XRt} {k : XH → Option (List XRt)} (h : xqforget H a j k none = some x) : ∃ H', k H' = some x ∧ ∀ {G : XG} {D : va_G} {U : State} {n : Nat} {Hc : Heap}, XWok G D U H n Hc → XWok G D U H' n Hc := by
  unfold xqforget at h
  split at h
  · rename_i ci fs hg
    split at h
    · rename_i u hu
      rw [xset_eq] at h
      obtain ⟨H', q1, q2⟩ := hset_ok H a (.inl (ci, fs.set j (.inl xqTop)))
      rw [q1] at h
      rw [xnth_eq] at hu
      exact ⟨H', h, fun hW => hW.weak hg hu q2⟩
    · cases h
  · cases h
def xveq (v w : XV) : Bool := match v, w with
  | .inl (a, b, t, o), .inl (a', b', t', o') => xeq a a' && xeq b b' && Nat.beq t t' && xeq o o'
  | .inr (.inl (a, b)), .inr (.inl (a', b')) => xeq a a' && xeq b b'
  | .inr (.inr (.inl none)), .inr (.inr (.inl none)) => true
  | .inr (.inr (.inl (some a))), .inr (.inr (.inl (some b))) => Nat.beq a b
  | .inr (.inr (.inr t)), .inr (.inr (.inr t')) => Nat.beq t t'
  | _, _ => false
theorem xveq_ok {v w : XV} (h : xveq v w = true) : v = w := by
  unfold xveq at h
  split at h
  · rw [Bool.and_eq_true, Bool.and_eq_true, Bool.and_eq_true, xeq_iff, xeq_iff, xeq_iff] at h
    obtain ⟨⟨⟨rfl, rfl⟩, h3⟩, rfl⟩ := h
    have := Nat.eq_of_beq_eq_true h3
    subst this
    rfl
  · rw [Bool.and_eq_true, xeq_iff, xeq_iff] at h
    obtain ⟨rfl, rfl⟩ := h
    rfl
  · rfl
  · have := Nat.eq_of_beq_eq_true h
    subst this
    rfl
  · have := Nat.eq_of_beq_eq_true h
    subst this
    rfl
  · cases h
def xleq {α : Type} (f : α → α → Bool) : List α → List α → Bool
  | [], [] => true
  | a :: l, b :: m => f a b && xleq f l m
  | _, _ => false
theorem xleq_ok {α : Type} {f : α → α → Bool} (hf : ∀ a b, f a b = true → a = b) : ∀ {l m : List α}, xleq f l m = true → l = m
  | [], [], _ => rfl
  | [], b :: m, h => by cases h
  | a :: l, [], h => by cases h
  | a :: l, b :: m, h => by
    have h : (f a b && xleq f l m) = true := h
    rw [Bool.and_eq_true] at h
    rw [hf a b h.1, xleq_ok hf h.2]
def xoeq (v w : Nat × XV) : Bool := Nat.beq v.1 w.1 && xveq v.2 w.2
theorem xoeq_ok (v w : Nat × XV) (h : xoeq v w = true) : v = w := by
  unfold xoeq at h
  rw [Bool.and_eq_true] at h
  exact Prod.ext (Nat.eq_of_beq_eq_true h.1) (xveq_ok h.2)
def xceq (v w : XC) : Bool := match v, w with
  | .inl (c, fs), .inl (c', fs') => Nat.beq c c' && xleq xveq fs fs'
  | .inr (t, len, d, ov), .inr (t', len', d', ov') => Nat.beq t t' && Nat.beq len len' && xveq d d' && xleq xoeq ov ov'
  | _, _ => false
theorem xceq_ok (v w : XC) (h : xceq v w = true) : v = w := by
  unfold xceq at h
  split at h
  · rw [Bool.and_eq_true] at h
    rw [Nat.eq_of_beq_eq_true h.1, xleq_ok (fun a b => xveq_ok) h.2]
  · rw [Bool.and_eq_true, Bool.and_eq_true, Bool.and_eq_true] at h
    rw [Nat.eq_of_beq_eq_true h.1.1.1, Nat.eq_of_beq_eq_true h.1.1.2, xveq_ok h.1.2, xleq_ok xoeq_ok h.2]
  · cases h
def xheq : XH → XH → Bool := xleq (xleq xceq)
theorem xheq_ok {a b : XH} (h : xheq a b = true) : a = b := xleq_ok (fun _ _ h => xleq_ok xceq_ok h) h
def xEeq : XE → XE → Bool := xleq (fun p q => xeq p.1 q.1 && xeq p.2 q.2)
theorem xEeq_ok {a b : XE} (h : xEeq a b = true) : a = b := xleq_ok (fun p q h => by
  rw [Bool.and_eq_true, xeq_iff, xeq_iff] at h
  exact Prod.ext h.1 h.2) h
/-- is the world as it was -/
noncomputable def xqstay (rs : Option (List XRt)) (E : XE) (H : XH) (n : Nat) (k : Option (List XRt)) : Option (List XRt) := match rs with
  | some [(some (.inl _), E', H', n', _, _)] => bif xEeq E' E && xheq H' H && Nat.beq n' n then k else none
  | _ => none
theorem xqstay_ok {rs : Option (List XRt)} {E : XE} {H : XH} {n : Nat} {k : Option (List XRt)} {x : List XRt} (h : xqstay rs E H n k = some x) : k = some x ∧ ∃ (rv : XVI) (z1 z2 : Nat), rs = some [(some (.inl rv), E, H, n, z1, z2)] := by
  unfold xqstay at h
  split at h
  · rename_i rv E' H' n' z1 z2
    cases e0 : (xEeq E' E && xheq H' H && Nat.beq n' n)
    · rw [e0] at h; cases h
    rw [e0, cond_true] at h
    rw [Bool.and_eq_true, Bool.and_eq_true] at e0
    have e1 := xEeq_ok e0.1.1
    have e2 := xheq_ok e0.1.2
    have e3 := Nat.eq_of_beq_eq_true e0.2
    subst e1 e2 e3
    exact ⟨h, rv, z1, z2, rfl⟩
  · cases h
/-- advanceBy, over a world that a step leaves as it is -/
noncomputable def xcus111 (as : List XV) (E : XE) (H : XH) (n : Nat) : Option (List XRt) := match as with
  | [.inr (.inr (.inl (some a))), .inl _] => bif xrecv H 3 as then xqforget H a 6 (fun H2 => xqstay (xmeth 8 51 [.inr (.inr (.inl (some a)))] E H2 n) E H2 n (bif xrecv H2 3 as then some [(none, E, H2, n, 0, 0)] else none)) none else none
  | _ => none
noncomputable def xstp110 : XS → XO := xstep (xmeth 9) xqcst xqT110 1 0 0
/-- the model's run, over a world that a step leaves as it is -/
noncomputable def xcus110 (as : List XV) (E : XE) (H : XH) (n : Nat) : Option (List XRt) := match xreachG xstp110 52 100000 (0, xlocs as ++ List.replicate (5 - (xlocs as).length) none, [], E, H, n, 0, 0) with
  | some (pc, [some (.inr (.inr (.inl (some a)))), some (.inl mv), x2, x3, some (.inl kv)], [], E1, H1, n1, 0, 0) => bif Nat.beq pc 52 && Nat.beq (xlocs as).length 4 && xclr [some (.inr (.inr (.inl (some a)))), some (.inl mv), x2, x3, some (.inl xqTop)] 4 then
      xqforget H1 a 18 (fun H2 => xqstay (xmeth 9 58 [.inr (.inr (.inl (some a)))] E1 H2 n1) E1 H2 n1 (bif xrecv H2 6 [.inr (.inr (.inl (some a)))] then xloop xstp110 100000 [(69, [some (.inr (.inr (.inl (some a)))), some (.inl mv), x2, x3, some (.inl xqTop)], [], E1, H2, n1, 0, 0)] [] else none)) none
    else none
  | _ => none
