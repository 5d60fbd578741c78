theorem xrefs_ok (n : Nat) : ∀ (i : Nat) (acc : List (Nat × XV)), ∃ ov : List (Nat × XV), (∀ {β : Type} (k : List (Nat × XV) → β), xrefs n i acc k = k ov) ∧ ∀ (d : XV) (j : Nat), xelt d ov j = if j < i then .inr (.inr (.inl (some (n + 1 + j)))) else xelt d acc j := by
  intro i
  induction i with
  | zero => intro acc; exact ⟨acc, fun k => rfl, fun d j => by rw [if_neg (Nat.not_lt_zero _)]⟩
  | succ i ih =>
    intro acc
    obtain ⟨ov, h1, h2⟩ := ih ((i, .inr (.inr (.inl (some (n + 1 + i))))) :: acc)
    refine ⟨ov, fun k => ?_, fun d j => ?_⟩
    · show fN (n + 1 + i) (fun q => xrefs n i ((i, .inr (.inr (.inl (some q)))) :: acc) k) = _
      rw [fN_eq]
      exact h1 k
    · rw [h2]
      by_cases e : j < i
      · rw [if_pos e, if_pos (by omega)]
      · rw [if_neg e]
        show (bif Nat.beq i j then _ else xelt d acc j) = _
        by_cases e2 : j = i
        · subst e2
          rw [if_pos (by omega)]
          simp
        · have h0 : Nat.beq i j = false := by
            cases h9 : Nat.beq i j
            · rfl
            · exact absurd (Nat.eq_of_beq_eq_true h9).symm e2
          rw [h0, cond_false, if_neg (by omega)]
theorem xrows_ok (m : Nat) : ∀ (i n : Nat) (H : XH), (∀ k, xrows m i n H k = none) ∨ ∃ H' : XH, (∀ k, xrows m i n H k = k (n + i) H') ∧ ∀ (b : Nat) (c : XC), hget H' b = some c → (n ≤ b ∧ b < n + i ∧ c = .inr (0, m, .inl (0, 0, 0, 0), [])) ∨ hget H b = some c := by
  intro i
  induction i with
  | zero => intro n H; exact Or.inr ⟨H, fun k => rfl, fun b c h => Or.inr h⟩
  | succ i ih =>
    intro n H
    rcases hpush_ok H n (.inr (0, m, .inl (0, 0, 0, 0), [])) with q | ⟨H1, q1, q2⟩
    · exact Or.inl fun k => q _
    · rcases ih (n + 1) H1 with z | ⟨H', z1, z2⟩
      · refine Or.inl fun k => ?_
        show hpush H n _ _ = none
        rw [q1, fN_eq]
        exact z k
      · refine Or.inr ⟨H', fun k => ?_, fun b c hb => ?_⟩
        · show hpush H n _ _ = _
          rw [q1, fN_eq]
          exact (z1 k).trans (by rw [show n + 1 + i = n + (i + 1) by omega])
        · rcases z2 b c hb with ⟨y1, y2, y3⟩ | y
          · exact Or.inl ⟨by omega, by omega, y3⟩
          · rcases q2 b c y with ⟨y1, y2⟩ | y1
            · exact Or.inl ⟨by omega, by omega, y2⟩
            · exact Or.inr y1
theorem xcopy_ok {G : XG} (d d' : XV) (ov : List (Nat × XV)) (sp dp len' : Nat) (f : Nat → Value) : ∀ (i : Nat) (o : List (Nat × XV)) (g : Nat → Value) (k : List (Nat × XV) → XO) (x : XS ⊕ (List XS ⊕ XRt)), xcopy d d' ov sp dp i o k = some x → (∀ j, j < i → XVok G (xelt d ov (sp + j)) (f (sp + j))) → (∀ q, q < len' → XVok G (xelt d' o q) (g q)) →
    (∀ j, j < i → ∃ z : Int32, f (sp + j) = .int z) ∧ ∃ o' : List (Nat × XV), k o' = some x ∧ ∀ q, q < len' → XVok G (xelt d' o' q) (va_cpy f g sp dp i q) := by
  intro i
  induction i with
  | zero =>
    intro o g k x h _ h2
    refine ⟨fun j hj => absurd hj (Nat.not_lt_zero _), o, h, fun q hq => ?_⟩
    have : va_cpy f g sp dp 0 q = g q := by unfold va_cpy; rw [if_neg (by omega)]
    rw [this]
    exact h2 q hq
  | succ i ih =>
    intro o g k x h h1 h2
    have hu : xcopy d d' ov sp dp (i + 1) o k = (match xelt d ov (sp + i) with
      | .inl (a, b, c, e) => fN (dp + i) fun q => xput d' o q (.inl (a, b, c, e)) fun o' => xcopy d d' ov sp dp i o' k
      | _ => none) := rfl
    rw [hu] at h
    have hv := h1 i (Nat.lt_succ_self i)
    split at h
    · rename_i a b c e hq
      rw [hq] at hv
      rw [fN_eq] at h
      obtain ⟨o1, p1, p2, p3⟩ := xput_ok (G := G) d' o (dp + i) (.inl (a, b, c, e))
      rw [p1] at h
      obtain ⟨z, hz, -⟩ := id hv
      obtain ⟨r1, o', r2, r3⟩ := ih o1 (updV g (dp + i) (f (sp + i))) k x h (fun j hj => h1 j (by omega)) (fun q hq => by
        by_cases e1 : q = dp + i
        · subst e1
          have : updV g (dp + i) (f (sp + i)) (dp + i) = f (sp + i) := by simp [updV]
          rw [this]
          exact p2 _ hv
        · have : updV g (dp + i) (f (sp + i)) q = g q := by simp [updV, e1]
          rw [this, p3 q e1]
          exact h2 q hq)
      refine ⟨fun j hj => ?_, o', r2, fun q hq => ?_⟩
      · by_cases e1 : j = i
        · subst e1
          exact ⟨z, hz⟩
        · exact r1 j (by omega)
      · have := r3 q hq
        have e2 : va_cpy f (updV g (dp + i) (f (sp + i))) sp dp i q = va_cpy f g sp dp (i + 1) q := by
          unfold va_cpy
          by_cases e1 : q = dp + i
          · subst e1
            rw [if_neg (by omega), if_pos (by omega)]
            simp [updV]
          · by_cases e3 : dp ≤ q ∧ q < dp + i
            · rw [if_pos e3, if_pos (by omega)]
            · rw [if_neg e3, if_neg (by omega)]
              simp [updV, e1]
        rw [e2] at this
        exact this
    · cases h
section XQ4
variable {p : Program} {l : Launch} {e : Env} {R : Room} {s : State} {m : MethodId} {args : Array Value} {below : List Frame} {meth : Method} {c : Code} {Q : State → Prop} {G : XG} {D : va_G} {nL : Nat}
variable {Rt : XRt → Prop} {o : XS ⊕ (List XS ⊕ XRt)} {cc : ByteArray} {pc nx : Nat} {L : XLc} {S : List XV} {E : XE} {Hx : XH} {n ce sl : Nat} {own : String}
theorem xs_multi (hx : p.tables.exec = Jvm.exec) (hb : c.code = cc) (hown : s.vm.findClass own = some m.cls) (hts : ∀ w ∈ xqgw, w.before args s = true) (GL : XGl G D s) {mc ms index : Nat} (hmc : mc ≤ R.cells) (hms : ms ≤ R.slots) (hcl : Cond.classLink own index ("[" ++ (FieldType.array .int).toString) ∈ xqgw) (harr : Cond.arrayClass .int ∈ xqgw) (hd : decode cc pc = .ok (.multianewarray index 2, 4)) (hn : nx = pc + 4) (h : xnewm mc ms nx L S E Hx n ce sl = some o) (hk : XOk p l e R s m args below meth c Q G D nL Rt o) : XWin p l e R s m args below meth c Q G D nL (pc, L, S, E, Hx, n, ce, sl) := by
  subst hn
  intro ls st H locs hL hS hE hW hl hf
  unfold xnewm at h
  split at h
  · rename_i v u S'
    obtain ⟨w1, st1, rfl, ⟨k, rfl, hk1⟩, h2⟩ := XSok_cons hS
    obtain ⟨w2, st2, rfl, ⟨i, rfl, hi⟩, h4⟩ := XSok_cons h2
    obtain ⟨lo, hi', r1, r2, r3⟩ := xrng_ok hE hk1
    obtain ⟨pp, qq, t1, t2, t3⟩ := xrng_ok hE hi
    rw [r3, t3] at h
    cases e4 : (xeq lo hi' && xeq pp qq)
    · rw [e4] at h; cases h
    rw [e4, cond_true] at h
    rw [Bool.and_eq_true, xeq_iff, xeq_iff] at e4
    split at h
    · rename_i M N
      cases e5 : (Nat.ble M 10000 && Nat.ble N 10000)
      · rw [e5] at h; cases h
      rw [e5, cond_true, fN_eq, fN_eq] at h
      rw [Bool.and_eq_true, Nat.ble_eq, Nat.ble_eq] at e5
      cases e6 : (Nat.ble (ce + 1 + N) mc && Nat.ble (sl + N + N * M) ms)
      · rw [e6] at h; cases h
      rw [e6, cond_true] at h
      rw [Bool.and_eq_true, Nat.ble_eq, Nat.ble_eq] at e6
      obtain ⟨ov, q1, q2⟩ := xrefs_ok n N []
      rw [q1] at h
      rcases hpush_ok Hx n (.inr (2, N, .inr (.inr (.inl none)), ov)) with z | ⟨H', z1, z2⟩
      · rw [z] at h; cases h
      rw [z1, fN_eq] at h
      rcases xrows_ok M N (Nat.succ n) H' with z | ⟨H2, z3, z4⟩
      · rw [z] at h; cases h
      rw [z3] at h
      have hw := xgo_win h hk
      have zM : Int.ofNat M = (M : Int) := rfl
      have zN : Int.ofNat N = (N : Int) := rfl
      have hkM : k.toNatClampNeg = M := xclamp (by omega)
      have hiN : i.toNatClampNeg = N := xclamp (by omega)
      have nneg : ∀ z : Int32, 0 ≤ z.toInt → ¬ z < 0 := fun z h0 q => by
        have := Int32.lt_iff_toInt_lt.mp q
        have e : (0 : Int32).toInt = 0 := rfl
        omega
      intro T hT X
      obtain ⟨vm₁, cA, cy, -, fA, fC, hO, hI, X', step⟩ := X.multianewarray2F hx hown (hts _ hcl) (xqAOA.use GL.2.2.1.2.2.2) (hts _ harr) (g := F0 m pc ls (.int k :: .int i :: st2)) rfl (by rw [hb]; exact hd) rfl (nneg i (by omega)) (nneg k (by omega)) (by rw [hiN]; omega) (by rw [hkM]; show M * 4 ≤ _; omega) (by rw [hkM]; omega) rfl rfl (show ce + (1 + _) ≤ R.cells by rw [hiN]; omega) (show sl + (_ + _) ≤ R.slots by rw [hiN, hkM]; omega)
      rw [hiN, hkM] at X' step
      obtain ⟨f1, f2, -, -⟩ := Jvm.Free.Multi.fill_facts (T.setVm vm₁) cA cy N M (defaultValue .int) N
      have hold : ∀ x : Nat, x < H.size → (Jvm.Free.Multi.fill (T.setVm vm₁) cA cy N M (defaultValue .int) N).heap[x]? = H[x]? := fun x hx => by
        have := Jvm.Free.Multi.fill_old (T.setVm vm₁) cA cy N M (defaultValue .int) (a := x) (by show x < T.heap.size; rw [hT]; exact hx) N
        rw [this]
        show T.heap[x]? = _
        rw [hT]
      have hrow : ∀ j : Nat, j < N → (Jvm.Free.Multi.fill (T.setVm vm₁) cA cy N M (defaultValue .int) N).heap[H.size + 1 + j]? = some (arrV cy M (fun _ => .int 0)) := fun j hj => by
        have := Jvm.Free.Multi.fill_inner (T.setVm vm₁) cA cy N M (defaultValue .int) N j hj
        have hTh : (T.setVm vm₁).heap = H := hT
        rw [hTh] at this
        rw [this, ← arrV_new]
        rfl
      have hTh : (T.setVm vm₁).heap = H := hT
      rw [hTh] at f1 f2
      rw [vr_outer] at f2
      have hsz : H.size = G.1 + n := hW.1
      have hArI : ArrOfT s cy .int := fun N9 z9 => by
        obtain ⟨-, k9, hk9, cm9, hkk9⟩ := (hI 0 (.int 0)).1
        exact ⟨(fun q hq => by cases hq), k9, hk9, cm9, hkk9⟩
      have hArO : ArrOfT s cA (.array .int) := fun N9 z9 => by
        obtain ⟨-, k9, hk9, cm9, hkk9⟩ := (hO 0 0 0).1
        exact ⟨(fun q hq => by cases hq), k9, hk9, cm9, hkk9⟩
      generalize hF : Jvm.Free.Multi.fill (T.setVm vm₁) cA cy N M (defaultValue .int) N = F at X' step f1 f2 hold hrow
      obtain ⟨t, a1, b1⟩ := hw ls (.ref H.size :: st2) F.heap locs hL ⟨by show Value.ref H.size = .ref (G.1 + n); rw [hsz], h4⟩ hE ⟨by show F.heap.size = G.1 + (n + 1 + N); omega, fun b x hb => by
        rcases z4 b x hb with ⟨y1, y2, rfl⟩ | y
        · obtain ⟨j, rfl⟩ : ∃ j, b = n + 1 + j := ⟨b - (n + 1), by omega⟩
          refine ⟨cy, fun _ => .int 0, ?_, hArI, fC, fun j _ => ⟨0, rfl, xk_ok 0 0⟩⟩
          rw [show G.1 + (n + 1 + j) = H.size + 1 + j by omega]
          exact hrow j (by omega)
        · rcases z2 b x y with ⟨rfl, rfl⟩ | y1
          · refine ⟨cA, _, by rw [← hsz]; exact f2, hArO, fA, fun j hj => ?_⟩
            have hj : j < N := hj
            show XVok G (xelt _ ov j) (va_rf (if j < N then some (H.size + 1 + j) else none))
            rw [q2, if_pos hj, if_pos hj]
            show Value.ref (H.size + 1 + j) = .ref (G.1 + (b + 1 + j))
            rw [show G.1 + (b + 1 + j) = H.size + 1 + j by omega]
          · exact (hW.2 b x y1).kept (hold _ (hW.2 b x y1).lt)⟩ hl (fun q hq => by rw [hold q (by omega)]; exact hf q hq) F rfl (by
        have e1 : ce + 1 + N = ce + 1 + N := rfl
        exact X')
      refine ⟨t, step t ?_, b1⟩
      have e : T.heap.size = H.size := by rw [hT]
      rw [e]
      exact a1
    · cases h
  · cases h
theorem xs_copy (hx : p.tables.exec = Jvm.exec) (hb : c.code = cc) (hml : c.maxLocals = nL) (hown : s.vm.findClass own = some m.cls) (hts : ∀ w ∈ xqgw, w.before args s = true) {index : Nat} (hlink : Cond.methodLink own index arraycopyName ∈ xqgw) (hnat : Cond.native arraycopyName ∈ xqgw) (hstat : Cond.static arraycopyName ∈ xqgw) (hini : Cond.initialized "java/lang/System" ∈ xqgw) (hfr : 1 ≤ R.frames) (hlo : 36 ≤ R.locals) (hd : decode cc pc = .ok (.invokestatic index, 3)) (hn : nx = pc + 3) (h : xarr nx L S E Hx n ce sl = some o) (hk : XOk p l e R s m args below meth c Q G D nL Rt o) : XWin p l e R s m args below meth c Q G D nL (pc, L, S, E, Hx, n, ce, sl) := by
  subst hn
  intro ls st H locs hL hS hE hW hl hf
  unfold xarr at h
  split at h
  · rename_i i i' _ _ dp dp' _ _ b sp sp' _ _ a S'
    obtain ⟨w1, st1, rfl, ⟨ni, rfl, hn1, hn2, -⟩, y1⟩ := XSok_cons hS
    obtain ⟨w2, st2, rfl, ⟨nd, rfl, hd1, hd2, -⟩, y2⟩ := XSok_cons y1
    obtain ⟨w3, st3, rfl, y3, y4⟩ := XSok_cons y2
    obtain ⟨w4, st4, rfl, ⟨ns, rfl, hs1, hs2, -⟩, y5⟩ := XSok_cons y4
    obtain ⟨w5, st5, rfl, y6, y7⟩ := XSok_cons y5
    have y3 : w3 = .ref (G.1 + b) := y3
    have y6 : w5 = .ref (G.1 + a) := y6
    subst y3 y6
    dsimp only at hn1 hn2 hd1 hd2 hs1 hs2
    split at h
    · rename_i len d ov len' d' ov' ga gb
      cases e0 : (Nat.beq i i' && Nat.beq dp dp' && Nat.beq sp sp' && Nat.ble (sp + i) len && Nat.ble (dp + i) len' && Nat.ble i 10000 && Nat.ble dp 10000 && Nat.ble sp 10000 && Nat.ble (xcat S') 8)
      · rw [e0] at h; cases h
      rw [e0, cond_true] at h
      simp only [Bool.and_eq_true, Nat.ble_eq] at e0
      obtain ⟨⟨⟨⟨⟨⟨⟨⟨e1, e2⟩, e3⟩, e4⟩, e5⟩, e6⟩, e7⟩, e8⟩, e9⟩ := e0
      have e1 := Nat.eq_of_beq_eq_true e1
      have e2 := Nat.eq_of_beq_eq_true e2
      have e3 := Nat.eq_of_beq_eq_true e3
      subst e1 e2 e3
      obtain ⟨c0, f, a1, a2, a3, a4⟩ := hW.2 _ _ ga
      obtain ⟨c1, g, b1, b2, b3, b4⟩ := hW.2 _ _ gb
      dsimp only at a1 a2 a4 b1 b2 b3 b4
      have zi : Int.ofNat i = (i : Int) := rfl
      have zd : Int.ofNat dp = (dp : Int) := rfl
      have zs : Int.ofNat sp = (sp : Int) := rfl
      have ci : ni.toNatClampNeg = i := xclamp (by omega)
      have cd : nd.toNatClampNeg = dp := xclamp (by omega)
      have cs : ns.toNatClampNeg = sp := xclamp (by omega)
      have nneg : ∀ z : Int32, 0 ≤ z.toInt → ¬ z < 0 := fun z h0 q => by
        have := Int32.lt_iff_toInt_lt.mp q
        have e : (0 : Int32).toInt = 0 := rfl
        omega
      obtain ⟨hint, o', ho', hcp⟩ := xcopy_ok (G := G) d d' ov sp dp len' f i ov' g _ o h (fun j hj => a4 (sp + j) (by omega)) b4
      obtain ⟨H', q1, q2⟩ := hset_ok Hx b (.inr (0, len', d', o'))
      rw [q1] at ho'
      have hw := xgo_win ho' hk
      intro T hT X
      obtain ⟨-, k0, hk0, cm0, hkk0⟩ := a2 len f
      obtain ⟨-, k1, hk1, cm1, hkk1⟩ := b2 len' g
      obtain ⟨vm', X', step⟩ := X.arraycopy hx hown (hts _ hlink) (hts _ hnat) (hts _ hstat) (hts _ hini) (src := G.1 + a) (dst := G.1 + b) (cs := arrV c0 len f) (cd := arrV c1 len' g) (srcPos := ns) (destPos := nd) (n := ni) (by rw [hT]; exact a1) (by rw [hT]; exact b1)
        (fun _ h => by cases h) (fun _ h => by cases h) (fun h => by cases h) (fun h => by cases h) hk0 hk1 hkk0 hkk1 (by simp [xqty, refKind]) (nneg ns (by omega)) (nneg nd (by omega)) (nneg ni (by omega))
        (by rw [arrV_size]; omega)
        (by rw [arrV_size]; omega)
        (fun vm₁ _ j hj => by
          rw [cs]
          have e : (arrV c0 len f).slots.getD (sp + j) .null = f (sp + j) := by
            rw [Array.getD_eq_getD_getElem?, arrV_read _ _ (by omega)]
            rfl
          obtain ⟨z, hz⟩ := hint j (by omega)
          refine ⟨?_, ?_⟩
          · rw [e, hz]
            rfl
          · rw [e, hz]
            exact trivial)
        (g := F0 m pc ls (.int ni :: .int nd :: .ref (G.1 + b) :: .int ns :: .ref (G.1 + a) :: st5)) rfl (by rw [hml]; exact hL.1) (rest := st5) rfl (by rw [hb]; exact hd) hfr (by
          have h9 := XScat y7
          have h8 : nativeFrameWords "java/lang/System" "arraycopy" 5 = 7 := by decide +kernel
          show 2 * 0 + _ + _ ≤ _
          omega)
      have ecp : copied (arrV c0 len f) (arrV c1 len' g) ns nd ni = arrV c1 len' (va_cpy f g sp dp i) := by
        have := va_copied (fun z : Value => z) c0 c1 (n0 := len) (n1 := len') (sp := sp) (dp := dp) (n := i) f g e4
        show (arrV c1 len' g).storeRun nd.toNatClampNeg ((arrV c0 len f).stretch ns.toNatClampNeg ni.toNatClampNeg) = _
        rw [ci, cd, cs]
        exact this
      rw [ecp] at X' step
      have hl9 : G.1 + b < H.size := (Array.getElem?_eq_some_iff.mp b1).1
      have hheap : ((T.setVm vm').setCell (G.1 + b) (arrV c1 len' (va_cpy f g sp dp i))).heap = H.setIfInBounds (G.1 + b) (arrV c1 len' (va_cpy f g sp dp i)) := by rw [← hT]; rfl
      have oq : ∀ q : Nat, q ≠ G.1 + b → (H.setIfInBounds (G.1 + b) (arrV c1 len' (va_cpy f g sp dp i)))[q]? = H[q]? := fun q hq => by simp [Array.getElem?_setIfInBounds, Ne.symm hq]
      obtain ⟨t, a9, b9⟩ := hw ls st5 (H.setIfInBounds (G.1 + b) (arrV c1 len' (va_cpy f g sp dp i))) _ hL y7 hE (hW.put q2 (by simp) oq ⟨c1, va_cpy f g sp dp i, by simp [Array.getElem?_setIfInBounds, hl9], b2, b3, hcp⟩) (fun q hq => by
        rcases List.mem_append.mp hq with h | h
        · exact hl q h
        · obtain ⟨z, -, hz⟩ := List.mem_map.mp h
          rw [← hz]
          exact Nat.le_add_right _ _) (fun q hq => by rw [oq q (by omega)]; exact hf q hq) _ hheap X'
      exact ⟨t, step t a9, b9⟩
    · cases h
  · cases h
theorem xs_sw {df lo hi : Int} {offs : Array Int} {len : Nat} (hx : p.tables.exec = Jvm.exec) (hb : c.code = cc) (hd : decode cc pc = .ok (.tableswitch df lo hi offs, len)) {v : XVI} {S' : List XV} (h : xsw pc L S' E Hx n ce sl v df lo hi offs.toList = some o) (hk : XOk p l e R s m args below meth c Q G D nL Rt o) : XWin p l e R s m args below meth c Q G D nL (pc, L, .inl v :: S', E, Hx, n, ce, sl) := by
  intro ls st H locs hL hS hE hW hl hf
  obtain ⟨w1, st1, rfl, ⟨i, rfl, hi1⟩, h2⟩ := XSok_cons hS
  obtain ⟨a, b, r1, r2, r3⟩ := xrng_ok hE hi1
  unfold xsw at h
  rw [r3] at h
  cases e0 : (xlt b lo || xlt hi a)
  · rw [e0, cond_false] at h
    rw [Bool.or_eq_false_iff] at e0
    have e1 := xlt_f e0.1
    have e2 := xlt_f e0.2
    cases e3 : xeq a b
    · rw [e3, cond_false] at h
      cases e4 : xlt a lo
      · rw [e4, cond_false, fI_eq] at h
        exact xs_split (f := fun z => z :: S') h hk rfl hi1 r1 r2 hL (fun w hw => ⟨hw, h2⟩) hE hW hl hf
      · rw [e4, cond_true, fI_eq] at h
        exact xs_split (f := fun z => z :: S') h hk (by omega) hi1 r1 r2 hL (fun w hw => ⟨hw, h2⟩) hE hW hl hf
    · rw [e3, cond_true, fI_eq] at h
      have e3 := (xeq_iff _ _).mp e3
      split at h
      · cases h
      · rename_i j hj
        split at h
        · cases h
        · rename_i of ho
          rw [fI_eq] at h
          split at h
          · rename_i t ht
            rw [xnth_eq] at ho
            have zj : Int.ofNat j = (j : Int) := rfl
            have zt : Int.ofNat t = (t : Int) := rfl
            refine lv_tableIn (off := of) (tgt := t) hx hb hd (by omega) (by omega) ?_ (by omega) (xgo_win h hk ls st1 H locs hL h2 hE hW hl hf)
            rw [← Array.getElem?_toList, show (i.toInt - lo).toNat = j by omega]
            exact ho
          · cases h
  · rw [e0, cond_true, fI_eq] at h
    rw [Bool.or_eq_true, xlt_iff, xlt_iff] at e0
    split at h
    · rename_i t ht
      have zt : Int.ofNat t = (t : Int) := rfl
      exact lv_tableOut (tgt := t) hx hb hd (by omega) (by omega) (xgo_win h hk ls st1 H locs hL h2 hE hW hl hf)
    · cases h
end XQ4
