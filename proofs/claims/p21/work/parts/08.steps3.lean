theorem vr_outer (c : ClassId) (N h0 : Nat) : ∀ i : Nat, Jvm.Free.Multi.outerC c N h0 i = arrV c N (fun j => va_rf (if j < i then some (h0 + 1 + j) else none))
  | 0 => by
    show ({ cls := c, slots := Array.replicate N .null, vm := .none } : Cell) = _
    rw [arrV_new]
    refine congrArg (arrV c N) (funext fun j => ?_)
    simp [va_rf]
  | i + 1 => by
    show (Jvm.Free.Multi.outerC c N h0 i).setSlot i (.ref (h0 + 1 + i)) = _
    rw [vr_outer c N h0 i, arrV_store]
    refine congrArg (arrV c N) (funext fun j => ?_)
    by_cases e : j = i
    · subst e
      simp [updV, va_rf]
    · by_cases h : j < i
      · simp [updV, e, h, Nat.lt_succ_of_lt h]
      · simp [updV, e, h, show ¬ j < i + 1 by omega]
theorem xqsame {C n d : String} {s : State} : ∀ x, s.fieldFound? C n d = some x → s.fieldFound? C n d = some x := fun _ h => h
section XQ3
variable {p : Program} {l : Launch} {e : Env} {R : Room} {s : State} {m : MethodId} {args : Array Value} {below : List Frame} {meth : Method} {c : Code} {Q : State → Prop} {G : XG} {D : va_G} {nL : Nat}
variable {Rt : XRt → Prop} {o : XS ⊕ (List XS ⊕ XRt)} {cc : ByteArray} {pc nx : Nat} {L : XLc} {S : List XV} {E : XE} {Hx : XH} {n ce sl : Nat} {own : String}
theorem xs_gf (hx : p.tables.exec = Jvm.exec) (hb : c.code = cc) (hown : s.vm.findClass own = some m.cls) (hts : ∀ w ∈ xqgw, w.before args s = true) (GL : XGl G D s) {r1 r2 index : Nat} {q : vw_C} (hq : xqcls[r1]? = some q) (hr2 : r2 < q.2.2) (hlink : (Cond.fieldLink own index (q.2.1 r2).1 (q.2.1 r2).2.1 (q.2.1 r2).2.2.1) ∈ xqgw) (hd : decode cc pc = .ok (.getfield index, 3)) (hn : nx = pc + 3) (h : xgf nx L S E Hx n ce sl r1 r2 = some o) (hk : XOk p l e R s m args below meth c Q G D nL Rt o) : XWin p l e R s m args below meth c Q G D nL (pc, L, S, E, Hx, n, ce, sl) := by
  subst hn
  intro ls st H locs hL hS hE hW hl hf
  obtain ⟨ty, t1, t2, t3, t4, t5, t6, t7⟩ := xqc_ok hq
  unfold xgf at h
  split at h
  · rename_i a S'
    obtain ⟨w1, st1, rfl, h1, h2⟩ := XSok_cons hS
    have h1' : w1 = .ref (G.1 + a) := h1
    subst h1'
    split at h
    · rename_i ci fs hg
      cases e0 : Nat.beq ci r1
      · rw [e0] at h; cases h
      rw [e0, cond_true] at h
      have e0 := Nat.eq_of_beq_eq_true e0
      subst e0
      split at h
      · rename_i v hv
        rw [xnth_eq] at hv
        obtain ⟨vs, g1, g2, g3⟩ := hW.2 _ _ hg
        obtain ⟨w, g4, g5⟩ := g2 r2 v hv
        have hP : va_P D xqcls [(G.1 + a, .inr (ci, vs))] H := fun k x hk => by
          cases k with
          | zero => cases hk; exact g3
          | succ k => simp at hk
        obtain ⟨C, T, N⟩ := q
        exact va_get hx hb hts t3 hown (tys := []) ⟨GL.1, fun k x h => by simp at h⟩ hP 0 rfl hq r2 hr2 (hts _ hlink) (fun _ h => h) g4 hd (xgo_win h hk ls _ H locs hL ⟨g5, h2⟩ hE hW hl hf)
      · cases h
    · cases h
  · cases h
theorem xs_pf (hx : p.tables.exec = Jvm.exec) (hb : c.code = cc) (hown : s.vm.findClass own = some m.cls) (hts : ∀ w ∈ xqgw, w.before args s = true) (GL : XGl G D s) {r1 r2 index : Nat} {q : vw_C} (hq : xqcls[r1]? = some q) (hr2 : r2 < 30) (hlink : (Cond.fieldLink own index (q.2.1 r2).1 (q.2.1 r2).2.1 (q.2.1 r2).2.2.1) ∈ xqgw) (hfin : (q.2.1 r2).2.2.2 = false ∨ (meth.name = "<init>" ∧ (q.2.1 r2).1 = own)) (hd : decode cc pc = .ok (.putfield index, 3)) (hn : nx = pc + 3) (h : xpf nx L S E Hx n ce sl r1 r2 = some o) (hk : XOk p l e R s m args below meth c Q G D nL Rt o) : XWin p l e R s m args below meth c Q G D nL (pc, L, S, E, Hx, n, ce, sl) := by
  subst hn
  intro ls st H locs hL hS hE hW hl hf
  obtain ⟨ty, t1, t2, t3, t4, t5, t6, t7⟩ := xqc_ok hq
  unfold xpf at h
  split at h
  · rename_i v a S'
    obtain ⟨w, st0, rfl, h0, h0'⟩ := XSok_cons hS
    obtain ⟨w1, st1, rfl, h1, h2⟩ := XSok_cons h0'
    have h1' : w1 = .ref (G.1 + a) := h1
    subst h1'
    split at h
    · rename_i ci fs hg
      cases e0 : (Nat.beq ci r1 && xfits E (xqkind r1 r2) v && Nat.blt r2 (xlen fs))
      · rw [e0] at h; cases h
      rw [e0, cond_true] at h
      rw [Bool.and_eq_true, Bool.and_eq_true, xlen_eq] at e0
      obtain ⟨⟨e1, e2⟩, e3⟩ := e0
      have e1 := Nat.eq_of_beq_eq_true e1
      subst e1
      have e3 : r2 < fs.length := Nat.blt_eq.mp e3
      rw [xset_eq] at h
      obtain ⟨H', q1, q2⟩ := hset_ok Hx a (.inl (ci, fs.set r2 v))
      rw [q1] at h
      obtain ⟨vs, g1, g2, r, hr, cell, y1, y2, y3, y4⟩ := hW.2 _ _ hg
      dsimp only at g1 g2 hr y1 y2 y4
      have hr : r = q := Option.some.inj (hr.symm.trans hq)
      subst hr
      obtain ⟨C, T, N⟩ := r
      -- the value fits the field
      have hty : xqkind ci r2 ≠ 9 ∧ narrow (ty r2) w = w ∧ fits (ty r2) w = true := by
        have key : xqkind ci r2 ≠ 9 → xtk (ty r2) = xqkind ci r2 → narrow (ty r2) w = w ∧ fits (ty r2) w = true := by
          intro k9 kk
          unfold xfits at e2
          split at e2
          · rename_i u
            obtain ⟨i, rfl, hi⟩ := h0
            cases z0 : Nat.beq (xqkind ci r2) 0
            · rw [z0, cond_false] at e2
              cases z1 : Nat.beq (xqkind ci r2) 1
              · rw [z1] at e2; cases e2
              · rw [z1, cond_true] at e2
                have z1 := Nat.eq_of_beq_eq_true z1
                rw [z1] at kk
                obtain ⟨pp, qq, u1, u2, u3⟩ := xrng_ok hE hi
                rw [u3, Bool.and_eq_true, xle_iff, xle_iff] at e2
                have hb : ty r2 = .boolean := by
                  cases hz : ty r2 <;> rw [hz] at kk <;> first | rfl | (exact absurd kk (by simp [xtk]))
                rw [hb]
                exact ⟨xnarz (by omega) (by omega), xfitz (by omega) (by omega)⟩
            · have z0 := Nat.eq_of_beq_eq_true z0
              rw [z0] at kk
              have hb : ty r2 = .int := by
                cases hz : ty r2 <;> rw [hz] at kk <;> first | rfl | (exact absurd kk (by simp [xtk]))
              rw [hb]
              exact ⟨rfl, rfl⟩
          · obtain ⟨i, rfl, hi⟩ := h0
            have z0 := Nat.eq_of_beq_eq_true e2
            rw [z0] at kk
            have hb : ty r2 = .long := by
              cases hz : ty r2 <;> rw [hz] at kk <;> first | rfl | (exact absurd kk (by simp [xtk]))
            rw [hb]
            exact ⟨rfl, rfl⟩
          · rename_i r
            have z0 := Nat.eq_of_beq_eq_true e2
            rw [z0] at kk
            have hb : (∃ n, ty r2 = .object n) ∨ ∃ t, ty r2 = .array t := by
              cases hz : ty r2 <;> rw [hz] at kk <;> first | exact Or.inl ⟨_, rfl⟩ | exact Or.inr ⟨_, rfl⟩ | (exact absurd kk (by simp [xtk]))
            have hw : w = .null ∨ ∃ a, w = .ref a := by
              cases r with
              | none => exact Or.inl h0
              | some a => exact Or.inr ⟨_, h0⟩
            rcases hb with ⟨n, hb⟩ | ⟨t, hb⟩ <;> rw [hb] <;> rcases hw with rfl | ⟨a, rfl⟩ <;> exact ⟨rfl, rfl⟩
          · cases e2
        have k9 : xqkind ci r2 ≠ 9 := by
          intro z
          rw [z] at e2
          unfold xfits at e2
          split at e2 <;> simp at e2
        exact ⟨k9, key k9 (t4 r2 hr2 k9).2⟩
      obtain ⟨k9, hnar, hfit⟩ := hty
      have hkN := (t4 r2 hr2 k9).1
      have hdd := t1 r2 hkN
      have hK : va_K D xqcls [] s := ⟨GL.1, fun k x h => by simp at h⟩
      have hap := va_apart (own := own) hts t3 ty t1 t2 hK hq
      obtain ⟨hSl, hfc, kC, hkC, hkind⟩ := hK.1 ci _ hq
      obtain ⟨cf, kf, fi, f, hi, hsl⟩ := hSl r2 hkN
      have hst := (u_facts hfc hkC (u_lays hts t3 hkN) hi).1
      have done : ∀ H1 : Heap, H1[G.1 + a]? = some (cell.setSlot f.slot w) → H1.size = H.size → (∀ q, q ≠ G.1 + a → H1[q]? = H[q]?) → W p l e R s m args below meth c H1 (locs ++ [⟨G.1 + a, f.slot⟩]) ce sl Q (F0 m (pc + 3) ls st1) := by
        intro H1 e1 z oq
        rw [hsl] at e1
        refine xgo_win h hk ls st1 H1 _ hL h2 hE (hW.put q2 z oq ?_) (xlocs1 hl) (fun q hq => by rw [oq q (by omega)]; exact hf q hq)
        refine ⟨vs.set r2 w, by rw [List.length_set]; exact g1.trans (List.length_set).symm, fun j x hx => ?_, ⟨_, hq, t_OB.to (V := updV (vp_V vs) r2 w) ⟨_, e1, y2, y3, t_set y4 hap hkN w⟩ (fun j _ => vp_updV_set (by omega) w j)⟩⟩
        dsimp only at hx
        rw [List.getElem?_set] at hx
        by_cases ej : r2 = j
        · subst ej
          rw [if_pos rfl] at hx
          split at hx
          · cases hx
            exact ⟨w, by rw [List.getElem?_set_self (by omega)], h0⟩
          · exact absurd e3 (by assumption)
        · rw [if_neg ej] at hx
          obtain ⟨w', b1, b2⟩ := g2 j x hx
          exact ⟨w', by rw [List.getElem?_set_ne ej]; exact b1, b2⟩
      have hlay := hts _ (t3 _ (u_in_lay hkN))
      unfold u_lay at hlay
      cases hfl : (T r2).2.2.2
      · rw [if_neg (by rw [hfl]; decide)] at hlay
        have h6 := u_store hfc hkC hkind hlay hi hdd hnar hfit
        refine W.putK hx hb (f := f) ⟨hown, hts _ hlink, ⟨_, _, _, hi⟩, hst⟩ (by rw [y2]; exact h6) y1 y3 (by rw [hsl]; exact k2_hasslot (y4 r2 hkN)) rfl rfl hd done
      · rw [if_pos hfl] at hlay
        rcases hfin with z | ⟨hin2, hdecl⟩
        · dsimp only at z; rw [hfl] at z; cases z
        dsimp only at hdecl
        have hcf : m.cls = cf := by
          obtain ⟨_, _, c', _, _, _, -, -, hf', -, -, -, hown2, -⟩ := Cond.laysFinal_spec hlay
          have e1 : c' = cf := by have := hi.symm.trans hf'; simp at this; exact this.1.symm
          rw [hdecl] at hown2
          rw [← e1]; exact Option.some.inj (hown.symm.trans hown2)
        have h6 := u_fits hfc hkC hkind (Or.inr hlay) hi hdd hnar hfit
        exact W.putFinK hx hb hown (hts _ hlink) hi hst hcf hin2 (by rw [y2]; exact h6) y1 y3 (by rw [hsl]; exact k2_hasslot (y4 r2 hkN)) rfl rfl hd done
    · cases h
  · cases h
theorem xnew_k {mc ms sz : Nat} {x : XC} {S' : List XV} (h : xnew mc ms nx L S' E Hx n ce sl sz x = some o) (hk : XOk p l e R s m args below meth c Q G D nL Rt o) : ce + 1 ≤ mc ∧ sl + sz ≤ ms ∧ ∃ H' : XH, (∀ (b : Nat) (c : XC), hget H' b = some c → (b = n ∧ c = x) ∨ hget Hx b = some c) ∧ XWin p l e R s m args below meth c Q G D nL (nx, L, .inr (.inr (.inl (some n))) :: S', E, H', n + 1, ce + 1, sl + sz) := by
  unfold xnew at h
  rw [fN_eq, fN_eq] at h
  cases e0 : (Nat.ble (Nat.succ ce) mc && Nat.ble (sl + sz) ms)
  · rw [e0] at h; cases h
  rw [e0, cond_true] at h
  rw [Bool.and_eq_true, Nat.ble_eq, Nat.ble_eq] at e0
  rcases hpush_ok Hx n x with q | ⟨H', q1, q2⟩
  · rw [q] at h; cases h
  · rw [q1, fN_eq] at h
    exact ⟨e0.1, e0.2, H', q2, xgo_win h hk⟩
theorem xs_new (hx : p.tables.exec = Jvm.exec) (hb : c.code = cc) (hown : s.vm.findClass own = some m.cls) (hts : ∀ w ∈ xqgw, w.before args s = true) (GL : XGl G D s) {mc ms r1 index : Nat} (hmc : mc ≤ R.cells) (hms : ms ≤ R.slots) {q : vw_C} (hq : xqcls[r1]? = some q) (hcl : Cond.classLink own index q.1 ∈ xqgw) (hinst : Cond.instantiable q.1 q.2.2 ∈ xqgw) (hini : Cond.initialized q.1 ∈ xqgw) (hd : decode cc pc = .ok (.new index, 3)) (hn : nx = pc + 3) (h : xnew mc ms nx L S E Hx n ce sl q.2.2 (.inl (r1, xqdef r1)) = some o) (hk : XOk p l e R s m args below meth c Q G D nL Rt o) : XWin p l e R s m args below meth c Q G D nL (pc, L, S, E, Hx, n, ce, sl) := by
  subst hn
  obtain ⟨a1, a2, H', q2, hw⟩ := xnew_k h hk
  intro ls st H locs hL hS hE hW hl hf
  obtain ⟨ty, t1, t2, t3, t4, t5, t6, t7⟩ := xqc_ok hq
  obtain ⟨C, T, N⟩ := q
  have hKn := GL.1 r1 _ hq
  refine W.newcK hx hb hown (hts _ hcl) (hts _ hinst) (hts _ hini) rfl hd (show ce + 1 ≤ R.cells by omega) (show sl + N ≤ R.slots from Nat.le_trans a2 hms) hKn.2.1 rfl fun H1 kC hkC e1 z1 o1 => ?_
  have hsz : H.size = G.1 + n := hW.1
  have hat : va_at D xqcls (G.1 + n, .inr (r1, xqdv r1)) H1 := ⟨_, hq, (u_born ty hts t3 hKn hkC (by rw [← hsz]; exact e1) t1).to t5⟩
  refine hw ls (.ref H.size :: st) H1 locs hL ⟨by show Value.ref H.size = .ref (G.1 + n); rw [hsz], hS⟩ hE (hW.push q2 z1 o1 ⟨xqdv r1, by unfold xqdv; rw [List.length_map], xqdv_ok r1, hat⟩) hl (fun q hq => ?_)
  rw [o1 q (by omega)]
  exact hf q hq
theorem xs_newa {mc ms ty : Nat} {d : XV} {wd : Value} (hdv : XVok G d wd) (hn : nx = pc + 2 ∨ nx = pc + 3) (h : xnewa mc ms nx L S E Hx n ce sl ty d = some o) (hk : XOk p l e R s m args below meth c Q G D nL Rt o)
    (row : ∀ (H : Heap) (locs : List Loc) (ls : Array Slot) (st : List Value) (i : Int32) (N : Nat), ¬ i < 0 → i.toNatClampNeg = N → N ≤ 10000 → ce + 1 ≤ mc → sl + N ≤ ms → (∀ (H' : Heap) (cA : ClassId), H'[H.size]? = some (arrV cA N (fun _ => wd)) → H'.size = H.size + 1 → (∀ q, q < H.size → H'[q]? = H[q]?) → ArrOfT s cA (xqty ty) → va_RA s cA (xqty ty) → W p l e R s m args below meth c H' locs (ce + 1) (sl + N) Q (F0 m nx ls (.ref H.size :: st))) → W p l e R s m args below meth c H locs ce sl Q (F0 m pc ls (.int i :: st))) : XWin p l e R s m args below meth c Q G D nL (pc, L, S, E, Hx, n, ce, sl) := by
  intro ls st H locs hL hS hE hW hl hf
  unfold xnewa at h
  split at h
  · rename_i v S'
    obtain ⟨w, st0, rfl, ⟨i, rfl, hi⟩, h2⟩ := XSok_cons hS
    obtain ⟨lo, hi', r1, r2, r3⟩ := xrng_ok hE hi
    rw [r3] at h
    cases e4 : xeq lo hi'
    · rw [e4] at h; cases h
    rw [e4, cond_true] at h
    replace e4 := (xeq_iff _ _).mp e4
    split at h
    rotate_left
    · cases h
    rename_i N
    cases e5 : Nat.ble N 10000
    · rw [e5] at h; cases h
    rw [e5, cond_true] at h
    have e5 := Nat.ble_eq.mp e5
    obtain ⟨a1, a2, H', q2, hw⟩ := xnew_k h hk
    have z : Int.ofNat N = (N : Int) := rfl
    have hsz : H.size = G.1 + n := hW.1
    refine row H locs ls st0 i N (fun q => ?_) (xclamp (by omega)) e5 a1 a2 fun H1 cA b1 b2 b3 b4 b5 => ?_
    · have := Int32.lt_iff_toInt_lt.mp q
      have e : (0 : Int32).toInt = 0 := rfl
      omega
    · refine hw ls (.ref H.size :: st0) H1 locs hL ⟨by show Value.ref H.size = .ref (G.1 + n); rw [hsz], h2⟩ hE (hW.push q2 b2 b3 ⟨cA, fun _ => wd, by rw [← hsz]; exact b1, b4, b5, fun j hj => hdv⟩) hl (fun q hq => ?_)
      rw [b3 q (by omega)]
      exact hf q hq
  · cases h
theorem xs_min (hx : p.tables.exec = Jvm.exec) (hb : c.code = cc) (hml : c.maxLocals = nL) (hown : s.vm.findClass own = some m.cls) (hts : ∀ w ∈ xqgw, w.before args s = true) {index : Nat} (hlink : Cond.methodLink own index Lib.Math.min.name ∈ xqgw) (hfr : 1 ≤ R.frames) (hlo : 30 ≤ R.locals) {mc ms : Nat} (hmc : mc ≤ R.cells) (hms : ms ≤ R.slots) (hstat : Cond.static Lib.Math.min.name ∈ xqgw) (hini : Cond.initialized "java/lang/Math" ∈ xqgw) (hcode : Cond.code Lib.Math.min.name Lib.Math.min.code 2 (some .int) ∈ xqgw) (hd : decode cc pc = .ok (.invokestatic index, 3)) (hn : nx = pc + 3) (h : xmin2 mc ms nx L S E Hx n ce sl = some o) (hk : XOk p l e R s m args below meth c Q G D nL Rt o) : XWin p l e R s m args below meth c Q G D nL (pc, L, S, E, Hx, n, ce, sl) := by
  subst hn
  intro ls st H locs hL hS hE hW hl hf
  unfold xmin2 at h
  split at h
  · rename_i y x S'
    obtain ⟨w1, st1, rfl, ⟨j, rfl, hj⟩, h2⟩ := XSok_cons hS
    obtain ⟨w2, st2, rfl, ⟨i, rfl, hi⟩, h4⟩ := XSok_cons h2
    obtain ⟨a, b, r1, r2, r3⟩ := xrng_ok hE hi
    obtain ⟨c', d', t1, t2, t3⟩ := xrng_ok hE hj
    rw [r3, t3] at h
    cases e0 : (xeq a b && xeq c' d' && Nat.ble (xcat S') 8 && Nat.ble ce mc && Nat.ble sl ms)
    · rw [e0] at h; cases h
    rw [e0, cond_true] at h
    rw [Bool.and_eq_true, Bool.and_eq_true, Bool.and_eq_true, Bool.and_eq_true, xeq_iff, xeq_iff, Nat.ble_eq, Nat.ble_eq, Nat.ble_eq] at e0
    refine va_mmin hx hb (hml.trans hL.1.symm) hown (hts _ hlink) (hts _ hstat) (hts _ hini) (hts _ hcode) hfr (by rw [XScat h4]; omega) (show ce ≤ R.cells by omega) (show sl ≤ R.slots by omega) hd ?_
    cases e1 : xlt c' a
    · rw [e1, cond_false] at h
      have e1 := xlt_f e1
      rw [if_neg (by rw [Int32.lt_iff_toInt_lt]; omega)]
      refine xgo_win h hk ls _ H locs hL ⟨⟨i, rfl, ?_⟩, h4⟩ hE hW hl hf
      have : i.toInt = a := by omega
      rw [this]
      exact xk_ok _ _
    · rw [e1, cond_true] at h
      have e1 := (xlt_iff _ _).mp e1
      rw [if_pos (by rw [Int32.lt_iff_toInt_lt]; omega)]
      refine xgo_win h hk ls _ H locs hL ⟨⟨j, rfl, ?_⟩, h4⟩ hE hW hl hf
      have : j.toInt = c' := by omega
      rw [this]
      exact xk_ok _ _
  · cases h
end XQ3
