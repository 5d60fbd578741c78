theorem xidx {i : Int32} {n : Nat} (h1 : 0 ≤ i.toInt) (h2 : i.toInt < (n : Int)) : ¬ (i < 0 ∨ n ≤ i.toNatClampNeg) := by
  rintro (q | q)
  · have := Int32.lt_iff_toInt_lt.mp q
    have e : (0 : Int32).toInt = 0 := rfl
    omega
  · have e : i.toNatClampNeg = i.toInt.toNat := rfl
    omega
theorem xclamp {i : Int32} {j : Nat} (h : i.toInt = (j : Int)) : i.toNatClampNeg = j := by
  have e : i.toNatClampNeg = i.toInt.toNat := rfl
  omega
theorem xnarz {x : Int32} (h1 : 0 ≤ x.toInt) (h2 : x.toInt ≤ 1) : narrow .boolean (.int x) = .int x := by
  have : x = 0 ∨ x = 1 := by
    by_cases h : x.toInt = 0
    · exact Or.inl (Int32.toInt_inj.mp h)
    · exact Or.inr (Int32.toInt_inj.mp (by have e : (1 : Int32).toInt = 1 := rfl; omega))
  rcases this with rfl | rfl <;> rfl
theorem xfitz {x : Int32} (h1 : 0 ≤ x.toInt) (h2 : x.toInt ≤ 1) : fits .boolean (.int x) = true := by
  have : x = 0 ∨ x = 1 := by
    by_cases h : x.toInt = 0
    · exact Or.inl (Int32.toInt_inj.mp h)
    · exact Or.inr (Int32.toInt_inj.mp (by have e : (1 : Int32).toInt = 1 := rfl; omega))
  rcases this with rfl | rfl <;> rfl
theorem xqin0 : ∀ w ∈ u_ws RX0 TX0 9, w ∈ xqgw := by decide +kernel
theorem xqin1 : ∀ w ∈ u_ws RX1 TX1 2, w ∈ xqgw := by decide +kernel
theorem xqin2 : ∀ w ∈ u_ws RX2 TX2 8, w ∈ xqgw := by decide +kernel
theorem xqin3 : ∀ w ∈ u_ws RX3 TX3 10, w ∈ xqgw := by decide +kernel
theorem xqin4 : ∀ w ∈ u_ws RX4 TX4 14, w ∈ xqgw := by decide +kernel
theorem xqin5 : ∀ w ∈ u_ws RX5 TX5 25, w ∈ xqgw := by decide +kernel
def xtk (t : FieldType) : Nat := match t with
  | .int => 0
  | .boolean => 1
  | .object _ => 2
  | .array _ => 2
  | .long => 3
  | _ => 8
def xqdvf (x : XV) : Value := match x with
  | .inl _ => .int 0
  | .inr (.inl _) => .long 0
  | _ => .null
def xqdv (c : Nat) : List Value := (xqdef c).map xqdvf
/-- what the tables say of a class -/
theorem xqc_ok {c : Nat} {q : vw_C} (h : xqcls[c]? = some q) : ∃ ty : Nat → FieldType, (∀ k, k < q.2.2 → parseFieldDescriptor (q.2.1 k).2.2.1 = some (ty k)) ∧ (∀ a, a < q.2.2 → ∀ b, b < q.2.2 → a ≠ b → (q.2.1 a).2.1 ≠ (q.2.1 b).2.1) ∧ (∀ w ∈ u_ws q.1 q.2.1 q.2.2, w ∈ xqgw) ∧ (∀ k, k < 30 → xqkind c k ≠ 9 → k < q.2.2 ∧ xtk (ty k) = xqkind c k) ∧ (∀ j, j < q.2.2 → defaultValue (ty j) = vp_V (xqdv c) j) ∧ (xqdef c).length = q.2.2 ∧ q.2.2 ≤ 25 := by
  match c, h with
  | 0, h => cases h; exact ⟨tyX0, tyX0_ok, nmX0, xqin0, by decide +kernel, by decide +kernel, rfl, by decide⟩
  | 1, h => cases h; exact ⟨tyX1, tyX1_ok, nmX1, xqin1, by decide +kernel, by decide +kernel, rfl, by decide⟩
  | 2, h => cases h; exact ⟨tyX2, tyX2_ok, nmX2, xqin2, by decide +kernel, by decide +kernel, rfl, by decide⟩
  | 3, h => cases h; exact ⟨tyX3, tyX3_ok, nmX3, xqin3, by decide +kernel, by decide +kernel, rfl, by decide⟩
  | 4, h => cases h; exact ⟨tyX4, tyX4_ok, nmX4, xqin4, by decide +kernel, by decide +kernel, rfl, by decide⟩
  | 5, h => cases h; exact ⟨tyX5, tyX5_ok, nmX5, xqin5, by decide +kernel, by decide +kernel, rfl, by decide⟩
  | n + 6, h => simp [xqcls] at h
def xqdk (x : XV) : Bool := match x with
  | .inl (a, b, t, _) => xeq a 0 && xeq b 0 && Nat.beq t 0
  | .inr (.inl (a, b)) => xeq a 0 && xeq b 0
  | .inr (.inr (.inl none)) => true
  | _ => false
theorem xqdk_ok {G : XG} {x : XV} (h : xqdk x = true) : XVok G x (xqdvf x) := by
  unfold xqdk at h
  split at h
  · rename_i a b t o
    rw [Bool.and_eq_true, Bool.and_eq_true, xeq_iff, xeq_iff] at h
    obtain ⟨⟨rfl, rfl⟩, ht⟩ := h
    have ht := Nat.eq_of_beq_eq_true ht
    subst ht
    exact ⟨0, rfl, xk_ok 0 o⟩
  · rename_i a b
    rw [Bool.and_eq_true, xeq_iff, xeq_iff] at h
    obtain ⟨rfl, rfl⟩ := h
    exact ⟨0, rfl, Int.le_refl _, Int.le_refl _⟩
  · rfl
  · cases h
theorem xqdv_ok {G : XG} (c : Nat) : ∀ (j : Nat) (x : XV), (xqdef c)[j]? = some x → ∃ w, (xqdv c)[j]? = some w ∧ XVok G x w := by
  intro j x hx
  refine ⟨xqdvf x, by unfold xqdv; rw [List.getElem?_map, hx]; rfl, xqdk_ok ?_⟩
  have key : ∀ c : Nat, (xqdef c).all xqdk = true := by
    intro c
    match c with
    | 0 => rfl
    | 1 => rfl
    | 2 => rfl
    | 3 => rfl
    | 4 => rfl
    | n + 5 => rfl
  exact List.all_eq_true.mp (key c) x (List.mem_of_getElem? hx)
section XQ2
variable {p : Program} {l : Launch} {e : Env} {R : Room} {s : State} {m : MethodId} {args : Array Value} {below : List Frame} {meth : Method} {c : Code} {Q : State → Prop} {G : XG} {D : va_G} {nL : Nat}
variable {Rt : XRt → Prop} {o : XS ⊕ (List XS ⊕ XRt)} {cc : ByteArray} {pc nx : Nat} {L : XLc} {S : List XV} {E : XE} {Hx : XH} {n ce sl : Nat}
theorem xs_split {f : XV → List XV} {v : XVI} {a k k1 b : Int} (h : xsplit pc L f E Hx n ce sl v a k k1 b = some o) (hk : XOk p l e R s m args below meth c Q G D nL Rt o) (hc : k1 = k + 1) {i : Int32} (hv : XIok G.2.2 v i.toInt) (ha : a ≤ i.toInt) (hb : i.toInt ≤ b) {ls : Array Slot} {st : List Value} {H : Heap} {locs : List Loc} (hL : XLok G L ls nL) (hS : ∀ w, XVok G w (.int i) → XSok G (f w) st) (hE : XEok G.2.2 E) (hW : XWok G D s Hx n H) (hl : ∀ q ∈ locs, G.1 ≤ q.base) (hf : ∀ q : Nat, q < G.1 → H[q]? = s.heap[q]?) : W p l e R s m args below meth c H locs ce sl Q (F0 m pc ls st) := by
  obtain ⟨E1, q1, r1⟩ := xref_ok (ρ := G.2.2) E v a k
  obtain ⟨E2, q2, r2⟩ := xref_ok (ρ := G.2.2) E v k1 b
  unfold xsplit at h
  rw [q1, q2] at h
  cases h
  have hk : ∀ y ∈ [(pc, L, f (.inl (a, k, v.2.2)), E1, Hx, n, ce, sl), (pc, L, f (.inl (k1, b, v.2.2)), E2, Hx, n, ce, sl)], XWin p l e R s m args below meth c Q G D nL y := hk
  by_cases hi : i.toInt ≤ k
  · exact hk _ List.mem_cons_self ls st H locs hL (hS _ ⟨i, rfl, ha, hi, hv.2.2⟩) (r1 _ hE hv ha hi) hW hl hf
  · exact hk _ (List.mem_cons_of_mem _ List.mem_cons_self) ls st H locs hL (hS _ ⟨i, rfl, by show k1 ≤ _; omega, hb, hv.2.2⟩) (r2 _ hE hv (by omega) hb) hW hl hf
theorem xald_row (hx : p.tables.exec = Jvm.exec) (hb : c.code = cc) {kd ty len a : Nat} {cA : ClassId} {f : Nat → Value} {H : Heap} {locs : List Loc} {ls : Array Slot} {st : List Value} {i : Int32} (hd : (kd = 0 ∧ decode cc pc = .ok (.iaload, 1)) ∨ (kd = 1 ∧ decode cc pc = .ok (.baload, 1)) ∨ (kd = 2 ∧ decode cc pc = .ok (.aaload, 1))) (ht : (bif Nat.beq kd 2 then Nat.ble 2 ty else Nat.beq kd ty) = true) (hcell : H[a]? = some (arrV cA len f)) (harr : ArrOfT s cA (xqty ty)) (h1 : 0 ≤ i.toInt) (h2 : i.toInt < (len : Int))
    (kk : W p l e R s m args below meth c H locs ce sl Q (F0 m (pc + 1) ls (f i.toNatClampNeg :: st))) : W p l e R s m args below meth c H locs ce sl Q (F0 m pc ls (.int i :: .ref a :: st)) := by
  have hin := xidx h1 h2
  have hlt : i.toNatClampNeg < len := Nat.not_le.mp fun q => hin (Or.inr q)
  have hin' : ¬ (i < 0 ∨ (arrV cA len f).slots.size ≤ i.toNatClampNeg) := by rw [arrV_size]; exact hin
  have hv : (arrV cA len f).slots[i.toNatClampNeg]? = some (f i.toNatClampNeg) := arrV_read _ _ hlt
  rcases hd with ⟨rfl, hd⟩ | ⟨rfl, hd⟩ | ⟨rfl, hd⟩
  · have ht : ty = 0 := (Nat.eq_of_beq_eq_true ht).symm
    subst ht
    exact W.iald (v := f i.toNatClampNeg) hx hb hcell (harr len f) (fun q => by cases q) hin' hv rfl rfl hd kk
  · have ht : ty = 1 := (Nat.eq_of_beq_eq_true ht).symm
    subst ht
    exact W.zald (v := f i.toNatClampNeg) hx hb hcell (harr len f) (fun q => by cases q) hin' hv rfl rfl hd kk
  · have ht : 2 ≤ ty := Nat.ble_eq.mp ht
    refine W.aald (v := f i.toNatClampNeg) (ty := xqty ty) hx hb hcell (harr len f) ?_ (fun q => by cases q) hin' hv rfl rfl hd kk
    unfold xqty
    split <;> first | rfl | omega
theorem xs_ald (hx : p.tables.exec = Jvm.exec) (hb : c.code = cc) (GL : XGl G D s) {kd : Nat} (hd : (kd = 0 ∧ decode cc pc = .ok (.iaload, 1)) ∨ (kd = 1 ∧ decode cc pc = .ok (.baload, 1)) ∨ (kd = 2 ∧ decode cc pc = .ok (.aaload, 1))) (hn : nx = pc + 1) (h : xald nx pc L S E Hx n ce sl kd = some o) (hk : XOk p l e R s m args below meth c Q G D nL Rt o) : XWin p l e R s m args below meth c Q G D nL (pc, L, S, E, Hx, n, ce, sl) := by
  subst hn
  intro ls st H locs hL hS hE hW hl hf
  unfold xald at h
  split at h
  · rename_i v a S'
    obtain ⟨w1, st1, rfl, h1, h2⟩ := XSok_cons hS
    obtain ⟨w2, st2, rfl, h3, h4⟩ := XSok_cons h2
    obtain ⟨i, rfl, hi⟩ := h1
    have h3' : w2 = .ref (G.1 + a) := h3
    subst h3'
    split at h
    · rename_i ty len d ov hg
      obtain ⟨cA, f, g1, g2, g3, g4⟩ := hW.2 _ _ hg
      dsimp only at g1 g2 g4
      obtain ⟨lo, hi', r1, r2, r3⟩ := xrng_ok hE hi
      rw [r3] at h
      cases e0 : ((bif Nat.beq kd 2 then Nat.ble 2 ty else Nat.beq kd ty) && xle 0 lo && xlt hi' (.ofNat len))
      · rw [e0] at h; cases h
      rw [e0, cond_true] at h
      rw [Bool.and_eq_true, Bool.and_eq_true, xle_iff, xlt_iff] at e0
      obtain ⟨⟨e1, e2⟩, e3⟩ := e0
      have e3 : hi' < (len : Int) := e3
      have hlt : i.toNatClampNeg < len := Nat.not_le.mp fun q => xidx (by omega) (by omega) (Or.inr q)
      split at h
      · exact xald_row hx hb hd e1 g1 g2 (by omega) (by omega) (xgo_win h hk ls _ H locs hL ⟨g4 _ hlt, h4⟩ hE hW hl hf)
      · rename_i q0 ov'
        cases e4 : xeq lo hi'
        · rw [e4, cond_false, fI_eq] at h
          exact xs_split h hk rfl hi r1 r2 hL (fun w hw => ⟨hw, h3, h4⟩) hE hW hl hf
        · rw [e4, cond_true] at h
          replace e4 := (xeq_iff _ _).mp e4
          split at h
          · rename_i j
            have hj : i.toNatClampNeg = j := xclamp (by have z : Int.ofNat j = (j : Int) := rfl; omega)
            have g5 := g4 j (hj ▸ hlt)
            refine xald_row hx hb hd e1 g1 g2 (by omega) (by omega) ?_
            rw [hj]
            split at h <;> rename_i hq
            all_goals
              rw [hq] at g5
              exact xgo_win h hk ls _ H locs hL ⟨g5, h4⟩ hE hW hl hf
          · cases h
    · cases h
  · rename_i v S'
    cases e9 : Nat.beq kd 0
    · rw [e9] at h; cases h
    rw [e9, cond_true] at h
    have e9 := Nat.eq_of_beq_eq_true e9
    obtain ⟨w1, st1, rfl, h1, h2⟩ := XSok_cons hS
    obtain ⟨w2, st2, rfl, h3, h4⟩ := XSok_cons h2
    obtain ⟨i, rfl, hi⟩ := h1
    have h3' : w2 = .ref (G.2.1 0) := h3
    subst h3'
    obtain ⟨lo, hi', r1, r2, r3⟩ := xrng_ok hE hi
    rw [r3] at h
    obtain ⟨-, -, -, -, -, Ln, xs, ⟨scr, k1, k2, k3, k4, k5⟩, hb0, hxs, hL5, hL6⟩ := GL
    split at h
    · rename_i j
      split at h
      · rename_i l5 l6 h5
        cases e0 : (xeq (.ofNat j) hi' && xlt (.ofNat j) l5 && Nat.blt j 5)
        · rw [e0] at h; cases h
        rw [e0, cond_true] at h
        rw [Bool.and_eq_true, Bool.and_eq_true, xeq_iff, xlt_iff] at e0
        obtain ⟨⟨e1, e2⟩, e3⟩ := e0
        have e3 : j < 5 := Nat.blt_eq.mp e3
        rw [xnth_eq] at h5
        have h6 := hE 5 _ h5
        dsimp only at h6
        have z : Int.ofNat j = (j : Int) := rfl
        have hj : i.toNatClampNeg = j := xclamp (by omega)
        have hjL : j < Ln := by omega
        rcases hd with ⟨-, hd⟩ | ⟨q, -⟩ | ⟨q, -⟩
        rotate_left
        · omega
        · omega
        refine W.iald (v := .int (xs j)) hx hb (by rw [hf _ hb0]; exact k1) k2 k3 (by rw [k4]; exact xidx (by omega) (by omega)) (by rw [hj]; exact k5 j hjL) rfl rfl hd ?_
        refine xgo_win h hk ls _ H locs hL ⟨⟨xs j, rfl, (xi32 _).1, (xi32 _).2, fun t ht => ?_⟩, h4⟩ hE hW hl hf
        cases ht
        rw [hxs j e3]
        simp
      · cases h
    · cases h
  · rename_i v S'
    cases e9 : Nat.beq kd 0
    · rw [e9] at h; cases h
    rw [e9, cond_true] at h
    have e9 := Nat.eq_of_beq_eq_true e9
    obtain ⟨w1, st1, rfl, h1, h2⟩ := XSok_cons hS
    obtain ⟨w2, st2, rfl, h3, h4⟩ := XSok_cons h2
    obtain ⟨i, rfl, hi⟩ := h1
    have h3' : w2 = .ref (G.2.1 1) := h3
    subst h3'
    obtain ⟨lo, hi', r1, r2, r3⟩ := xrng_ok hE hi
    rw [r3] at h
    obtain ⟨-, -, -, hsz, ⟨-, cell, k1, k2, k3, k4, k5, k6, k7⟩, -⟩ := GL
    split at h
    · rename_i j
      split at h
      · rename_i q hq
        cases e0 : xeq (.ofNat j) hi'
        · rw [e0] at h; cases h
        rw [e0, cond_true] at h
        rw [xeq_iff] at e0
        rw [xnth_eq] at hq
        have z : Int.ofNat j = (j : Int) := rfl
        have hj : i.toNatClampNeg = j := xclamp (by omega)
        have hj18 : j < 18 := (List.getElem?_eq_some_iff.mp hq).1
        rcases hd with ⟨-, hd⟩ | ⟨q, -⟩ | ⟨q, -⟩
        rotate_left
        · omega
        · omega
        refine W.iald (v := xqorder j) hx hb (by rw [hf _ (Nat.not_le.mp k7)]; exact k1) k2 k3 (fun q => ?_) (by rw [hj]; exact k6 j hj18) rfl rfl hd ?_
        · rcases q with q | q
          · exact xidx (n := 18) (by omega) (by omega) (Or.inl q)
          · omega
        · refine xgo_win h hk ls _ H locs hL ⟨⟨Int32.ofInt q, ?_, ?_⟩, h4⟩ hE hW hl hf
          · unfold xqorder
            rw [List.getD_eq_getElem?_getD, hq]
            rfl
          · have hq3 : q = 0 ∨ q = 1 ∨ q = 2 := by
              have := List.mem_of_getElem? hq
              simp at this
              omega
            rcases hq3 with rfl | rfl | rfl <;> exact xk_ok _ _
      · cases h
    · cases h
  · cases h
theorem xs_ast1 {a j ty len : Nat} {d : XV} {ov : List (Nat × XV)} {w : XV} (h : xast1 nx L S E Hx n ce sl a j ty len d ov w = some o) (hk : XOk p l e R s m args below meth c Q G D nL Rt o) {ls : Array Slot} {st : List Value} {H H1 : Heap} {locs1 : List Loc} {cA : ClassId} {f : Nat → Value} {wv : Value} (hL : XLok G L ls nL) (hS : XSok G S st) (hE : XEok G.2.2 E) (hW : XWok G D s Hx n H) (hl : ∀ q ∈ locs1, G.1 ≤ q.base) (hf : ∀ q : Nat, q < G.1 → H[q]? = s.heap[q]?)
    (harr : ArrOfT s cA (xqty ty)) (hra : va_RA s cA (xqty ty)) (hel : ∀ j, j < len → XVok G (xelt d ov j) (f j)) (hw : XVok G w wv) (h1 : H1[G.1 + a]? = some ((arrV cA len f).setSlot j wv)) (hz : H1.size = H.size) (ho : ∀ q : Nat, q ≠ G.1 + a → H1[q]? = H[q]?) :
    W p l e R s m args below meth c H1 locs1 ce sl Q (F0 m nx ls st) := by
  unfold xast1 at h
  obtain ⟨ov', p1, p2, p3⟩ := xput_ok (G := G) d ov j w
  obtain ⟨H', q1, q2⟩ := hset_ok Hx a (.inr (ty, len, d, ov'))
  rw [p1, q1] at h
  refine xgo_win h hk ls st H1 locs1 hL hS hE (hW.put q2 hz ho ?_) hl (fun q hq => ?_)
  · rw [arrV_store] at h1
    refine ⟨cA, updV f j wv, h1, harr, hra, fun i hi => ?_⟩
    show XVok G (xelt d ov' i) (updV f j wv i)
    by_cases e : i = j
    · subst e
      have z : updV f i wv i = wv := by simp [updV]
      rw [z]
      exact p2 wv hw
    · have z : updV f j wv i = f i := by simp [updV, e]
      rw [z, p3 i e]
      exact hel i hi
  · rw [ho q (by omega)]
    exact hf q hq
theorem xlocs1 {G1 a j : Nat} {locs : List Loc} (hl : ∀ q ∈ locs, G1 ≤ q.base) : ∀ q ∈ locs ++ [(⟨G1 + a, j⟩ : Loc)], G1 ≤ q.base := by
  intro q hq
  rcases List.mem_append.mp hq with h | h
  · exact hl q h
  · rw [List.mem_singleton.mp h]
    exact Nat.le_add_right _ _
theorem xs_ast (hx : p.tables.exec = Jvm.exec) (hb : c.code = cc) (GL : XGl G D s) {kd : Nat} (hd : (kd = 0 ∧ decode cc pc = .ok (.iastore, 1)) ∨ (kd = 1 ∧ decode cc pc = .ok (.bastore, 1)) ∨ (kd = 2 ∧ decode cc pc = .ok (.aastore, 1))) (hn : nx = pc + 1) (h : xast nx pc L S E Hx n ce sl kd = some o) (hk : XOk p l e R s m args below meth c Q G D nL Rt o) : XWin p l e R s m args below meth c Q G D nL (pc, L, S, E, Hx, n, ce, sl) := by
  subst hn
  intro ls st H locs hL hS hE hW hl hf
  unfold xast at h
  split at h
  · rename_i w v a S'
    obtain ⟨w0, st0, rfl, h0, h0'⟩ := XSok_cons hS
    obtain ⟨w1, st1, rfl, h1, h2⟩ := XSok_cons h0'
    obtain ⟨w2, st2, rfl, h3, h4⟩ := XSok_cons h2
    obtain ⟨i, rfl, hi⟩ := h1
    have h3' : w2 = .ref (G.1 + a) := h3
    subst h3'
    split at h
    · rename_i ty len d ov hg
      obtain ⟨cA, f, g1, g2, g3, g4⟩ := hW.2 _ _ hg
      dsimp only at g1 g2 g3 g4
      obtain ⟨lo, hi', r1, r2, r3⟩ := xrng_ok hE hi
      rw [r3] at h
      cases e0 : (xle 0 lo && xlt hi' (.ofNat len))
      · rw [e0] at h; cases h
      rw [e0, cond_true] at h
      rw [Bool.and_eq_true, xle_iff, xlt_iff] at e0
      obtain ⟨e2, e3⟩ := e0
      have e3 : hi' < (len : Int) := e3
      have hin := xidx (i := i) (n := len) (by omega) (by omega)
      have hin' : ¬ (i < 0 ∨ (arrV cA len f).slots.size ≤ i.toNatClampNeg) := by rw [arrV_size]; exact hin
      cases e4 : xeq lo hi'
      · rw [e4, cond_false, fI_eq] at h
        exact xs_split (f := fun z => w :: z :: .inr (.inr (.inl (some a))) :: S') h hk rfl hi r1 r2 hL (fun w hw => ⟨h0, hw, h3, h4⟩) hE hW hl hf
      · rw [e4, cond_true] at h
        replace e4 := (xeq_iff _ _).mp e4
        split at h
        rotate_left
        · cases h
        rename_i j
        have hj : i.toNatClampNeg = j := xclamp (by have z : Int.ofNat j = (j : Int) := rfl; omega)
        split at h
        · rename_i u
          obtain ⟨x, rfl, hu⟩ := id h0
          cases e5 : Nat.beq kd ty
          · rw [e5] at h; cases h
          rw [e5, cond_true] at h
          have e5 := Nat.eq_of_beq_eq_true e5
          subst e5
          split at h
          · rcases hd with ⟨-, hd⟩ | ⟨q, -⟩ | ⟨q, -⟩
            rotate_left
            · omega
            · omega
            refine W.iast hx hb g1 (g2 len f) (fun q => by cases q) hin' rfl rfl hd fun H1 e z oq => ?_
            rw [hj] at e ⊢
            exact xs_ast1 h hk hL h4 hE hW (xlocs1 hl) hf g2 g3 g4 h0 e z oq
          · rcases hd with ⟨q, -⟩ | ⟨-, hd⟩ | ⟨q, -⟩
            · omega
            rotate_left
            · omega
            obtain ⟨pp, qq, t1, t2, t3⟩ := xrng_ok hE hu
            rw [t3] at h
            cases e6 : (xle 0 pp && xle qq 1)
            · rw [e6] at h; cases h
            rw [e6, cond_true] at h
            rw [Bool.and_eq_true, xle_iff, xle_iff] at e6
            refine W.zast hx hb g1 (g2 len f) (fun q => by cases q) hin' rfl rfl hd fun H1 e z oq => ?_
            rw [hj] at e ⊢
            rw [xnarz (by omega) (by omega)] at e
            exact xs_ast1 h hk hL h4 hE hW (xlocs1 hl) hf g2 g3 g4 h0 e z oq
          · cases h
        · rename_i b
          have h0' : w0 = .ref (G.1 + b) := h0
          subst h0'
          cases e5 : Nat.beq kd 2
          · rw [e5] at h; cases h
          rw [e5, cond_true] at h
          have e5 := Nat.eq_of_beq_eq_true e5
          subst e5
          rcases hd with ⟨q, -⟩ | ⟨q, -⟩ | ⟨-, hd⟩
          · omega
          · omega
          split at h
          rotate_left
          · cases h
          rename_i ci fs hgb
          cases e6 : Nat.beq ty (10 + ci)
          · rw [e6] at h; cases h
          rw [e6, cond_true] at h
          have e6 := Nat.eq_of_beq_eq_true e6
          obtain ⟨vs, -, -, r, hr, cellV, y1, y2, y3, -⟩ := hW.2 _ _ hgb
          dsimp only at hr y1 y2
          have hcls := (GL.1 ci r hr).2
          have hrn : xqty ty = .object r.1 := by
            rw [e6]
            match ci, hr with
            | 0, hr => cases hr; rfl
            | 1, hr => cases hr; rfl
            | 2, hr => cases hr; rfl
            | 3, hr => cases hr; rfl
            | 4, hr => cases hr; rfl
            | 5, hr => cases hr; rfl
            | k + 6, hr => simp [xqcls] at hr
          have g3o := g3
          rw [hrn] at g3
          obtain ⟨kA, comp, k1, k2, k3, -⟩ := g3
          have hcomp : comp = D.1 ci := Option.some.inj (k3.symm.trans hcls.1)
          subst hcomp
          obtain ⟨kC, hkC, -⟩ := hcls.2
          refine W.aast hx hb g1 (fun q h => by cases h) (fun h => by cases h) k1 k2 rfl hkC ⟨fun q => hin (Or.inl q), by show _ < (arrV _ _ _).slots.size; rw [arrV_size]; exact Nat.not_le.mp fun q => hin (Or.inr q)⟩ y1 (fun q h => by rw [y3] at h; cases h) (by rw [y2]; exact hkC) (by rw [y2]; exact va_assign hcls) rfl rfl hd fun H1 e z oq => ?_
          rw [hj] at e ⊢
          exact xs_ast1 h hk hL h4 hE hW (xlocs1 hl) hf g2 g3o g4 h0 e z oq
        · cases h
    · cases h
  · cases h
end XQ2
