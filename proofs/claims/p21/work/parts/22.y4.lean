noncomputable def ytab (k pc : Nat) : Option XI := if k < 163 then xtab ((xqTs[k]?).getD []) pc else none
/-- what stands around a method's run -/
def YCtx (g : Launch × XG × va_G) (k : Nat) (p : Program) (s : State) (m : MethodId) (args : Array Value) (meth : Method) (c : Code) : Prop :=
  p.tables.exec = Jvm.exec ∧ c.code = xqcb k ∧ c.maxLocals = xqmll k ∧ s.vm.findClass (xqyn k).cls = some m.cls ∧ (∀ w ∈ xqgw, w.before args s = true) ∧ YGl g.2.1 g.2.2 s ∧ meth.sig.returnType = xqrty (xqrt k) ∧ meth.locks = false
/-- from this place of the method k the run comes back, and P speaks of what it hands back -/
def YW (g : Launch × XG × va_G) (k pc : Nat) (L : YL) (S : List YV) (σ : YS) (P : Option YV → YS → Prop) : Prop :=
  ∀ (p : Program) (e : Env) (s : State) (m : MethodId) (args : Array Value) (below : List Frame) (meth : Method) (c : Code), YCtx g k p s m args meth c → YWin p g.1 e (headSpec (xqws k) (yrm k)).room s m args below meth c (MQ below (YQc g.2.1 g.2.2 P) args s 0 0 (fun q => g.2.1.1 ≤ q)) g.2.1 g.2.2 (xqmll k) 0 0 pc L S σ
def YI (g : Launch × XG × va_G) (k : Nat) (as : List YV) (σ : YS) (Q : Int → YS → Prop) : Prop := YM g k as σ (fun r σ' => ∃ b, r = some (0, b) ∧ Q b σ')
def YJ (g : Launch × XG × va_G) (k : Nat) (as : List YV) (σ : YS) (Q : Int → YS → Prop) : Prop := YM g k as σ (fun r σ' => ∃ b, r = some (1, b) ∧ Q b σ')
def YU (g : Launch × XG × va_G) (k : Nat) (as : List YV) (σ : YS) (Q : YS → Prop) : Prop := YM g k as σ (fun r σ' => r = none ∧ Q σ')
theorem ydep_all : (List.range 163).all (fun i => decide (4 ≤ ydep i)) = true := by decide +kernel
theorem xqtab_all {k pc : Nat} {en : XI} (h : ytab k pc = some en) : k < 163 ∧ xqokP (xqyn k).cls (xqyn k).name (xqcb k) ((xqTws[k]?).getD []) pc en = true := by
  unfold ytab at h
  split at h
  · rename_i hk
    exact ⟨hk, xqtab_ok (xqtk k hk) h⟩
  · cases h
theorem y_step {g : Launch × XG × va_G} {k pc op A nx r1 r2 r3 : Nat} {B : Int} {L : YL} {S : List YV} {σ : YS} {P : Option YV → YS → Prop} (hT : ytab k pc = some (op, A, B, nx, r1, r2, r3)) (hne : Nat.beq op 99 = false)
    (h : ydisp g.2.1.2.2 (fun pc L S σ => YW g k pc L S σ P) (fun k' as σ P' => ydep k' < ydep k ∧ YM (g.1, g.2.1, g.2.2) k' as σ P') P (xqrt k) op A B nx r1 r2 r3 pc L S σ) : YW g k pc L S σ P := by
  obtain ⟨hk, hp⟩ := xqtab_all hT
  unfold xqokP at hp
  dsimp only at hp
  rw [hne, cond_false] at hp
  split at hp
  rotate_left
  · cases hp
  rename_i ins len hdec
  intro p e s m args below meth c hctx
  have hctx' := hctx
  obtain ⟨hx, hb, hml, hown, hts, GL, hret, hlocks⟩ := hctx
  have hd1 : 4 ≤ ydep k := of_decide_eq_true (List.all_eq_true.mp ydep_all k (List.mem_range.mpr hk))
  have qq : ∀ {t : State} {H : Heap} {σ' : YS} {rv : Option YV} {oc : Outcome}, t.heap = H → s.WarmedH t.vm → P rv σ' → YWok g.2.1 g.2.2 s σ' H → (∀ q : Nat, q < g.2.1.1 → H[q]? = s.heap[q]?) → XOc g.2.1 (rv.map y2x) oc → YQc g.2.1 g.2.2 P args s oc t := by
    intro t H σ' rv oc ht hw hr hW hf ho
    exact ⟨fun q hq => by rw [ht]; exact hf q hq, rv, σ', hr, by rw [ht]; exact hW.moved hw.alike, ho⟩
  refine ys_disp (d := ydep k) (rt := xqrt k) (Rt := P) (K := fun pc L S σ => YW g k pc L S σ P) hx hb hml hown hts GL (Nat.zero_le _) (Nat.zero_le _) (show 4 ≤ ydep k from hd1) (show 144 ≤ 36 * ydep k by omega) (fun j hj hjd => ⟨show ydep j + 1 ≤ ydep k from hjd, ?_⟩) ?_ ?_ ?_ (fun pc L S σ h => h p e s m args below meth c hctx') hdec hp h
  · have := (xqcall_ok hj).2.2.2.2
    show 8 + (xqmll j + 11) + 36 * ydep j ≤ 36 * ydep k
    omega
  · intro v σ' hrt hP pc2 ls2 i H locs hd2 hi hW hl hf
    rcases hrt with hrt | ⟨hrt, h1, h2⟩
    · exact W.iret hx hb (by rw [hret, hrt]; rfl) (fun t ht hw => qq ht hw hP hW hf ⟨_, rfl, yp0 hi⟩) hl hd2
    · exact W.zret hx hb (ty := .boolean) (by rw [hret, hrt]; rfl) (xnarz (by omega) (by omega)) (fun t ht hw => qq ht hw hP hW hf ⟨_, rfl, yp0 hi⟩) hl hd2
  · intro v σ' hrt hP pc2 ls2 i H locs hd2 hi hW hl hf
    exact W.lret hx hb (by rw [hret, hrt]; rfl) (fun t ht hw => qq ht hw hP hW hf ⟨_, rfl, yp1 hi⟩) hl hd2
  · intro σ' hrt hP pc2 ls2 H locs hd2 hW hl hf
    exact W.vret hx hb (by rw [hret, hrt]; rfl) (fun t ht hw => qq ht hw hP hW hf rfl) hl hd2
noncomputable def ylocs (as : List YV) : YL := match as with
  | [] => []
  | (1, v) :: r => some (1, v) :: none :: ylocs r
  | (t, v) :: r => some (t, v) :: ylocs r
theorem ylocs_x : ∀ as : List YV, yxl (ylocs as) = xlocs (yxs as)
  | [] => rfl
  | (0, v) :: r => congrArg (some (y2x (0, v)) :: ·) (ylocs_x r)
  | (1, v) :: r => congrArg (fun z => some (y2x (1, v)) :: none :: z) (ylocs_x r)
  | (2, v) :: r => congrArg (some (y2x (2, v)) :: ·) (ylocs_x r)
  | (t + 3, v) :: r => congrArg (some (y2x (t + 3, v)) :: ·) (ylocs_x r)
/-- a method's start -/
theorem y_start {g : Launch × XG × va_G} {k : Nat} {as : List YV} {L : YL} {σ : YS} {P : Option YV → YS → Prop} (hk : Nat.blt k 163 = true) (hL : ylocs as ++ List.replicate (xqmll k - (ylocs as).length) none = L) (hle : Nat.ble (ylocs as).length (xqmll k) = true) (h : YW g k 0 L [] σ P) : YM g k as σ P := by
  have hk : k < 163 := Nat.blt_eq.mp hk
  have hle : (ylocs as).length ≤ xqmll k := Nat.ble_eq.mp hle
  refine Met.ofW (cc := xqcb k) (maxL := xqmll k) (ret := xqrty (xqrt k)) (xqplain hk) rfl ?_
  intro p e s m args below meth c s₁ B hml hv
  obtain ⟨vs, rfl, hvs, hW, GL⟩ := hv
  have hts : ∀ w ∈ xqgw, w.before vs.toArray s = true := fun w hw => atoms_spec (ws := xqws k) B.pre w (List.mem_cons_of_mem _ hw)
  have hlocks := B.notSynchronized
  rw [lg_entry_eq]
  obtain ⟨hlen, hloc⟩ := xlocs_len hvs
  rw [← ylocs_x] at hlen hloc
  rw [yllen] at hlen
  have hl := lv_entry vs (n := xqmll k) (by rw [hlen]; exact hle)
  generalize hls : (lg_sl vs ++ List.replicate (xqmll k - (lg_sl vs).length) Slot.unset).toArray = ls at hl ⊢
  refine h p e s m vs.toArray below meth c ⟨B.exec, B.bytes, hml, findClass_of_methodNamed B.named, hts, GL, B.returns, hlocks⟩ ls [] s.heap [] ⟨hl.1, ?_, hl.2.1, fun j x hx => ?_⟩ trivial hW (fun q hq => by cases hq) (fun q hq => rfl)
  · rw [← hL, yllen, List.length_append, List.length_replicate]
    omega
  · rw [← hL] at hx
    unfold yxl at hx
    rw [List.map_append, List.map_replicate] at hx
    have hx : (yxl (ylocs as) ++ List.replicate (xqmll k - (ylocs as).length) none)[j]? = some (some x) := hx
    by_cases hj : j < (yxl (ylocs as)).length
    · rw [List.getElem?_append_left hj] at hx
      obtain ⟨w, w1, w2⟩ := hloc j x hx
      refine ⟨w, ?_, w2⟩
      rw [yllen] at hj
      rw [← hls, List.getElem?_toArray, List.getElem?_append_left (by omega)]
      exact w1
    · rw [List.getElem?_append_right (by omega)] at hx
      have := List.eq_of_mem_replicate (List.mem_of_getElem? hx)
      cases this
