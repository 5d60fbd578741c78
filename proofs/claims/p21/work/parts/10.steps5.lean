def xqyn (i : Nat) : MethodName := (xqyl[i]?).getD ⟨"", "", ""⟩
def xqcb (i : Nat) : ByteArray := (xqcl[i]?).getD ⟨#[]⟩
def xqmll (i : Nat) : Nat := ((xqml[i]?).getD (0, 0)).1
def xqrt (i : Nat) : Nat := ((xqml[i]?).getD (0, 0)).2
def xqrty (t : Nat) : Option FieldType := match t with
  | 0 => none
  | 1 => some .int
  | 2 => some .boolean
  | _ => some .long
def xqcode (i : Nat) : Cond := .code (xqyn i) (xqcb i) (xqmll i) (xqrty (xqrt i))
def xqws (i : Nat) : List Cond := xqcode i :: xqgw
noncomputable def xqrm (d i : Nat) : Room := { frames := d, cells := (xqcst i).1, slots := (xqcst i).2, locals := 36 * d }
def XOc (G : XG) (rv : Option XV) (oc : Outcome) : Prop := match rv with
  | none => oc = .returned none
  | some x => ∃ w, oc = .returned (some w) ∧ XVok G x w
def XPc (G : XG) (D : va_G) (as : List XV) (Hx : XH) (n : Nat) : Array Value → State → Prop := fun v U => ∃ vs : List Value, v = vs.toArray ∧ XSok G as vs ∧ XWok G D U Hx n U.heap ∧ XGl G D U
def XQc (G : XG) (D : va_G) (rs : List XRt) : Array Value → State → Outcome → State → Prop := fun _ st oc t => (∀ q : Nat, q < G.1 → t.heap[q]? = st.heap[q]?) ∧ ∃ r ∈ rs, XEok G.2.2 r.2.1 ∧ XWok G D t r.2.2.1 r.2.2.2.1 t.heap ∧ XOc G r.1 oc
theorem XGl.moved {G : XG} {D : va_G} {u U : State} (h : XGl G D u) (hW : u.WarmedH U.vm) (hsz : G.1 ≤ U.heap.size) (hh : ∀ q : Nat, q < G.1 → U.heap[q]? = u.heap[q]?) : XGl G D U := by
  obtain ⟨h1, h2, ⟨h3, h4, h5, h6⟩, h7, ⟨h8, h9⟩, L, xs, h10, h11, h12⟩ := h
  have hvm := hW.alike
  have hh2 : ∀ a : Nat, a < u.heap.size → ¬ G.1 ≤ a → U.heap[a]? = u.heap[a]? := fun a _ h => hh a (Nat.not_le.mp h)
  refine ⟨fun k q hq => u_Kn_moved hvm (h1 k q hq), fun w hw => ?_, ⟨h3.moved hvm, h4.moved hvm, h5.moved hvm, h6.moved hvm⟩, hsz, ⟨(h8.moved hvm).kept hh2, (h9.moved hvm).kept hh2⟩, L, xs, (h10.moved hvm).kept (hh _ h11), h11, h12⟩
  have hw2 := h2 w hw
  simp only [xqnest, List.mem_cons, List.not_mem_nil, or_false] at hw
  rcases hw with rfl | rfl | rfl | rfl | rfl | rfl <;> exact va_Nw.warmM hW hw2
theorem XSok_appe {G : XG} : ∀ {A B : List XV} {a b : List Value}, XSok G A a → XSok G B b → XSok G (A ++ B) (a ++ b)
  | [], B, a, b, ha, hb => by rw [XSok_nil ha]; exact hb
  | v :: A, B, a, b, ha, hb => by
    obtain ⟨w, a', rfl, h1, h2⟩ := XSok_cons ha
    exact ⟨h1, XSok_appe h2 hb⟩
theorem XSok_rev {G : XG} : ∀ {A : List XV} {a : List Value}, XSok G A a → XSok G A.reverse a.reverse
  | [], a, ha => by rw [XSok_nil ha]; exact trivial
  | v :: A, a, ha => by
    obtain ⟨w, a', rfl, h1, h2⟩ := XSok_cons ha
    rw [List.reverse_cons, List.reverse_cons]
    exact XSok_appe (XSok_rev h2) ⟨h1, trivial⟩
theorem XSok_len {G : XG} : ∀ {A : List XV} {a : List Value}, XSok G A a → a.length = A.length
  | [], a, ha => by rw [XSok_nil ha]; rfl
  | v :: A, a, ha => by
    obtain ⟨w, a', rfl, h1, h2⟩ := XSok_cons ha
    rw [List.length_cons, List.length_cons, XSok_len h2]
/-- the arguments off the stack -/
theorem xtake_ok {G : XG} : ∀ (k : Nat) (S acc : List XV) (f : List XV → List XV → XO) (o : XS ⊕ (List XS ⊕ XRt)) (st wacc : List Value), xtake k S acc f = some o → XSok G S st → XSok G acc wacc → ∃ (as S' : List XV) (pw st' : List Value), f as S' = some o ∧ XSok G as (pw.reverse ++ wacc) ∧ XSok G S' st' ∧ st = pw ++ st' ∧ pw.length = k := by
  intro k
  induction k with
  | zero =>
    intro S acc f o st wacc h hS ha
    exact ⟨acc, S, [], st, h, ha, hS, rfl, rfl⟩
  | succ k ih =>
    intro S acc f o st wacc h hS ha
    cases S with
    | nil => cases h
    | cons v S =>
      obtain ⟨w, st1, rfl, h1, h2⟩ := XSok_cons hS
      have h : xtake k S (v :: acc) f = some o := h
      obtain ⟨as, S', pw, st', e1, e2, e3, e4, e5⟩ := ih S (v :: acc) f o st1 (w :: wacc) h h2 ⟨h1, ha⟩
      refine ⟨as, S', w :: pw, st', e1, ?_, e3, by rw [e4]; rfl, by rw [List.length_cons, e5]⟩
      rw [List.reverse_cons, List.append_assoc]
      exact e2
theorem xrecv_ok {Hx : XH} {k : Nat} {as : List XV} (h : xrecv Hx (k + 1) as = true) : ∃ (a : Nat) (as' fs : List XV), as = .inr (.inr (.inl (some a))) :: as' ∧ hget Hx a = some (.inl (k, fs)) := by
  cases as with
  | nil => exact absurd h (by simp [xrecv])
  | cons v as' =>
    rcases v with u | u | (_ | a) | t
    · exact absurd h (by simp [xrecv])
    · exact absurd h (by simp [xrecv])
    · exact absurd h (by simp [xrecv])
    · have h2 : (match hget Hx a with
        | some (.inl (ci, _)) => Nat.beq ci k
        | _ => false) = true := h
      split at h2
      · rename_i ci fs hg
        have := Nat.eq_of_beq_eq_true h2
        subst this
        exact ⟨a, as', fs, rfl, hg⟩
      · cases h2
    · exact absurd h (by simp [xrecv])
section XQ5
variable {p : Program} {l : Launch} {e : Env} {R : Room} {s : State} {m : MethodId} {args : Array Value} {below : List Frame} {meth : Method} {c : Code} {Q : State → Prop} {G : XG} {D : va_G} {nL : Nat}
variable {Rt : XRt → Prop} {o : XS ⊕ (List XS ⊕ XRt)} {cc : ByteArray} {pc nx : Nat} {L : XLc} {S : List XV} {E : XE} {Hx : XH} {n ce sl : Nat} {own : String}
theorem XPc_blind (as : List XV) : FrameBlind (XPc G D as Hx n) := by
  rintro a U g mk ⟨vs, h1, h2, h3, h4⟩
  exact ⟨vs, h1, h2, XWok.moved (u := U) (U := U.calling g mk a) (Vm.Alike.refl U.vm) h3, h4.moved (U := U.calling g mk a) (State.WarmedH.refl U) h4.2.2.2.1 (fun q _ => rfl)⟩
theorem xs_after {rs : List XRt} {cm cs : Nat} {st0 rest : List Value} {S' : List XV} {a : Array Value} {ls : Array Slot} {H : Heap} {locs : List Loc} (hr : va_Run p l e R s m args below meth c H locs ce sl cm cs (F0 m pc ls st0) rest (XQc G D rs a) (fun q => G.1 ≤ q)) (hL : XLok G L ls nL) (hS : XSok G S' rest) (hl : ∀ q ∈ locs, G.1 ≤ q.base) (hf : ∀ q : Nat, q < G.1 → H[q]? = s.heap[q]?)
    (hk : ∀ r ∈ rs, XWin p l e R s m args below meth c Q G D nL (xaft (pc + 3) L S' (ce + cm) (sl + cs) r)) : W p l e R s m args below meth c H locs ce sl Q (F0 m pc ls st0) := by
  intro T hT X
  obtain ⟨v, st₀, t, T', Lq, h0, X', hLq, e1, e2, ⟨hq1, r, hr1, hr2, hr3, hr4⟩, st⟩ := hr T hT X
  have hw := hk r hr1
  have hvm : t.vm.Alike s.vm := by rw [← e2]; exact X'.warmed.alike.symm
  have hl' : ∀ q ∈ locs ++ Lq, G.1 ≤ q.base := fun q hq => (List.mem_append.mp hq).elim (hl q) (hLq q)
  have hf' : ∀ q : Nat, q < G.1 → t.heap[q]? = s.heap[q]? := fun q hq => by rw [hq1 q hq, h0]; exact hf q hq
  obtain ⟨rv, E', H', n', a1, a2⟩ := r
  cases rv with
  | none =>
    cases hr4
    obtain ⟨t2, b1, b2⟩ := hw ls rest t.heap (locs ++ Lq) hL hS hr2 (hr3.moved hvm) hl' hf' T' e1 X'
    exact ⟨t2, st t2 b1, b2⟩
  | some x =>
    obtain ⟨w, hw1, hw2⟩ := hr4
    cases hw1
    obtain ⟨t2, b1, b2⟩ := hw ls (w :: rest) t.heap (locs ++ Lq) hL ⟨hw2, hS⟩ hr2 (hr3.moved hvm) hl' hf' T' e1 X'
    exact ⟨t2, st t2 b1, b2⟩
/-- what a call hands to its callee, and how it goes on -/
theorem xs_call (hts : ∀ w ∈ xqgw, w.before args s = true) (GL : XGl G D s) {cal : Nat → List XV → XE → XH → Nat → Option (List XRt)} {d mc ms id na vk : Nat} (hmc : mc ≤ R.cells) (hms : ms ≤ R.slots)
    (hM : ∀ (as : List XV) (E : XE) (Hx : XH) (n : Nat) (rs : List XRt), cal id as E Hx n = some rs → XEok G.2.2 E → Met l (xqyn id) (xqws id) (xqrm d id) (XPc G D as Hx n) (XQc G D rs) (xqcst id).1 (xqcst id).2 (fun q => G.1 ≤ q))
    (hn : nx = pc + 3) (h : xcall cal mc ms (xqcst id).1 (xqcst id).2 nx L S E Hx n ce sl id na vk = some o) (hk : XOk p l e R s m args below meth c Q G D nL Rt o)
    (row : ∀ (Pc : Array Value → State → Prop) (rs : List XRt), Met l (xqyn id) (xqws id) (xqrm d id) Pc (XQc G D rs) (xqcst id).1 (xqcst id).2 (fun q => G.1 ≤ q) → ∀ (H : Heap) (locs : List Loc) (ls : Array Slot) (vs rest : List Value) (as : List XV), vs.length = na → FrameBlind Pc → (∀ U : State, U.heap = H → s.WarmedH U.vm → Pc vs.toArray U) → (rest.map fun v => v.category).sum ≤ 8 → ls.size = nL → ce + (xqcst id).1 ≤ R.cells ∧ sl + (xqcst id).2 ≤ R.slots → XWok G D s Hx n H → XSok G as vs → xrecv Hx vk as = true → ∃ a, va_Run p l e R s m args below meth c H locs ce sl (xqcst id).1 (xqcst id).2 (F0 m pc ls (vs.reverse ++ rest)) rest (XQc G D rs a) (fun q => G.1 ≤ q)) : XWin p l e R s m args below meth c Q G D nL (pc, L, S, E, Hx, n, ce, sl) := by
  subst hn
  intro ls st H locs hL hS hE hW hl hf
  unfold xcall at h
  obtain ⟨as, S', pw, st', e1, e2, e3, e4, e6⟩ := xtake_ok na S [] _ o st [] h hS trivial
  rw [List.append_nil] at e2
  cases e0 : (xrecv Hx vk as && Nat.ble (xcat S') 8)
  · rw [e0] at e1; cases e1
  rw [e0, cond_true, fN_eq, fN_eq] at e1
  rw [Bool.and_eq_true, Nat.ble_eq] at e0
  cases e8 : (Nat.ble (ce + (xqcst id).1) mc && Nat.ble (sl + (xqcst id).2) ms)
  · rw [e8] at e1; cases e1
  rw [e8, cond_true] at e1
  rw [Bool.and_eq_true, Nat.ble_eq, Nat.ble_eq] at e8
  split at e1
  · cases e1
  · rename_i rs hc
    cases e1
    have hk : ∀ y ∈ rs.map (xaft (pc + 3) L S' (ce + (xqcst id).1) (sl + (xqcst id).2)), XWin p l e R s m args below meth c Q G D nL y := hk
    have hsz : G.1 ≤ H.size := by rw [hW.1]; exact Nat.le_add_right _ _
    obtain ⟨a, hrun⟩ := row _ rs (hM as E Hx n rs hc hE) H locs ls pw.reverse st' as (by rw [List.length_reverse]; exact e6) (XPc_blind as) (fun U hU hWm => ⟨pw.reverse, rfl, e2, by rw [hU]; exact hW.moved hWm.alike, GL.moved hWm (by rw [hU]; exact hsz) (fun q hq => by rw [hU]; exact hf q hq)⟩) (by rw [XScat e3]; exact e0.2) hL.1 ⟨by omega, by omega⟩ hW e2 e0.1
    have e4' : st = pw.reverse.reverse ++ st' := by rw [List.reverse_reverse]; exact e4
    show W p l e R s m args below meth c H locs ce sl Q (F0 m pc ls st)
    rw [e4']
    exact xs_after hrun hL e3 hl hf (fun r hr => hk _ (List.mem_map.mpr ⟨r, hr, rfl⟩))
end XQ5
