section XQ9
variable {p : Program} {l : Launch} {e : Env} {R : Room} {s : State} {m : MethodId} {args : Array Value} {below : List Frame} {meth : Method} {c : Code} {Q : State → Prop} {G : XG} {D : va_G} {nL : Nat} {cc : ByteArray}
/-- for (int k = ..; k < m; k++) f(): where f leaves the world as it is -/
theorem xq_loop (hx : p.tables.exec = Jvm.exec) (hb : c.code = cc) {kL h p1 X a n ce sl idx z1 z2 : Nat} {off off2 : Int} {L0 : XLc} {mv rv : XVI} {E : XE} {H2 : XH} {aa : Array Value} (hkL : 1 < kL) (hsz : G.1 ≤ s.heap.size)
    (hk0 : L0[kL]? = some (some (.inl xqTop))) (hm0 : L0[1]? = some (some (.inl mv))) (ha0 : L0[0]? = some (some (.inr (.inr (.inl (some a)))))) (hset : L0.set kL (some (.inl xqTop)) = L0) (hclr : xclr L0 kL = true)
    (rk : ∀ (H : Heap) (locs : List Loc) (ls : Array Slot) (st : List Value) (x : Int32), ls[kL]? = some (.val (.int x)) → W p l e R s m args below meth c H locs ce sl Q (F0 m p1 ls (.int x :: st)) → W p l e R s m args below meth c H locs ce sl Q (F0 m h ls st))
    (dm : decode cc p1 = .ok (.iload_n 1, 1)) (dc : decode cc (p1 + 1) = .ok (.if_icmp .ge off, 3)) (ht : ((p1 + 1 : Nat) : Int) + off = (X : Int)) (da : decode cc (p1 + 4) = .ok (.aload_n 0, 1)) (dp : decode cc (p1 + 8) = .ok (.pop, 1)) (di : decode cc (p1 + 9) = .ok (.iinc kL 1, 3)) (dg : decode cc (p1 + 12) = .ok (.goto off2, 3)) (ht2 : ((p1 + 12 : Nat) : Int) + off2 = (h : Int))
    (run : ∀ (H : Heap) (locs : List Loc) (ls : Array Slot), XWok G D s H2 n H → XEok G.2.2 E → (∀ q : Nat, q < G.1 → H[q]? = s.heap[q]?) → ls.size = nL → va_Run p l e R s m args below meth c H locs ce sl 0 0 (F0 m (p1 + 5) ls [.ref (G.1 + a)]) [] (XQc G D [(some (.inl rv), E, H2, n, z1, z2)] aa) (fun q => G.1 ≤ q))
    (hexit : XWin p l e R s m args below meth c Q G D nL (X, L0, [], E, H2, n, ce, sl)) : ∀ (j : Nat) (k M : Int32) (ls : Array Slot) (H : Heap) (locs : List Loc), (M.toInt - k.toInt).toNat ≤ j → ls[kL]? = some (.val (.int k)) → ls[1]? = some (.val (.int M)) → XLok G L0 ls nL → XEok G.2.2 E → XWok G D s H2 n H → (∀ q ∈ locs, G.1 ≤ q.base) → (∀ q : Nat, q < G.1 → H[q]? = s.heap[q]?) → W p l e R s m args below meth c H locs ce sl Q (F0 m h ls []) := by
  intro j
  induction j with
  | zero =>
    intro k M ls H locs hj hk hM hL hE hW hl hf
    refine rk H locs ls [] k hk (lv_iload_n hx hb dm rfl hM (lv_icmp_ge hx hb dc ht (fun q => ?_) (fun q => ?_)))
    · exact hexit ls [] H locs hL trivial hE hW hl hf
    · have := (@xpr_toInt M k).2.2
      exact absurd (this.mpr (by omega)) q
  | succ j ih =>
    intro k M ls H locs hj hk hM hL hE hW hl hf
    refine rk H locs ls [] k hk (lv_iload_n hx hb dm rfl hM (lv_icmp_ge hx hb dc ht (fun q => ?_) (fun q => ?_)))
    · exact hexit ls [] H locs hL trivial hE hW hl hf
    have hlt : k.toInt < M.toInt := by
      have := (@xpr_toInt M k).2.2
      by_cases z : k.toInt < M.toInt
      · exact z
      · exact absurd (this.mpr z) q
    obtain ⟨w0, w1, w2⟩ := hL.2.2.2 0 _ ha0
    have w2 : w0 = .ref (G.1 + a) := w2
    subst w2
    refine lv_aload_n hx hb da rfl w1 ?_
    have hrun := run H locs ls hW hE hf hL.1
    intro T hT Xs
    obtain ⟨v, st₀, t, T', Lq, h0, X', hLq, e1, e2, ⟨hq1, r, hr1, hr2, hr3, hr4⟩, st⟩ := hrun T hT Xs
    rw [List.mem_singleton] at hr1
    subst hr1
    obtain ⟨w, hw1, i, rfl, -⟩ := hr4
    cases hw1
    have hvm : t.vm.Alike s.vm := by rw [← e2]; exact X'.warmed.alike.symm
    obtain ⟨lv, g1, g2⟩ := hL.list
    obtain ⟨wk, g3, -⟩ := g2 kL _ hk0
    obtain ⟨wm, g4, -⟩ := g2 1 _ hm0
    have hwk : wk = .int k := by
      have := g1.2.2 _ g3
      rw [hk] at this
      cases this
      rfl
    have hwm : wm = .int M := by
      have := g1.2.2 _ g4
      rw [hM] at this
      cases this
      rfl
    subst hwk hwm
    obtain ⟨ik, hik⟩ := List.getElem?_of_mem g3
    have hkn : kL < nL := Nat.lt_of_lt_of_le (List.getElem?_eq_some_iff.mp hk0).1 hL.2.1
    have hone : (k + Int32.ofInt 1).toInt = k.toInt + 1 := by
      have b1 := xi32 M
      have b2 := xi32 k
      rw [xqMIN_v, xqMAX_v] at b1 b2
      have e9 : (Int32.ofInt 1).toInt = 1 := rfl
      rw [xadd_toInt (by omega) (by omega), e9]
    have key : W p l e R s m args below meth c t.heap (locs ++ Lq) (ce + 0) (sl + 0) Q (F0 m (p1 + 5 + 3) ls [.int i]) := by
      refine lv_pop hx hb dp rfl ?_
      refine lv_iinc hx hb di g1 hik rfl hkn rfl (fun ls' h' => ?_)
      refine lv_goto hx hb dg ht2 ?_
      refine ih (k + Int32.ofInt 1) M ls' t.heap (locs ++ Lq) (by omega) (h'.2.2 (kL, _) List.mem_cons_self) (h'.2.2 (1, .int M) (List.mem_cons_of_mem _ (List.mem_filter.mpr ⟨g4, ?_⟩))) ?_ hr2 (hr3.moved hvm) (fun q hq => (List.mem_append.mp hq).elim (hl q) (hLq q)) (fun q hq => by rw [hq1 q hq, h0]; exact hf q hq)
      · have e1 : ((1 : Nat) == kL) = false := by simp; omega
        dsimp only
        rw [e1]
        simp [Value.category]
      · have := hL.store1 (v := .inl xqTop) g2 hclr ⟨_, rfl, xtop_ok _⟩ h'
        rw [hset] at this
        exact this
    obtain ⟨t2, b1, b2⟩ := key T' e1 X'
    exact ⟨t2, st t2 b1, b2⟩
end XQ9
