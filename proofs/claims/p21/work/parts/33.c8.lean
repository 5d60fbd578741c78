/-! The other calls, as functions of what there is. -/
def ybyte (v k : Int) : Int := yl2i (yland (ylshr v (8 * k)) 255)
def mtype (M : YS) (v n : Int) : YS := fun r c => if r = 1 ∧ M 2 0 ≤ c ∧ c < M 2 0 + n then ybyte v (n - 1 - (c - M 2 0)) else if r = 2 ∧ c = 0 then M 2 0 + n else M r c
def ktype (Z : YZ) (M : YS) (v n : Int) : YK := if ¬ (1 ≤ n ∧ n ≤ 8) then (-2, Z, bump M 0) else if 200 < M 2 0 + n then (-4, Z, bump M 2) else (M 2 0 + n, Z, mtype M v n)
def kclear (Z : YZ) (M : YS) : YK := (M 2 0, Z, yset M 2 0 0)
def zstep (Z : YZ) : YZ := fun r => if r = 0 then Z 0 else if r = 1 then mstep (Z 0) (Z 1) else if r = 2 then (fun _ _ => min (Z 2 0 0 + 1) 20) else if r = 3 then Z 1 else Z (r - 1)
def kstep (Z : YZ) (M : YS) : YK := (mgo (Z 0) (mstep (Z 0) (Z 1)) (Z 0 1 0).toNat, zstep Z, M)
def zundo (Z : YZ) : YZ := fun r => if r = 0 then Z 0 else if r = 1 then yset (Z 3) 6 0 (Z 1 6 0) else if r = 2 then (fun _ _ => Z 2 0 0 - 1) else Z (r + 1)
def kundo (Z : YZ) (M : YS) : YK := if Z 2 0 0 = 0 then (-3, Z, bump M 1) else (1, zundo Z, M)
def zseen (Z : YZ) (i c : Int) : YZ := fun r => if r = 0 then yset (Z 0) 7 (i - 1) c else Z r
def kseen (Z : YZ) (M : YS) (i c : Int) : YK := if (1 ≤ i ∧ i ≤ 4) ∧ (0 ≤ c ∧ c < Z 0 0 0) then (Z 0 7 (i - 1), zseen Z i c, M) else (-2, Z, bump M 0)
def khow (Z : YZ) (M : YS) (q : Int) : Int := if q = 0 then Z 0 0 0 else if q = 1 then Z 0 1 0 else if q = 2 then Z 1 5 0 else if q = 3 then Z 2 0 0 else M 2 0
def kcount (Z : YZ) (M : YS) (q : Int) : YK := if 0 ≤ q ∧ q ≤ 4 then (khow Z M q, Z, M) else (-2, Z, bump M 0)
def kstatus (Z : YZ) (M : YS) (q : Int) : YK := if 0 ≤ q ∧ q ≤ 2 then (M 3 q, Z, M) else (-1, Z, bump M 0)
def iset (I : Int → YZ) (i : Int) (Z : YZ) : Int → YZ := fun j => if j = i then Z else I j
abbrev YK4 : Type := Int × YZ × (Int → YZ) × YS
def kimage (Z : YZ) (I : Int → YZ) (M : YS) (i : Int) : YK4 := if 0 ≤ i ∧ i < 2 then (1, Z, iset I i Z, yset M 0 i 1) else (-2, Z, I, bump M 0)
def kfrom (Z : YZ) (I : Int → YZ) (M : YS) (i : Int) : YK := if ¬ (0 ≤ i ∧ i < 2) then (-2, Z, bump M 0) else if M 0 i = 0 then (-3, Z, bump M 1) else (1, zw (I i) (Z 1 6 0), M)
/-- a number more mixed in -/
def ymix (h v : Int) : Int := yladd (ylmul 31 h) v
def mixr (f : Int → Int) : Nat → Int → Int
  | 0, h => h
  | n + 1, h => ymix (mixr f n h) (f n)
def mixm (E D : YS) (i h : Int) : Int := mixr (msg E i) (E 3 i).toNat (ymix (ymix (ymix (ymix (ymix (ymix h (E 2 i)) (D 1 i)) (D 2 i)) (D 3 i)) (D 4 i)) (E 3 i))
def mixms (E D : YS) : Nat → Int → Int
  | 0, h => h
  | n + 1, h => mixm E D n (mixms E D n h)
def kdigest (Z : YZ) (M : YS) : Int := mixr (Z 0 7) 4 (mixms (Z 0) (Z 1) (Z 0 1 0).toNat (mixr (Z 1 0) (Z 0 0 0).toNat (mixr (khow Z M) 5 809)))
theorem mstep_w {E D : YS} {v : Int} : mstep E (yset D 6 0 v) = mstep E D := by
  have : yset (yset D 6 0 v) 6 0 0 = yset D 6 0 0 := by
    funext r c
    by_cases e : r = 6 ∧ c = 0
    · obtain ⟨rfl, rfl⟩ := e; rw [yeq, yeq]
    · rw [yne e rfl, yne e rfl, yne e rfl]
  unfold mstep
  rw [this]
theorem msteps_w {E D : YS} {v r c : Int} (hr : r ≠ 6) : ∀ n : Nat, msteps E (yset D 6 0 v) n r c = msteps E D n r c
  | 0 => yne (by omega) rfl
  | n + 1 => by
    have : msteps E (yset D 6 0 v) (n + 1) = msteps E D (n + 1) := by
      clear hr
      induction n with
      | zero => exact mstep_w
      | succ n ih => show mstep E (msteps E (yset D 6 0 v) (n + 1)) = _; rw [ih]; rfl
    rw [this]
theorem mgo_cong {E D C : YS} (h : ∀ i, D 4 i = C 4 i) : ∀ n : Nat, mgo E D n = mgo E C n
  | 0 => rfl
  | n + 1 => by unfold mgo; rw [mgo_cong h n, h]
theorem sets_w {E D : YS} {v b : Int} (h : sets E (yset D 6 0 v) b) : sets E D b := by
  have e : ∀ n : Nat, mgo E (msteps E (yset D 6 0 v) n) (E 1 0).toNat = mgo E (msteps E D n) (E 1 0).toNat := fun n => mgo_cong (fun i => msteps_w (by omega) n) _
  rcases h with ⟨h1, h2, h3, h4⟩ | ⟨h1, h2⟩
  · exact Or.inl ⟨h1, h2, by rw [← e]; exact h3, fun u hu => by rw [← e]; exact h4 u hu⟩
  · exact Or.inr ⟨h1, fun u hu => by rw [← e]; exact h2 u hu⟩
theorem dG_w6 {E D : YS} {v : Int} (h : dG E D) : dG E (yset D 6 0 v) := dG_x h (by omega)
theorem zG_step {Z : YZ} {N : Int} (h : zG Z N) : zG (zstep Z) (N + 1) := by
  obtain ⟨h1, h2, h3, h4, h5, h6⟩ := h
  have h7 : mstep (Z 0) (Z 1) 5 0 = Z 1 5 0 + 1 := mstep_5
  refine ⟨h1, dG_step h2 h1, ?_, ?_, h5, fun k a b => ?_⟩
  · show 0 ≤ mstep (Z 0) (Z 1) 5 0 ∧ mstep (Z 0) (Z 1) 5 0 ≤ N + 1; omega
  · show 0 ≤ min (Z 2 0 0 + 1) 20 ∧ min (Z 2 0 0 + 1) 20 ≤ 20 ∧ min (Z 2 0 0 + 1) 20 ≤ mstep (Z 0) (Z 1) 5 0; omega
  · have b : k < min (Z 2 0 0 + 1) 20 := b
    show dG (Z 0) (zstep Z (3 + k)) ∧ zstep Z (3 + k) 5 0 = mstep (Z 0) (Z 1) 5 0 - 1 - k
    by_cases e : k = 0
    · subst e
      exact ⟨h2, by show Z 1 5 0 = _; omega⟩
    · have : zstep Z (3 + k) = Z (3 + (k - 1)) := by
        unfold zstep
        rw [if_neg (by omega), if_neg (by omega), if_neg (by omega), if_neg (by omega), show 3 + k - 1 = 3 + (k - 1) by omega]
      rw [this]
      have := h6 (k - 1) (by omega) (by omega)
      exact ⟨this.1, by omega⟩
theorem zG_undo {Z : YZ} {N : Int} (h : zG Z N) (hu : Z 2 0 0 ≠ 0) : zG (zundo Z) N := by
  obtain ⟨h1, h2, h3, h4, h5, h6⟩ := h
  have h7 := h6 0 (by omega) (by omega)
  have e5 : yset (Z 3) 6 0 (Z 1 6 0) 5 0 = Z 3 5 0 := yne (by omega) rfl
  have h7' : Z 3 5 0 = Z 1 5 0 - 1 - 0 := h7.2
  refine ⟨h1, dG_w6 h7.1, ?_, ?_, h5, fun k a b => ?_⟩
  · show 0 ≤ yset (Z 3) 6 0 (Z 1 6 0) 5 0 ∧ yset (Z 3) 6 0 (Z 1 6 0) 5 0 ≤ N; omega
  · show 0 ≤ Z 2 0 0 - 1 ∧ Z 2 0 0 - 1 ≤ 20 ∧ Z 2 0 0 - 1 ≤ yset (Z 3) 6 0 (Z 1 6 0) 5 0; omega
  · have b : k < Z 2 0 0 - 1 := b
    have : zundo Z (3 + k) = Z (3 + (k + 1)) := by
      unfold zundo
      rw [if_neg (by omega), if_neg (by omega), if_neg (by omega), show 3 + k + 1 = 3 + (k + 1) by omega]
    show dG (Z 0) (zundo Z (3 + k)) ∧ zundo Z (3 + k) 5 0 = yset (Z 3) 6 0 (Z 1 6 0) 5 0 - 1 - k
    rw [this]
    have := h6 (k + 1) (by omega) (by omega)
    exact ⟨this.1, by omega⟩
theorem seenE_g {E : YS} {j v r c : Int} (hr : r ≠ 7) : yset E 7 j v r c = E r c := yne (by omega) rfl
theorem eG_seen {E : YS} {j v : Int} (h : eG E) : eG (yset E 7 j v) := by
  have := h.2.1
  unfold eG
  rw [seenE_g (r := 0) (by omega), seenE_g (r := 1) (by omega)]
  exact ⟨h.1, h.2.1, fun i a b => eGm_E (h.2.2 i a b) (seenE_g (by omega)) (seenE_g (by omega)) (fun k _ _ => seenE_g (by omega))⟩
theorem dG_seen {E D : YS} {j v : Int} (he : eG E) (h : dG E D) : dG (yset E 7 j v) D := by
  have := he.2.1
  unfold dG
  rw [seenE_g (r := 1) (by omega)]
  exact ⟨h.1, fun i a b => dGm_E (h.2 i a b) (by rw [seenE_g (by omega)]; omega) (seenE_g (by omega)) (fun k _ _ => seenE_g (by omega)) (fun _ _ _ => rfl)⟩
theorem zG_seen {Z : YZ} {N i c : Int} (hc : 0 ≤ c ∧ c < Z 0 0 0) (h : zG Z N) : zG (zseen Z i c) N := by
  obtain ⟨h1, h2, h3, h4, h5, h6⟩ := h
  refine ⟨eG_seen h1, dG_seen h1 h2, h3, h4, ⟨by show yset (Z 0) 7 (i - 1) c 6 0 = 7; rw [seenE_g (by omega)]; exact h5.1, fun j a b => by
    show 0 ≤ yset (Z 0) 7 (i - 1) c 7 j ∧ yset (Z 0) 7 (i - 1) c 7 j < 9
    have := h1.1
    by_cases e : j = i - 1
    · subst e; rw [yeq]; omega
    · rw [yne (by omega) rfl]; exact h5.2 j a b⟩, fun k a b => ?_⟩
  have b : k < Z 2 0 0 := b
  have : zseen Z i c (3 + k) = Z (3 + k) := by unfold zseen; rw [if_neg (by omega)]
  rw [this]
  exact ⟨dG_seen h1 (h6 k a b).1, (h6 k a b).2⟩
theorem zG_w {Z : YZ} {N v : Int} (h : zG Z N) : zG (zw Z v) N := by
  obtain ⟨h1, h2, h3, h4, h5, h6⟩ := h
  have e : (yset (Z 1) 6 0 v) 5 0 = Z 1 5 0 := yne (by omega) rfl
  refine ⟨h1, dG_w6 h2, ?_, ?_, h5, fun k a b => ?_⟩
  · show 0 ≤ (yset (Z 1) 6 0 v) 5 0 ∧ (yset (Z 1) 6 0 v) 5 0 ≤ N; omega
  · show 0 ≤ Z 2 0 0 ∧ Z 2 0 0 ≤ 20 ∧ Z 2 0 0 ≤ (yset (Z 1) 6 0 v) 5 0; omega
  · have : zw Z v (3 + k) = Z (3 + k) := by unfold zw; rw [if_neg (by omega)]
    rw [this]
    show _ ∧ _ = (yset (Z 1) 6 0 v) 5 0 - 1 - k
    rw [e]
    exact h6 k a b
theorem wG_step {Z : YZ} {I : Int → YZ} {M : YS} {N : Int} (hg : wG Z I M N) : wG (kstep Z M).2.1 I (kstep Z M).2.2 (N + 1) := wG_Z (wG_N hg (by omega)) (zG_step hg.1)
theorem wG_undo {Z : YZ} {I : Int → YZ} {M : YS} {N : Int} (hg : wG Z I M N) : wG (kundo Z M).2.1 I (kundo Z M).2.2 (N + 1) := by
  unfold kundo
  split
  · exact wG_bump hg (by omega)
  · rename_i h; exact wG_N (wG_Z hg (zG_undo hg.1 h)) (by omega)
theorem wG_seen {Z : YZ} {I : Int → YZ} {M : YS} {N i c : Int} (hg : wG Z I M N) : wG (kseen Z M i c).2.1 I (kseen Z M i c).2.2 (N + 1) := by
  unfold kseen
  split
  · rename_i h; exact wG_N (wG_Z hg (zG_seen h.2 hg.1)) (by omega)
  · exact wG_bump hg (by omega)
theorem wG_from {Z : YZ} {I : Int → YZ} {M : YS} {N i : Int} (hg : wG Z I M N) : wG (kfrom Z I M i).2.1 I (kfrom Z I M i).2.2 (N + 1) := by
  unfold kfrom
  split
  · exact wG_bump hg (by omega)
  split
  · exact wG_bump hg (by omega)
  · rename_i h1 h2
    have := hg.2.1 i (by omega) (by omega)
    exact wG_N (wG_Z hg (zG_w (this.2 (by omega)))) (by omega)
theorem wG_clear {Z : YZ} {I : Int → YZ} {M : YS} {N : Int} (hg : wG Z I M N) : wG (kclear Z M).2.1 I (kclear Z M).2.2 (N + 1) := by
  obtain ⟨h1, h2, h3, h4⟩ := wG_N hg (show N ≤ N + 1 by omega)
  have e : ∀ r c, r ≠ 2 → yset M 2 0 0 r c = M r c := fun r c h => yne (by omega) rfl
  refine ⟨h1, fun j a b => ?_, ?_, fun j a b => ?_⟩
  · show (yset M 2 0 0 0 j = 0 ∨ yset M 2 0 0 0 j = 1) ∧ (yset M 2 0 0 0 j = 1 → _); rw [e 0 j (by omega)]; exact h2 j a b
  · show 0 ≤ yset M 2 0 0 2 0 ∧ yset M 2 0 0 2 0 ≤ 200 ∧ ∀ k, 0 ≤ k → k < yset M 2 0 0 2 0 → _
    rw [yeq]
    exact ⟨by omega, by omega, fun k a b => by omega⟩
  · show 0 ≤ yset M 2 0 0 3 j ∧ yset M 2 0 0 3 j ≤ N + 1; rw [e 3 j (by omega)]; exact h4 j a b
theorem wG_image {Z : YZ} {I : Int → YZ} {M : YS} {N i : Int} (hg : wG Z I M N) : wG (kimage Z I M i).2.1 (kimage Z I M i).2.2.1 (kimage Z I M i).2.2.2 (N + 1) := by
  unfold kimage
  split
  · rename_i hi
    obtain ⟨h1, h2, h3, h4⟩ := wG_N hg (show N ≤ N + 1 by omega)
    have e : ∀ r c, r ≠ 0 → yset M 0 i 1 r c = M r c := fun r c h => yne (by omega) rfl
    refine ⟨h1, fun j a b => ?_, ?_, fun j a b => ?_⟩
    · show (yset M 0 i 1 0 j = 0 ∨ yset M 0 i 1 0 j = 1) ∧ (yset M 0 i 1 0 j = 1 → zG (iset I i Z j) (N + 1))
      unfold iset
      by_cases z : j = i
      · subst z; rw [yeq, if_pos rfl]; exact ⟨Or.inr rfl, fun _ => h1⟩
      · rw [yne (by omega) rfl, if_neg z]; exact h2 j a b
    · show 0 ≤ yset M 0 i 1 2 0 ∧ yset M 0 i 1 2 0 ≤ 200 ∧ ∀ k, 0 ≤ k → k < yset M 0 i 1 2 0 → 0 ≤ yset M 0 i 1 1 k ∧ _
      rw [e 2 0 (by omega)]
      exact ⟨h3.1, h3.2.1, fun k a b => by show 0 ≤ yset M 0 i 1 1 k ∧ yset M 0 i 1 1 k ≤ 255; rw [e 1 k (by omega)]; exact h3.2.2 k a b⟩
    · show 0 ≤ yset M 0 i 1 3 j ∧ yset M 0 i 1 3 j ≤ N + 1; rw [e 3 j (by omega)]; exact h4 j a b
  · exact wG_bump hg (by omega)
theorem c_howMany {g : Launch × XG × va_G} {σ : YS} {Z : YZ} {I : Int → YZ} {M : YS} {N : Int} {q : Int} (hx : xW σ Z I M) (hg : wG Z I M N) (hN : N < 100000) (hq : 0 ≤ q ∧ q ≤ 4) : YI g 103 [(2, 0), (0, q)] σ (fun b σ' => σ = σ' ∧ khow Z M q = b) := by
  refine y_start rfl rfl rfl ?_
  have ⟨⟨hr, hu⟩, x2, x3, ⟨x4, x5⟩, x6⟩ := hx
  have ⟨⟨he, hd, hn, hu2, h67, hk⟩, g2, g3, g4⟩ := hg
  have ⟨⟨f1, f2, f3, f4⟩, f5, f6, g7, g8⟩ := hr
  have ⟨e1, e2, e3⟩ := he
  have ⟨u1, u2, u3⟩ := hu
  have x60 : σ 0 11 = M 3 0 := x6 0 (by omega) (by omega)
  have x61 : σ 0 12 = M 3 1 := x6 1 (by omega) (by omega)
  have x62 : σ 0 13 = M 3 2 := x6 2 (by omega) (by omega)
  have g40 := g4 0 (by omega) (by omega)
  have g41 := g4 1 (by omega) (by omega)
  have g42 := g4 2 (by omega) (by omega)
  have f5 : ∀ c, 0 ≤ c → c < 9 → σ 2 c = Z 1 0 c := f5
  have f6 : ∀ i, 0 ≤ i → i < Z 0 1 0 → repm σ (4 + 3 * i) (Z 0) (Z 1) i := f6
  refine y_iload rfl rfl ?_
  refine y_tsw4 rfl rfl (by decide) rfl rfl rfl rfl rfl (fun q1 => ?_) (fun q1 => ?_) (fun q1 => ?_) (fun q1 => ?_) (fun q1 => ?_)
  · skip
    refine y_aload rfl rfl rfl ?_
    refine y_gfr (t := 140) rfl rfl (by decide) rfl (by decide) ?_
    refine y_gfi (v := (σ 140 2)) rfl rfl (by decide) rfl (by decide) rfl rfl ?_
    refine y_iret rfl rfl ⟨_, rfl, ?_⟩
    have hK : khow Z M q = M 2 0 := (if_neg (by omega)).trans ((if_neg (by omega)).trans ((if_neg (by omega)).trans ((if_neg (by omega)).trans (rfl))))
    exact ⟨rfl, by rw [hK]; exact (x4).symm⟩
  · skip
    refine y_aload rfl rfl rfl ?_
    refine y_gfr (t := 1) rfl rfl (by decide) rfl (by decide) ?_
    refine y_gfi (v := (σ 1 4)) rfl (yS_c yS_1) (yS_0 yS_1).1 rfl (by decide) rfl rfl ?_
    refine y_iret rfl rfl ⟨_, rfl, ?_⟩
    have hK : khow Z M q = Z 0 0 0 := if_pos (by omega)
    exact ⟨rfl, by rw [hK]; exact (f1).symm⟩
  · skip
    refine y_aload rfl rfl rfl ?_
    refine y_gfr (t := 1) rfl rfl (by decide) rfl (by decide) ?_
    refine y_gfi (v := (σ 1 5)) rfl (yS_c yS_1) (yS_0 yS_1).1 rfl (by decide) rfl rfl ?_
    refine y_iret rfl rfl ⟨_, rfl, ?_⟩
    have hK : khow Z M q = Z 0 1 0 := (if_neg (by omega)).trans (if_pos (by omega))
    exact ⟨rfl, by rw [hK]; exact (f2).symm⟩
  · skip
    refine y_aload rfl rfl rfl ?_
    refine y_gfr (t := 1) rfl rfl (by decide) rfl (by decide) ?_
    refine y_gfi (v := (σ 1 6)) rfl (yS_c yS_1) (yS_0 yS_1).1 rfl (by decide) rfl rfl ?_
    refine y_iret rfl rfl ⟨_, rfl, ?_⟩
    have hK : khow Z M q = Z 1 5 0 := (if_neg (by omega)).trans ((if_neg (by omega)).trans (if_pos (by omega)))
    exact ⟨rfl, by rw [hK]; exact (f3).symm⟩
  · skip
    refine y_aload rfl rfl rfl ?_
    refine y_gfr (t := 15) rfl rfl (by decide) rfl (by decide) ?_
    refine y_gfi (v := (σ 15 1)) rfl (yP_c yP_15) (by have := yP_0 yP_15; omega) rfl (by decide) rfl rfl ?_
    refine y_iret rfl rfl ⟨_, rfl, ?_⟩
    have hK : khow Z M q = Z 2 0 0 := (if_neg (by omega)).trans ((if_neg (by omega)).trans ((if_neg (by omega)).trans (if_pos (by omega))))
    exact ⟨rfl, by rw [hK]; exact (u1).symm⟩
theorem c_count {g : Launch × XG × va_G} {σ : YS} {Z : YZ} {I : Int → YZ} {M : YS} {N : Int} {q : Int} (hx : xW σ Z I M) (hg : wG Z I M N) (hN : N < 100000) : YI g 102 [(2, 0), (0, q)] σ (fun b σ' => b = (kcount Z M q).1 ∧ xW σ' (kcount Z M q).2.1 I (kcount Z M q).2.2 ∧ mfr σ σ') := by
  refine y_start rfl rfl rfl ?_
  have ⟨⟨hr, hu⟩, x2, x3, ⟨x4, x5⟩, x6⟩ := hx
  have ⟨⟨he, hd, hn, hu2, h67, hk⟩, g2, g3, g4⟩ := hg
  have ⟨⟨f1, f2, f3, f4⟩, f5, f6, g7, g8⟩ := hr
  have ⟨e1, e2, e3⟩ := he
  have ⟨u1, u2, u3⟩ := hu
  have x60 : σ 0 11 = M 3 0 := x6 0 (by omega) (by omega)
  have x61 : σ 0 12 = M 3 1 := x6 1 (by omega) (by omega)
  have x62 : σ 0 13 = M 3 2 := x6 2 (by omega) (by omega)
  have g40 := g4 0 (by omega) (by omega)
  have g41 := g4 1 (by omega) (by omega)
  have g42 := g4 2 (by omega) (by omega)
  have f5 : ∀ c, 0 ≤ c → c < 9 → σ 2 c = Z 1 0 c := f5
  have f6 : ∀ i, 0 ≤ i → i < Z 0 1 0 → repm σ (4 + 3 * i) (Z 0) (Z 1) i := f6
  refine y_iload rfl rfl ?_
  refine y_iflt rfl (fun q1 => ?_) (fun q1 => ?_)
  · skip
    refine y_aload rfl rfl rfl ?_
    refine y_push rfl ?_
    refine y_vi (as := [(2, 0), (0, (-2))]) (S := []) rfl rfl rfl rfl rfl rfl (by decide) rfl (c_bad (by omega)) ?_
    rintro _ _ ⟨rfl, rfl⟩
    refine y_iret rfl rfl ⟨_, rfl, ?_⟩
    have hK : kcount Z M q = (_, Z, bump M 0) := if_neg (by omega)
    rw [hK]
    exact ⟨rfl, xW_bump hg hx (by omega) rfl rfl, mfr_s (mfr_0 _) (by omega)⟩
  · skip
    refine y_iload rfl rfl ?_
    refine y_push rfl ?_
    refine y_icle rfl (fun q6 => ?_) (fun q6 => ?_)
    · skip
      refine y_aload rfl rfl rfl ?_
      refine y_iload rfl rfl ?_
      refine y_vi (as := [(2, 0), (0, q)]) (S := []) rfl rfl rfl rfl rfl rfl (by decide) rfl (c_howMany hx hg hN (by omega)) ?_
      rintro _ _ ⟨rfl, rfl⟩
      refine y_iret rfl rfl ⟨_, rfl, ?_⟩
      have hK : kcount Z M q = (khow Z M q, Z, M) := if_pos (by omega)
      rw [hK]
      exact ⟨rfl, hx, mfr_0 _⟩
    · skip
      refine y_aload rfl rfl rfl ?_
      refine y_push rfl ?_
      refine y_vi (as := [(2, 0), (0, (-2))]) (S := []) rfl rfl rfl rfl rfl rfl (by decide) rfl (c_bad (by omega)) ?_
      rintro _ _ ⟨rfl, rfl⟩
      refine y_iret rfl rfl ⟨_, rfl, ?_⟩
      have hK : kcount Z M q = (_, Z, bump M 0) := if_neg (by omega)
      rw [hK]
      exact ⟨rfl, xW_bump hg hx (by omega) rfl rfl, mfr_s (mfr_0 _) (by omega)⟩
theorem c_status {g : Launch × XG × va_G} {σ : YS} {Z : YZ} {I : Int → YZ} {M : YS} {N : Int} {q : Int} (hx : xW σ Z I M) (hg : wG Z I M N) (hN : N < 100000) : YI g 100 [(2, 0), (0, q)] σ (fun b σ' => b = (kstatus Z M q).1 ∧ xW σ' (kstatus Z M q).2.1 I (kstatus Z M q).2.2 ∧ mfr σ σ') := by
  refine y_start rfl rfl rfl ?_
  have ⟨⟨hr, hu⟩, x2, x3, ⟨x4, x5⟩, x6⟩ := hx
  have ⟨⟨he, hd, hn, hu2, h67, hk⟩, g2, g3, g4⟩ := hg
  have ⟨⟨f1, f2, f3, f4⟩, f5, f6, g7, g8⟩ := hr
  have ⟨e1, e2, e3⟩ := he
  have ⟨u1, u2, u3⟩ := hu
  have x60 : σ 0 11 = M 3 0 := x6 0 (by omega) (by omega)
  have x61 : σ 0 12 = M 3 1 := x6 1 (by omega) (by omega)
  have x62 : σ 0 13 = M 3 2 := x6 2 (by omega) (by omega)
  have g40 := g4 0 (by omega) (by omega)
  have g41 := g4 1 (by omega) (by omega)
  have g42 := g4 2 (by omega) (by omega)
  have f5 : ∀ c, 0 ≤ c → c < 9 → σ 2 c = Z 1 0 c := f5
  have f6 : ∀ i, 0 ≤ i → i < Z 0 1 0 → repm σ (4 + 3 * i) (Z 0) (Z 1) i := f6
  refine y_iload rfl rfl ?_
  refine y_tsw3 rfl rfl (by decide) rfl rfl rfl rfl (fun q1 => ?_) (fun q1 => ?_) (fun q1 => ?_) (fun q1 => ?_)
  · skip
    refine y_aload rfl rfl rfl ?_
    refine y_push rfl ?_
    refine y_vi (as := [(2, 0), (0, (-1))]) (S := []) rfl rfl rfl rfl rfl rfl (by decide) rfl (c_bad (by omega)) ?_
    rintro _ _ ⟨rfl, rfl⟩
    refine y_iret rfl rfl ⟨_, rfl, ?_⟩
    have hK : kstatus Z M q = (_, Z, bump M 0) := if_neg (by omega)
    rw [hK]
    exact ⟨rfl, xW_bump hg hx (by omega) rfl rfl, mfr_s (mfr_0 _) (by omega)⟩
  · skip
    refine y_aload rfl rfl rfl ?_
    refine y_gfi (v := (σ 0 11)) rfl rfl (by decide) rfl (by decide) rfl rfl ?_
    refine y_iret rfl rfl ⟨_, rfl, ?_⟩
    have hw : q = 0 := by omega
    subst hw
    have hK : kstatus Z M 0 = (M 3 0, Z, M) := if_pos (by omega)
    rw [hK]
    exact ⟨x60, hx, mfr_0 _⟩
  · skip
    refine y_aload rfl rfl rfl ?_
    refine y_gfi (v := (σ 0 12)) rfl rfl (by decide) rfl (by decide) rfl rfl ?_
    refine y_iret rfl rfl ⟨_, rfl, ?_⟩
    have hw : q = 1 := by omega
    subst hw
    have hK : kstatus Z M 1 = (M 3 1, Z, M) := if_pos (by omega)
    rw [hK]
    exact ⟨x61, hx, mfr_0 _⟩
  · skip
    refine y_aload rfl rfl rfl ?_
    refine y_gfi (v := (σ 0 13)) rfl rfl (by decide) rfl (by decide) rfl rfl ?_
    refine y_iret rfl rfl ⟨_, rfl, ?_⟩
    have hw : q = 2 := by omega
    subst hw
    have hK : kstatus Z M 2 = (M 3 2, Z, M) := if_pos (by omega)
    rw [hK]
    exact ⟨x62, hx, mfr_0 _⟩
theorem zst_seen {σ τ : YS} {Z : YZ} {i c : Int} (he : eG (Z 0)) (h : zst σ 1 15 Z) (e : ∀ x y, x ≠ 13 → τ x y = σ x y) (e13 : ∀ y, τ 13 y = if y = i - 1 then c else σ 13 y) : zst τ 1 15 (zseen Z i c) := by
  obtain ⟨⟨⟨f1, f2, f3, f4⟩, f5, f6, g7, g8⟩, u1, u2, u3⟩ := h
  have z1 : ∀ r q, r ≠ 7 → zseen Z i c 0 r q = Z 0 r q := fun r q hr => seenE_g hr
  have hm := he.2.1
  refine ⟨⟨⟨?_, ?_, ?_, ?_⟩, fun x a b => ?_, fun x a b => ?_, ?_, fun j a b => ?_⟩, ?_, u2, fun k a b => ?_⟩
  · rw [z1 _ _ (by omega), e _ _ (by omega)]; exact f1
  · rw [z1 _ _ (by omega), e _ _ (by omega)]; exact f2
  · rw [e _ _ (by omega)]; exact f3
  · rw [e _ _ (by omega)]; exact f4
  · rw [e _ _ (by omega)]; exact f5 x a b
  · rw [z1 _ _ (by omega)] at b
    exact repm_cong (repm_E (f6 x a b) (z1 _ _ (by omega)) (z1 _ _ (by omega)) (fun k _ _ => z1 _ _ (by omega)) (fun _ _ _ => rfl)) (fun x y p q => e x y (by omega))
  · rw [z1 _ _ (by omega)]; exact g7
  · have g : σ 13 j = Z 0 7 j := g8 j a b
    show τ 13 j = yset (Z 0) 7 (i - 1) c 7 j
    rw [e13]
    split
    · rename_i z; rw [z, yeq]
    · rw [yne (by omega) rfl]; exact g
  · rw [e _ _ (by omega)]; exact u1
  · have b : k < Z 2 0 0 := b
    have z3 : zseen Z i c (3 + k) = Z (3 + k) := by unfold zseen; rw [if_neg (by omega)]
    obtain ⟨c1, c2, c3, c4⟩ := u3 k a b
    show rowc τ _ (yset (Z 0) 7 (i - 1) c) (zseen Z i c (3 + k))
    rw [z3]
    refine rowc_cong (σ := σ) (by rw [seenE_g (by omega)]; exact hm) ⟨c1, fun x p q => ?_, by rw [seenE_g (by omega)]; exact c3, c4⟩ (fun x p q => e _ _ (by show 15 + 2 + (Z 1 5 0 - 1 - k) % 20 ≠ 13; omega))
    rw [seenE_g (by omega)] at q
    have := c2 x p q
    unfold rowci at this ⊢
    rw [mfl_E (seenE_g (by omega)) (fun k _ _ => seenE_g (by omega)), seenE_g (by omega)]
    exact this
theorem c_seen {g : Launch × XG × va_G} {σ : YS} {Z : YZ} {I : Int → YZ} {M : YS} {N : Int} {i c : Int} (hx : xW σ Z I M) (hg : wG Z I M N) (hN : N < 100000) : YI g 87 [(2, 0), (0, i), (0, c)] σ (fun b σ' => b = (kseen Z M i c).1 ∧ xW σ' (kseen Z M i c).2.1 I (kseen Z M i c).2.2 ∧ mfr σ σ') := by
  refine y_start rfl rfl rfl ?_
  have ⟨⟨hr, hu⟩, x2, x3, ⟨x4, x5⟩, x6⟩ := hx
  have ⟨⟨he, hd, hn, hu2, h67, hk⟩, g2, g3, g4⟩ := hg
  have ⟨⟨f1, f2, f3, f4⟩, f5, f6, g7, g8⟩ := hr
  have ⟨e1, e2, e3⟩ := he
  have ⟨u1, u2, u3⟩ := hu
  have x60 : σ 0 11 = M 3 0 := x6 0 (by omega) (by omega)
  have x61 : σ 0 12 = M 3 1 := x6 1 (by omega) (by omega)
  have x62 : σ 0 13 = M 3 2 := x6 2 (by omega) (by omega)
  have g40 := g4 0 (by omega) (by omega)
  have g41 := g4 1 (by omega) (by omega)
  have g42 := g4 2 (by omega) (by omega)
  have f5 : ∀ c, 0 ≤ c → c < 9 → σ 2 c = Z 1 0 c := f5
  have f6 : ∀ i, 0 ≤ i → i < Z 0 1 0 → repm σ (4 + 3 * i) (Z 0) (Z 1) i := f6
  have h58 : ∀ j, 0 ≤ j → j < 4 → σ 13 j = Z 0 7 j := g8
  have e0 := hg.1.1
  refine y_iload rfl rfl ?_
  refine y_push rfl ?_
  refine y_iclt rfl (fun q2 => ?_) (fun q2 => ?_)
  · skip
    refine y_aload rfl rfl rfl ?_
    refine y_push rfl ?_
    refine y_vi (as := [(2, 0), (0, (-2))]) (S := []) rfl rfl rfl rfl rfl rfl (by decide) rfl (c_bad (by omega)) ?_
    rintro _ _ ⟨rfl, rfl⟩
    refine y_iret rfl rfl ⟨_, rfl, ?_⟩
    have hK : kseen Z M i c = (_, Z, bump M 0) := if_neg (by omega)
    rw [hK]
    exact ⟨rfl, xW_bump hg hx (by omega) rfl rfl, mfr_s (mfr_0 _) (by omega)⟩
  · skip
    refine y_iload rfl rfl ?_
    refine y_push rfl ?_
    refine y_icgt rfl (fun q7 => ?_) (fun q7 => ?_)
    · skip
      refine y_aload rfl rfl rfl ?_
      refine y_push rfl ?_
      refine y_vi (as := [(2, 0), (0, (-2))]) (S := []) rfl rfl rfl rfl rfl rfl (by decide) rfl (c_bad (by omega)) ?_
      rintro _ _ ⟨rfl, rfl⟩
      refine y_iret rfl rfl ⟨_, rfl, ?_⟩
      have hK : kseen Z M i c = (_, Z, bump M 0) := if_neg (by omega)
      rw [hK]
      exact ⟨rfl, xW_bump hg hx (by omega) rfl rfl, mfr_s (mfr_0 _) (by omega)⟩
    · skip
      refine y_aload rfl rfl rfl ?_
      refine y_gfr (t := 1) rfl rfl (by decide) rfl (by decide) ?_
      refine y_iload rfl rfl ?_
      refine y_vi (as := [(2, 1), (0, c)]) (S := []) rfl rfl rfl rfl rfl rfl (yS_0 yS_1).1 (yS_c yS_1) (c_hasCell yS_1) ?_
      rintro _ _ ⟨rfl, rfl⟩
      refine y_ifne rfl (fun q18 => ?_) (fun q18 => ?_)
      · skip
        replace q18 := yb_1.mp q18
        refine y_aload rfl rfl rfl ?_
        refine y_gfr (t := 1) rfl rfl (by decide) rfl (by decide) ?_
        refine y_gfr (t := 13) rfl (yS_c yS_1) (yS_0 yS_1).1 rfl (by decide) ?_
        refine y_iload rfl rfl ?_
        refine y_push rfl ?_
        refine y_isub (v := (i - 1)) rfl rfl (by omega) ?_
        refine y_iald (v := (σ 13 (i - 1))) (n := 4) rfl rfl (by decide) rfl (by omega) rfl ?_
        refine y_istore (L' := [some (2, 0), some (0, i), some (0, c), some (0, (σ 13 (i - 1)))]) rfl rfl rfl rfl ?_
        refine y_aload rfl rfl rfl ?_
        refine y_gfr (t := 1) rfl rfl (by decide) rfl (by decide) ?_
        refine y_gfr (t := 13) rfl (yS_c yS_1) (yS_0 yS_1).1 rfl (by decide) ?_
        refine y_iload rfl rfl ?_
        refine y_push rfl ?_
        refine y_isub (v := (i - 1)) rfl rfl (by omega) ?_
        refine y_iload rfl rfl ?_
        refine y_iast (n := 4) rfl rfl (by decide) rfl (by omega) ?_
        refine y_iload rfl rfl ?_
        refine y_iret rfl rfl ⟨_, rfl, ?_⟩
        have hK : kseen Z M i c = (Z 0 7 (i - 1), zseen Z i c, M) := if_pos ⟨by omega, by omega⟩
        rw [hK]
        exact ⟨h58 _ (by omega) (by omega), xW_rest hg hx (zst_seen e0 hx.1 (fun x y z => yne (by omega) rfl) (fun y => by split; rename_i z; rw [z, yeq]; rw [yne (by omega) rfl])) (fun x y z => yne (by omega) rfl), mfr_s (mfr_0 _) (by omega)⟩
      · skip
        replace q18 := yb_0.mp q18
        refine y_aload rfl rfl rfl ?_
        refine y_push rfl ?_
        refine y_vi (as := [(2, 0), (0, (-2))]) (S := []) rfl rfl rfl rfl rfl rfl (by decide) rfl (c_bad (by omega)) ?_
        rintro _ _ ⟨rfl, rfl⟩
        refine y_iret rfl rfl ⟨_, rfl, ?_⟩
        have hK : kseen Z M i c = (_, Z, bump M 0) := if_neg (by omega)
        rw [hK]
        exact ⟨rfl, xW_bump hg hx (by omega) rfl rfl, mfr_s (mfr_0 _) (by omega)⟩
theorem xW_text {σ τ : YS} {Z : YZ} {I : Int → YZ} {M M' : YS} {N : Int} (hg : wG Z I M N) (h : xW σ Z I M) (e : ∀ x y, ¬ (x = 140 ∧ y = 2) → x ≠ 141 → τ x y = σ x y) (em : ∀ r c, r ≠ 1 → r ≠ 2 → M' r c = M r c) (h2 : τ 140 2 = M' 2 0) (h1 : ∀ k, 0 ≤ k → k < M' 2 0 → τ 141 k = M' 1 k) : xW τ Z I M' := by
  obtain ⟨x1, x2, x3, x4, x6⟩ := h
  refine ⟨zst_cong hg.1.1.2.1 x1 (fun x y z => e x y (by omega) (by omega)), fun j a b c => ?_, fun j a b => by rw [em _ _ (by omega) (by omega), e _ _ (by omega) (by omega)]; exact x3 j a b, ⟨h2, h1⟩, fun j a b => by rw [em _ _ (by omega) (by omega), e _ _ (by omega) (by omega)]; exact x6 j a b⟩
  rw [em _ _ (by omega) (by omega)] at c
  rw [e (66 + 14 * j) 7 (by omega) (by omega)]
  exact zst_cong ((hg.2.1 j a b).2 c).1.2.1 (x2 j a b c) (fun x y z => e x y (by omega) (by omega))
theorem ybyte_r (v k : Int) : 0 ≤ ybyte v k ∧ ybyte v k ≤ 255 := by
  unfold ybyte yl2i yland
  have h := xand_le64 (Int64.ofInt (ylshr v (8 * k))) (Int64.ofInt 255) (by decide)
  have h255 : (Int64.ofInt 255).toInt = 255 := by decide
  rw [h255] at h
  have e : (Int64.ofInt (Int64.ofInt (ylshr v (8 * k)) &&& Int64.ofInt 255).toInt) = (Int64.ofInt (ylshr v (8 * k)) &&& Int64.ofInt 255) := Int64.ofInt_toInt _
  rw [e, Int64.toInt_toInt32, Int.bmod_eq_of_le (by omega) (by omega)]
  exact h
theorem c_clear {g : Launch × XG × va_G} {σ : YS} {Z : YZ} {I : Int → YZ} {M : YS} {N : Int}  (hx : xW σ Z I M) (hg : wG Z I M N) (hN : N < 100000) : YI g 40 [(2, 0)] σ (fun b σ' => b = (kclear Z M).1 ∧ xW σ' (kclear Z M).2.1 I (kclear Z M).2.2 ∧ mfr σ σ') := by
  refine y_start rfl rfl rfl ?_
  have ⟨⟨hr, hu⟩, x2, x3, ⟨x4, x5⟩, x6⟩ := hx
  have ⟨⟨he, hd, hn, hu2, h67, hk⟩, g2, g3, g4⟩ := hg
  have ⟨⟨f1, f2, f3, f4⟩, f5, f6, g7, g8⟩ := hr
  have ⟨e1, e2, e3⟩ := he
  have ⟨u1, u2, u3⟩ := hu
  have x60 : σ 0 11 = M 3 0 := x6 0 (by omega) (by omega)
  have x61 : σ 0 12 = M 3 1 := x6 1 (by omega) (by omega)
  have x62 : σ 0 13 = M 3 2 := x6 2 (by omega) (by omega)
  have g40 := g4 0 (by omega) (by omega)
  have g41 := g4 1 (by omega) (by omega)
  have g42 := g4 2 (by omega) (by omega)
  have f5 : ∀ c, 0 ≤ c → c < 9 → σ 2 c = Z 1 0 c := f5
  have f6 : ∀ i, 0 ≤ i → i < Z 0 1 0 → repm σ (4 + 3 * i) (Z 0) (Z 1) i := f6
  refine y_aload rfl rfl rfl ?_
  refine y_gfr (t := 140) rfl rfl (by decide) rfl (by decide) ?_
  refine y_gfi (v := (σ 140 2)) rfl rfl (by decide) rfl (by decide) rfl rfl ?_
  refine y_istore (L' := [some (2, 0), some (0, (σ 140 2))]) rfl rfl rfl rfl ?_
  refine y_aload rfl rfl rfl ?_
  refine y_gfr (t := 140) rfl rfl (by decide) rfl (by decide) ?_
  refine y_push rfl ?_
  refine y_pfi (j := 2) rfl rfl (by decide) rfl rfl rfl rfl rfl ?_
  refine y_iload rfl rfl ?_
  refine y_iret rfl rfl ⟨_, rfl, ?_⟩
  unfold kclear
  dsimp only
  exact ⟨x4, xW_text hg hx (fun x y z z2 => yne (by omega) rfl) (fun r c p q => yne (by omega) rfl) (by rw [yeq, yeq]) (fun k a b => by rw [yeq] at b; omega), mfr_s (mfr_0 _) (by omega)⟩
theorem l_type {g : Launch × XG × va_G} {σ : YS} {Z : YZ} {I : Int → YZ} {M : YS} {N : Int} {v n : Int} (hx : xW σ Z I M) (hg : wG Z I M N) (hN : N < 100000) (hn : 1 ≤ n ∧ n ≤ 8) (hl : M 2 0 + n ≤ 200) : ∀ (nn : Nat) (τ : YS) (k : Int), k + 1 < (nn : Int) → (-1 ≤ k ∧ k ≤ n - 1) → (τ 140 2 = M 2 0 + (n - 1 - k)) → (∀ c, 0 ≤ c → c < M 2 0 + (n - 1 - k) → τ 141 c = mtype M v n 1 c) → (∀ x y, ¬ (x = 140 ∧ y = 2) → x ≠ 141 → τ x y = σ x y) → YW g 38 45 [some (2, 0), some (1, v), none, some (0, n), some (0, k)] [] τ (fun rv σ' => ∃ b, rv = some (0, b) ∧ (b = (ktype Z M v n).1 ∧ xW σ' (ktype Z M v n).2.1 I (ktype Z M v n).2.2 ∧ mfr σ σ')) := by
  intro nn
  induction nn with
  | zero =>
    intro τ k hn h0 h1 h2 h3
    exfalso
    omega
  | succ nn ih =>
    intro τ k hn h0 h1 h2 h3
    have ⟨⟨a1, a2, a3, a4, a5, a6⟩, g2, g3, g4⟩ := hg
    refine y_iload rfl rfl ?_
    refine y_iflt rfl (fun q47 => ?_) (fun q47 => ?_)
    · skip
      refine y_aload rfl rfl rfl ?_
      refine y_gfr (t := 140) rfl rfl (by decide) rfl (by decide) ?_
      refine y_gfi (v := (τ 140 2)) rfl rfl (by decide) rfl (by decide) rfl rfl ?_
      refine y_iret rfl rfl ⟨_, rfl, ?_⟩
      have hK : ktype Z M v n = (M 2 0 + n, Z, mtype M v n) := (if_neg (by omega)).trans (if_neg (by omega))
      rw [hK]
      dsimp only
      have h20 : mtype M v n 2 0 = M 2 0 + n := by unfold mtype; rw [if_neg (by omega), if_pos ⟨rfl, rfl⟩]
      exact ⟨by omega, xW_text hg hx h3 (fun r c p q => by unfold mtype; rw [if_neg (by omega), if_neg (by omega)]) (by rw [h20]; omega) (fun c a b => h2 c a (by rw [h20] at b; omega)), fun x y z => h3 x y (by omega) (by omega)⟩
    · skip
      refine y_aload rfl rfl rfl ?_
      refine y_gfr (t := 140) rfl rfl (by decide) rfl (by decide) ?_
      refine y_gfr (t := 141) rfl rfl (by decide) rfl (by decide) ?_
      refine y_aload rfl rfl rfl ?_
      refine y_gfr (t := 140) rfl rfl (by decide) rfl (by decide) ?_
      refine y_gfi (v := (τ 140 2)) rfl rfl (by decide) rfl (by decide) rfl rfl ?_
      refine y_lload rfl rfl ?_
      refine y_push rfl ?_
      refine y_iload rfl rfl ?_
      refine y_imul (v := (8 * k)) rfl rfl (by omega) ?_
      refine y_lshr (v := (ylshr v (8 * k))) rfl rfl ?_
      refine y_ldc2 (v := 255) rfl rfl ?_
      refine y_land (v := (yland (ylshr v (8 * k)) 255)) rfl rfl ?_
      refine y_l2i (v := (yl2i (yland (ylshr v (8 * k)) 255))) rfl rfl ?_
      refine y_iast (n := 200) rfl rfl (by decide) rfl (by omega) ?_
      refine y_aload rfl rfl rfl ?_
      refine y_gfr (t := 140) rfl rfl (by decide) rfl (by decide) ?_
      refine y_dup rfl rfl ?_
      refine y_gfi (v := (τ 140 2)) rfl rfl (by decide) rfl (by decide) rfl (yne (by omega) rfl) ?_
      refine y_push rfl ?_
      refine y_iadd (v := ((τ 140 2) + 1)) rfl rfl (by omega) ?_
      refine y_pfi (j := 2) rfl rfl (by decide) rfl rfl rfl rfl rfl ?_
      refine y_iinc (L' := [some (2, 0), some (1, v), none, some (0, n), some (0, (k + (-1)))]) rfl rfl rfl rfl rfl (by omega) ?_
      refine y_goto rfl ?_
      refine ih (yset (yset τ 141 (τ 140 2) (yl2i (yland (ylshr v (8 * k)) 255))) 140 2 ((τ 140 2) + 1)) (k + -1) (by omega) (by omega) (by rw [yeq]; omega) (fun c a b => ?_) (fun x y p q => by rw [yne (by omega) rfl, yne (by omega) rfl]; exact h3 x y p q)
      rw [yne (by omega) rfl]
      by_cases e : c = τ 140 2
      · subst e; rw [yeq]; show ybyte v k = _; unfold mtype; rw [if_pos ⟨rfl, by omega, by omega⟩, show n - 1 - (τ 140 2 - M 2 0) = k by omega]
      · rw [yne (by omega) rfl]; exact h2 c a (by omega)
theorem c_type {g : Launch × XG × va_G} {σ : YS} {Z : YZ} {I : Int → YZ} {M : YS} {N : Int} {v n : Int} (hx : xW σ Z I M) (hg : wG Z I M N) (hN : N < 100000) : YI g 38 [(2, 0), (1, v), (0, n)] σ (fun b σ' => b = (ktype Z M v n).1 ∧ xW σ' (ktype Z M v n).2.1 I (ktype Z M v n).2.2 ∧ mfr σ σ') := by
  refine y_start rfl rfl rfl ?_
  have ⟨⟨hr, hu⟩, x2, x3, ⟨x4, x5⟩, x6⟩ := hx
  have ⟨⟨he, hd, hn, hu2, h67, hk⟩, g2, g3, g4⟩ := hg
  have ⟨⟨f1, f2, f3, f4⟩, f5, f6, g7, g8⟩ := hr
  have ⟨e1, e2, e3⟩ := he
  have ⟨u1, u2, u3⟩ := hu
  have x60 : σ 0 11 = M 3 0 := x6 0 (by omega) (by omega)
  have x61 : σ 0 12 = M 3 1 := x6 1 (by omega) (by omega)
  have x62 : σ 0 13 = M 3 2 := x6 2 (by omega) (by omega)
  have g40 := g4 0 (by omega) (by omega)
  have g41 := g4 1 (by omega) (by omega)
  have g42 := g4 2 (by omega) (by omega)
  have f5 : ∀ c, 0 ≤ c → c < 9 → σ 2 c = Z 1 0 c := f5
  have f6 : ∀ i, 0 ≤ i → i < Z 0 1 0 → repm σ (4 + 3 * i) (Z 0) (Z 1) i := f6
  refine y_iload rfl rfl ?_
  refine y_push rfl ?_
  refine y_iclt rfl (fun q2 => ?_) (fun q2 => ?_)
  · skip
    refine y_aload rfl rfl rfl ?_
    refine y_push rfl ?_
    refine y_vi (as := [(2, 0), (0, (-2))]) (S := []) rfl rfl rfl rfl rfl rfl (by decide) rfl (c_bad (by omega)) ?_
    rintro _ _ ⟨rfl, rfl⟩
    refine y_iret rfl rfl ⟨_, rfl, ?_⟩
    have hK : ktype Z M v n = (_, Z, bump M 0) := if_pos (by omega)
    rw [hK]
    exact ⟨rfl, xW_bump hg hx (by omega) rfl rfl, mfr_s (mfr_0 _) (by omega)⟩
  · skip
    refine y_iload rfl rfl ?_
    refine y_push rfl ?_
    refine y_icle rfl (fun q8 => ?_) (fun q8 => ?_)
    · skip
      refine y_aload rfl rfl rfl ?_
      refine y_gfr (t := 140) rfl rfl (by decide) rfl (by decide) ?_
      refine y_gfi (v := (σ 140 2)) rfl rfl (by decide) rfl (by decide) rfl rfl ?_
      refine y_iload rfl rfl ?_
      refine y_iadd (v := ((σ 140 2) + n)) rfl rfl (by omega) ?_
      refine y_push rfl ?_
      refine y_icle rfl (fun q30 => ?_) (fun q30 => ?_)
      · skip
        refine y_iload rfl rfl ?_
        refine y_push rfl ?_
        refine y_isub (v := (n - 1)) rfl rfl (by omega) ?_
        refine y_istore (L' := [some (2, 0), some (1, v), none, some (0, n), some (0, (n - 1))]) rfl rfl rfl rfl ?_
        exact l_type hx hg hN ⟨by omega, by omega⟩ (by omega) 9 σ (n - 1) (by omega) (by omega) (by omega) (fun c a b => by unfold mtype; rw [if_neg (by omega), if_neg (by omega)]; exact x5 c a (by omega)) (fun x y _ _ => rfl)
      · skip
        refine y_aload rfl rfl rfl ?_
        refine y_push rfl ?_
        refine y_vi (as := [(2, 0), (0, (-4))]) (S := []) rfl rfl rfl rfl rfl rfl (by decide) rfl (c_refused_f (by omega) rfl) ?_
        rintro _ _ ⟨rfl, rfl⟩
        refine y_iret rfl rfl ⟨_, rfl, ?_⟩
        have hK : ktype Z M v n = (_, Z, bump M 2) := (if_neg (by omega)).trans (if_pos (by omega))
        rw [hK]
        exact ⟨rfl, xW_bump hg hx (by omega) rfl rfl, mfr_s (mfr_0 _) (by omega)⟩
    · skip
      refine y_aload rfl rfl rfl ?_
      refine y_push rfl ?_
      refine y_vi (as := [(2, 0), (0, (-2))]) (S := []) rfl rfl rfl rfl rfl rfl (by decide) rfl (c_bad (by omega)) ?_
      rintro _ _ ⟨rfl, rfl⟩
      refine y_iret rfl rfl ⟨_, rfl, ?_⟩
      have hK : ktype Z M v n = (_, Z, bump M 0) := if_pos (by omega)
      rw [hK]
      exact ⟨rfl, xW_bump hg hx (by omega) rfl rfl, mfr_s (mfr_0 _) (by omega)⟩
theorem pst_U {σ : YS} {p n : Int} {E : YS} {u : Int} {U V : Int → YS} (h : pst σ p n E u U) (e : ∀ k, 0 ≤ k → k < u → V k = U k) : pst σ p n E u V := ⟨h.1, h.2.1, fun k a b => by rw [e k a b]; exact h.2.2 k a b⟩
theorem zstep_U {Z : YZ} {k : Int} (h : 0 ≤ k) : zstep Z (3 + k) = upush (fun k => Z (3 + k)) (Z 1) k := by
  unfold upush zstep
  by_cases e : k = 0
  · subst e; rfl
  · rw [if_neg e, if_neg (by omega), if_neg (by omega), if_neg (by omega), if_neg (by omega)]
    show Z (3 + k - 1) = Z (3 + (k - 1))
    rw [show 3 + k - 1 = 3 + (k - 1) by omega]
theorem zundo_U {Z : YZ} {k : Int} (h : 0 ≤ k) : zundo Z (3 + k) = upop (fun k => Z (3 + k)) k := by
  unfold upop zundo
  rw [if_neg (by omega), if_neg (by omega), if_neg (by omega)]
  show Z (3 + k + 1) = Z (3 + (k + 1))
  rw [show 3 + k + 1 = 3 + (k + 1) by omega]
theorem c_step {g : Launch × XG × va_G} {σ : YS} {Z : YZ} {I : Int → YZ} {M : YS} {N : Int}  (hx : xW σ Z I M) (hg : wG Z I M N) (hN : N < 100000) : YI g 48 [(2, 0)] σ (fun b σ' => b = (kstep Z M).1 ∧ xW σ' (kstep Z M).2.1 I (kstep Z M).2.2 ∧ mfr σ σ') := by
  refine y_start rfl rfl rfl ?_
  have ⟨⟨hr, hu⟩, x2, x3, ⟨x4, x5⟩, x6⟩ := hx
  have ⟨⟨he, hd, hn, hu2, h67, hk⟩, g2, g3, g4⟩ := hg
  have ⟨⟨f1, f2, f3, f4⟩, f5, f6, g7, g8⟩ := hr
  have ⟨e1, e2, e3⟩ := he
  have ⟨u1, u2, u3⟩ := hu
  have x60 : σ 0 11 = M 3 0 := x6 0 (by omega) (by omega)
  have x61 : σ 0 12 = M 3 1 := x6 1 (by omega) (by omega)
  have x62 : σ 0 13 = M 3 2 := x6 2 (by omega) (by omega)
  have g40 := g4 0 (by omega) (by omega)
  have g41 := g4 1 (by omega) (by omega)
  have g42 := g4 2 (by omega) (by omega)
  have f5 : ∀ c, 0 ≤ c → c < 9 → σ 2 c = Z 1 0 c := f5
  have f6 : ∀ i, 0 ≤ i → i < Z 0 1 0 → repm σ (4 + 3 * i) (Z 0) (Z 1) i := f6
  refine y_aload rfl rfl rfl ?_
  refine y_gfr (t := 15) rfl rfl (by decide) rfl (by decide) ?_
  refine y_aload rfl rfl rfl ?_
  refine y_gfr (t := 1) rfl rfl (by decide) rfl (by decide) ?_
  refine y_vu (as := [(2, 15), (2, 1)]) (S := []) rfl rfl rfl rfl rfl rfl (by have := yP_0 yP_15; omega) (yP_c yP_15) (c_keep yP_15 yS_1 (by omega) hr he (by omega) hu) ?_
  rintro σ' ⟨z1, z2⟩
  have hr2 : rep σ' 1 (Z 0) (Z 1) := rep_cong e2.2 hr (fun x y a b => z2 x y (by omega))
  refine y_aload rfl rfl rfl ?_
  refine y_gfr (t := 1) rfl rfl (by decide) rfl (by decide) ?_
  refine y_vi (as := [(2, 1)]) (S := []) rfl rfl rfl rfl rfl rfl (yS_0 yS_1).1 (yS_c yS_1) (c_advance yS_1 hr2 he hd (by omega)) ?_
  rintro _ σ2 ⟨y1, rfl, y2⟩
  refine y_iret rfl rfl ⟨_, rfl, ?_⟩
  refine ⟨rfl, xW_rest hg hx ⟨y1, ?_⟩ (fun x y z => by rw [y2 _ _ (by omega), z2 _ _ (by omega)]), mfr_t (mfr_y z2 (by omega)) (mfr_y y2 (by omega))⟩
  have z3 := pst_cong (σ' := σ2) e2 z1 (fun x y a b => y2 x y (by omega))
  have h5 : mstep (Z 0) (Z 1) 5 0 = Z 1 5 0 + 1 := mstep_5
  show pst σ2 15 (mstep (Z 0) (Z 1) 5 0) (Z 0) (min (Z 2 0 0 + 1) 20) (fun k => zstep Z (3 + k))
  rw [h5]
  exact pst_U z3 (fun k a b => zstep_U a)
theorem c_undo {g : Launch × XG × va_G} {σ : YS} {Z : YZ} {I : Int → YZ} {M : YS} {N : Int}  (hx : xW σ Z I M) (hg : wG Z I M N) (hN : N < 100000) : YI g 60 [(2, 0)] σ (fun b σ' => b = (kundo Z M).1 ∧ xW σ' (kundo Z M).2.1 I (kundo Z M).2.2 ∧ mfr σ σ') := by
  refine y_start rfl rfl rfl ?_
  have ⟨⟨hr, hu⟩, x2, x3, ⟨x4, x5⟩, x6⟩ := hx
  have ⟨⟨he, hd, hn, hu2, h67, hk⟩, g2, g3, g4⟩ := hg
  have ⟨⟨f1, f2, f3, f4⟩, f5, f6, g7, g8⟩ := hr
  have ⟨e1, e2, e3⟩ := he
  have ⟨u1, u2, u3⟩ := hu
  have x60 : σ 0 11 = M 3 0 := x6 0 (by omega) (by omega)
  have x61 : σ 0 12 = M 3 1 := x6 1 (by omega) (by omega)
  have x62 : σ 0 13 = M 3 2 := x6 2 (by omega) (by omega)
  have g40 := g4 0 (by omega) (by omega)
  have g41 := g4 1 (by omega) (by omega)
  have g42 := g4 2 (by omega) (by omega)
  have f5 : ∀ c, 0 ≤ c → c < 9 → σ 2 c = Z 1 0 c := f5
  have f6 : ∀ i, 0 ≤ i → i < Z 0 1 0 → repm σ (4 + 3 * i) (Z 0) (Z 1) i := f6
  refine y_aload rfl rfl rfl ?_
  refine y_gfr (t := 15) rfl rfl (by decide) rfl (by decide) ?_
  refine y_gfi (v := (σ 15 1)) rfl (yP_c yP_15) (by have := yP_0 yP_15; omega) rfl (by decide) rfl rfl ?_
  refine y_ifne rfl (fun q7 => ?_) (fun q7 => ?_)
  · skip
    refine y_aload rfl rfl rfl ?_
    refine y_gfr (t := 15) rfl rfl (by decide) rfl (by decide) ?_
    refine y_aload rfl rfl rfl ?_
    refine y_gfr (t := 1) rfl rfl (by decide) rfl (by decide) ?_
    refine y_vu (as := [(2, 15), (2, 1)]) (S := []) rfl rfl rfl rfl rfl rfl (by have := yP_0 yP_15; omega) (yP_c yP_15) (c_giveBack yP_15 yS_1 (by omega) hr he (by omega) hu (by omega)) ?_
    rintro σ' ⟨z1, z2, z3⟩
    refine y_push rfl ?_
    refine y_iret rfl rfl ⟨_, rfl, ?_⟩
    have hK : kundo Z M = (1, zundo Z, M) := if_neg (by omega)
    rw [hK]
    refine ⟨rfl, xW_rest hg hx ⟨z1, ?_⟩ (fun x y z => z3 x y (by omega) (by omega)), fun x y z => z3 x y (by omega) (by omega)⟩
    have h5 : yset (Z 3) 6 0 (Z 1 6 0) 5 0 = Z 1 5 0 - 1 := by rw [yne (by omega) rfl]; have := (hk 0 (by omega) (by omega)).2; have t : Z (3 + 0) = Z 3 := rfl; rw [t] at this; omega
    show pst σ' 15 (yset (Z 3) 6 0 (Z 1 6 0) 5 0) (Z 0) (Z 2 0 0 - 1) (fun k => zundo Z (3 + k))
    rw [h5]
    exact pst_U z2 (fun k a b => zundo_U a)
  · skip
    refine y_aload rfl rfl rfl ?_
    refine y_dup rfl rfl ?_
    refine y_gfi (v := (σ 0 12)) rfl rfl (by decide) rfl (by decide) rfl rfl ?_
    refine y_push rfl ?_
    refine y_iadd (v := ((σ 0 12) + 1)) rfl rfl (by omega) ?_
    refine y_pfi (j := 12) rfl rfl (by decide) rfl rfl rfl rfl rfl ?_
    refine y_push rfl ?_
    refine y_iret rfl rfl ⟨_, rfl, ?_⟩
    have hK : kundo Z M = (_, Z, bump M 1) := if_pos (by omega)
    rw [hK]
    exact ⟨rfl, xW_bump hg hx (by omega) rfl rfl, mfr_s (mfr_0 _) (by omega)⟩
