/-- a stretch of a method's table -/
noncomputable def xqokR (own mn : String) (cc : ByteArray) (T : List (List XI)) (ws : List (List Nat)) (a k : Nat) : Bool := (List.range k).all fun j => match xtab T (a + j) with
  | none => true
  | some en => xqokP own mn cc ws (a + j) en
theorem xqokR_ok {own mn : String} {cc : ByteArray} {T : List (List XI)} {ws : List (List Nat)} {a k : Nat} (h : xqokR own mn cc T ws a k = true) {pc : Nat} (h1 : a ≤ pc) (h2 : pc < a + k) {en : XI} (ht : xtab T pc = some en) : xqokP own mn cc ws pc en = true := by
  have h3 := List.all_eq_true.mp h (pc - a) (List.mem_range.mpr (by omega))
  rw [show a + (pc - a) = pc by omega, ht] at h3
  exact h3
set_option maxRecDepth 100000 in
theorem xqtkL0 : xqokR "ClaySlipsLaw" "law" code xqTL xqTL_w 0 40 = true := by decide +kernel
set_option maxRecDepth 100000 in
theorem xqtkL1 : xqokR "ClaySlipsLaw" "law" code xqTL xqTL_w 40 40 = true := by decide +kernel
set_option maxRecDepth 100000 in
theorem xqtkL2 : xqokR "ClaySlipsLaw" "law" code xqTL xqTL_w 80 40 = true := by decide +kernel
set_option maxRecDepth 100000 in
theorem xqtkL3 : xqokR "ClaySlipsLaw" "law" code xqTL xqTL_w 120 40 = true := by decide +kernel
set_option maxRecDepth 100000 in
theorem xqtkL4 : xqokR "ClaySlipsLaw" "law" code xqTL xqTL_w 160 40 = true := by decide +kernel
set_option maxRecDepth 100000 in
theorem xqtkL5 : xqokR "ClaySlipsLaw" "law" code xqTL xqTL_w 200 40 = true := by decide +kernel
set_option maxRecDepth 100000 in
theorem xqtkL6 : xqokR "ClaySlipsLaw" "law" code xqTL xqTL_w 240 40 = true := by decide +kernel
set_option maxRecDepth 100000 in
theorem xqtkL7 : xqokR "ClaySlipsLaw" "law" code xqTL xqTL_w 280 40 = true := by decide +kernel
set_option maxRecDepth 100000 in
theorem xqtkL8 : xqokR "ClaySlipsLaw" "law" code xqTL xqTL_w 320 40 = true := by decide +kernel
set_option maxRecDepth 100000 in
theorem xqtkL9 : xqokR "ClaySlipsLaw" "law" code xqTL xqTL_w 360 40 = true := by decide +kernel
set_option maxRecDepth 100000 in
theorem xqtkL10 : xqokR "ClaySlipsLaw" "law" code xqTL xqTL_w 400 40 = true := by decide +kernel
set_option maxRecDepth 100000 in
theorem xqtkL11 : xqokR "ClaySlipsLaw" "law" code xqTL xqTL_w 440 40 = true := by decide +kernel
set_option maxRecDepth 100000 in
theorem xqtkL12 : xqokR "ClaySlipsLaw" "law" code xqTL xqTL_w 480 40 = true := by decide +kernel
set_option maxRecDepth 100000 in
theorem xqtkL13 : xqokR "ClaySlipsLaw" "law" code xqTL xqTL_w 520 40 = true := by decide +kernel
set_option maxRecDepth 100000 in
theorem xqtkL14 : xqokR "ClaySlipsLaw" "law" code xqTL xqTL_w 560 40 = true := by decide +kernel
set_option maxRecDepth 100000 in
theorem xqtkL15 : xqokR "ClaySlipsLaw" "law" code xqTL xqTL_w 600 40 = true := by decide +kernel
set_option maxRecDepth 100000 in
theorem xqtkL16 : xqokR "ClaySlipsLaw" "law" code xqTL xqTL_w 640 40 = true := by decide +kernel
set_option maxRecDepth 100000 in
theorem xqtkL17 : xqokR "ClaySlipsLaw" "law" code xqTL xqTL_w 680 40 = true := by decide +kernel
set_option maxRecDepth 100000 in
theorem xqtkL18 : xqokR "ClaySlipsLaw" "law" code xqTL xqTL_w 720 40 = true := by decide +kernel
set_option maxRecDepth 100000 in
theorem xqtkL19 : xqokR "ClaySlipsLaw" "law" code xqTL xqTL_w 760 40 = true := by decide +kernel
set_option maxRecDepth 100000 in
theorem xqtkL20 : xqokR "ClaySlipsLaw" "law" code xqTL xqTL_w 800 40 = true := by decide +kernel
set_option maxRecDepth 100000 in
theorem xqtkL21 : xqokR "ClaySlipsLaw" "law" code xqTL xqTL_w 840 40 = true := by decide +kernel
set_option maxRecDepth 100000 in
theorem xqtkL22 : xqokR "ClaySlipsLaw" "law" code xqTL xqTL_w 880 40 = true := by decide +kernel
set_option maxRecDepth 100000 in
theorem xqtkL23 : xqokR "ClaySlipsLaw" "law" code xqTL xqTL_w 920 40 = true := by decide +kernel
theorem xqtkL_len : xqTL.length = 59 := rfl
theorem xqtkL {pc : Nat} {en : XI} (ht : xtab xqTL pc = some en) : xqokP "ClaySlipsLaw" "law" code xqTL_w pc en = true := by
  have hlt : pc < 16 * 59 := by
    unfold xtab at ht
    split at ht
    · cases ht
    · rename_i l hl
      rw [xnth_eq] at hl
      have := (List.getElem?_eq_some_iff.mp hl).1
      rw [xqtkL_len] at this
      omega
  by_cases h0 : pc < 40
  · exact xqokR_ok xqtkL0 (by omega) (by omega) ht
  by_cases h1 : pc < 80
  · exact xqokR_ok xqtkL1 (by omega) (by omega) ht
  by_cases h2 : pc < 120
  · exact xqokR_ok xqtkL2 (by omega) (by omega) ht
  by_cases h3 : pc < 160
  · exact xqokR_ok xqtkL3 (by omega) (by omega) ht
  by_cases h4 : pc < 200
  · exact xqokR_ok xqtkL4 (by omega) (by omega) ht
  by_cases h5 : pc < 240
  · exact xqokR_ok xqtkL5 (by omega) (by omega) ht
  by_cases h6 : pc < 280
  · exact xqokR_ok xqtkL6 (by omega) (by omega) ht
  by_cases h7 : pc < 320
  · exact xqokR_ok xqtkL7 (by omega) (by omega) ht
  by_cases h8 : pc < 360
  · exact xqokR_ok xqtkL8 (by omega) (by omega) ht
  by_cases h9 : pc < 400
  · exact xqokR_ok xqtkL9 (by omega) (by omega) ht
  by_cases h10 : pc < 440
  · exact xqokR_ok xqtkL10 (by omega) (by omega) ht
  by_cases h11 : pc < 480
  · exact xqokR_ok xqtkL11 (by omega) (by omega) ht
  by_cases h12 : pc < 520
  · exact xqokR_ok xqtkL12 (by omega) (by omega) ht
  by_cases h13 : pc < 560
  · exact xqokR_ok xqtkL13 (by omega) (by omega) ht
  by_cases h14 : pc < 600
  · exact xqokR_ok xqtkL14 (by omega) (by omega) ht
  by_cases h15 : pc < 640
  · exact xqokR_ok xqtkL15 (by omega) (by omega) ht
  by_cases h16 : pc < 680
  · exact xqokR_ok xqtkL16 (by omega) (by omega) ht
  by_cases h17 : pc < 720
  · exact xqokR_ok xqtkL17 (by omega) (by omega) ht
  by_cases h18 : pc < 760
  · exact xqokR_ok xqtkL18 (by omega) (by omega) ht
  by_cases h19 : pc < 800
  · exact xqokR_ok xqtkL19 (by omega) (by omega) ht
  by_cases h20 : pc < 840
  · exact xqokR_ok xqtkL20 (by omega) (by omega) ht
  by_cases h21 : pc < 880
  · exact xqokR_ok xqtkL21 (by omega) (by omega) ht
  by_cases h22 : pc < 920
  · exact xqokR_ok xqtkL22 (by omega) (by omega) ht
  by_cases h23 : pc < 960
  · exact xqokR_ok xqtkL23 (by omega) (by omega) ht
  omega
