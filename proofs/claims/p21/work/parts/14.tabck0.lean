/-- a method's table against its bytes and the words -/
def xqokP (own mn : String) (cc : ByteArray) (ws : List (List Nat)) (pc : Nat) (en : XI) : Bool := match en with
  | (op, A, B, nx, r1, r2, r3) => bif Nat.beq op 99 then true else (match decode cc pc with
    | .ok (ins, len) => xqokI own mn pc len op A B nx r1 r2 r3 ((ws[pc]?).getD []) ins
    | _ => false)
noncomputable def xqokT (own mn : String) (cc : ByteArray) (T : List (List XI)) (ws : List (List Nat)) : Bool := (List.range (16 * T.length)).all fun pc => match xtab T pc with
  | none => true
  | some en => xqokP own mn cc ws pc en
theorem xqtab_ok {own mn : String} {cc : ByteArray} {T : List (List XI)} {ws : List (List Nat)} (h : xqokT own mn cc T ws = true) {pc : Nat} {en : XI} (ht : xtab T pc = some en) : xqokP own mn cc ws pc en = true := by
  have hlt : pc < 16 * T.length := by
    unfold xtab at ht
    split at ht
    · cases ht
    · rename_i l hl
      rw [xnth_eq] at hl
      have := (List.getElem?_eq_some_iff.mp hl).1
      omega
  have h1 := List.all_eq_true.mp h pc (List.mem_range.mpr hlt)
  rw [ht] at h1
  exact h1
set_option maxRecDepth 100000 in
theorem xqtk0 : xqokT (xqyn 0).cls (xqyn 0).name (xqcb 0) xqT0 xqT0_w = true := by decide +kernel
set_option maxRecDepth 100000 in
theorem xqtk1 : xqokT (xqyn 1).cls (xqyn 1).name (xqcb 1) xqT1 xqT1_w = true := by decide +kernel
set_option maxRecDepth 100000 in
theorem xqtk2 : xqokT (xqyn 2).cls (xqyn 2).name (xqcb 2) xqT2 xqT2_w = true := by decide +kernel
set_option maxRecDepth 100000 in
theorem xqtk3 : xqokT (xqyn 3).cls (xqyn 3).name (xqcb 3) xqT3 xqT3_w = true := by decide +kernel
set_option maxRecDepth 100000 in
theorem xqtk4 : xqokT (xqyn 4).cls (xqyn 4).name (xqcb 4) xqT4 xqT4_w = true := by decide +kernel
set_option maxRecDepth 100000 in
theorem xqtk5 : xqokT (xqyn 5).cls (xqyn 5).name (xqcb 5) xqT5 xqT5_w = true := by decide +kernel
set_option maxRecDepth 100000 in
theorem xqtk6 : xqokT (xqyn 6).cls (xqyn 6).name (xqcb 6) xqT6 xqT6_w = true := by decide +kernel
set_option maxRecDepth 100000 in
theorem xqtk7 : xqokT (xqyn 7).cls (xqyn 7).name (xqcb 7) xqT7 xqT7_w = true := by decide +kernel
set_option maxRecDepth 100000 in
theorem xqtk8 : xqokT (xqyn 8).cls (xqyn 8).name (xqcb 8) xqT8 xqT8_w = true := by decide +kernel
set_option maxRecDepth 100000 in
theorem xqtk9 : xqokT (xqyn 9).cls (xqyn 9).name (xqcb 9) xqT9 xqT9_w = true := by decide +kernel
set_option maxRecDepth 100000 in
theorem xqtk10 : xqokT (xqyn 10).cls (xqyn 10).name (xqcb 10) xqT10 xqT10_w = true := by decide +kernel
set_option maxRecDepth 100000 in
theorem xqtk11 : xqokT (xqyn 11).cls (xqyn 11).name (xqcb 11) xqT11 xqT11_w = true := by decide +kernel
set_option maxRecDepth 100000 in
theorem xqtk12 : xqokT (xqyn 12).cls (xqyn 12).name (xqcb 12) xqT12 xqT12_w = true := by decide +kernel
set_option maxRecDepth 100000 in
theorem xqtk13 : xqokT (xqyn 13).cls (xqyn 13).name (xqcb 13) xqT13 xqT13_w = true := by decide +kernel
set_option maxRecDepth 100000 in
theorem xqtk14 : xqokT (xqyn 14).cls (xqyn 14).name (xqcb 14) xqT14 xqT14_w = true := by decide +kernel
set_option maxRecDepth 100000 in
theorem xqtk15 : xqokT (xqyn 15).cls (xqyn 15).name (xqcb 15) xqT15 xqT15_w = true := by decide +kernel
set_option maxRecDepth 100000 in
theorem xqtk16 : xqokT (xqyn 16).cls (xqyn 16).name (xqcb 16) xqT16 xqT16_w = true := by decide +kernel
set_option maxRecDepth 100000 in
theorem xqtk17 : xqokT (xqyn 17).cls (xqyn 17).name (xqcb 17) xqT17 xqT17_w = true := by decide +kernel
set_option maxRecDepth 100000 in
theorem xqtk18 : xqokT (xqyn 18).cls (xqyn 18).name (xqcb 18) xqT18 xqT18_w = true := by decide +kernel
set_option maxRecDepth 100000 in
theorem xqtk19 : xqokT (xqyn 19).cls (xqyn 19).name (xqcb 19) xqT19 xqT19_w = true := by decide +kernel
set_option maxRecDepth 100000 in
theorem xqtk20 : xqokT (xqyn 20).cls (xqyn 20).name (xqcb 20) xqT20 xqT20_w = true := by decide +kernel
set_option maxRecDepth 100000 in
theorem xqtk21 : xqokT (xqyn 21).cls (xqyn 21).name (xqcb 21) xqT21 xqT21_w = true := by decide +kernel
set_option maxRecDepth 100000 in
theorem xqtk22 : xqokT (xqyn 22).cls (xqyn 22).name (xqcb 22) xqT22 xqT22_w = true := by decide +kernel
set_option maxRecDepth 100000 in
theorem xqtk23 : xqokT (xqyn 23).cls (xqyn 23).name (xqcb 23) xqT23 xqT23_w = true := by decide +kernel
set_option maxRecDepth 100000 in
theorem xqtk24 : xqokT (xqyn 24).cls (xqyn 24).name (xqcb 24) xqT24 xqT24_w = true := by decide +kernel
set_option maxRecDepth 100000 in
theorem xqtk25 : xqokT (xqyn 25).cls (xqyn 25).name (xqcb 25) xqT25 xqT25_w = true := by decide +kernel
set_option maxRecDepth 100000 in
theorem xqtk26 : xqokT (xqyn 26).cls (xqyn 26).name (xqcb 26) xqT26 xqT26_w = true := by decide +kernel
set_option maxRecDepth 100000 in
theorem xqtk27 : xqokT (xqyn 27).cls (xqyn 27).name (xqcb 27) xqT27 xqT27_w = true := by decide +kernel
set_option maxRecDepth 100000 in
theorem xqtk28 : xqokT (xqyn 28).cls (xqyn 28).name (xqcb 28) xqT28 xqT28_w = true := by decide +kernel
set_option maxRecDepth 100000 in
theorem xqtk29 : xqokT (xqyn 29).cls (xqyn 29).name (xqcb 29) xqT29 xqT29_w = true := by decide +kernel
set_option maxRecDepth 100000 in
theorem xqtk30 : xqokT (xqyn 30).cls (xqyn 30).name (xqcb 30) xqT30 xqT30_w = true := by decide +kernel
set_option maxRecDepth 100000 in
theorem xqtk31 : xqokT (xqyn 31).cls (xqyn 31).name (xqcb 31) xqT31 xqT31_w = true := by decide +kernel
set_option maxRecDepth 100000 in
theorem xqtk32 : xqokT (xqyn 32).cls (xqyn 32).name (xqcb 32) xqT32 xqT32_w = true := by decide +kernel
set_option maxRecDepth 100000 in
theorem xqtk33 : xqokT (xqyn 33).cls (xqyn 33).name (xqcb 33) xqT33 xqT33_w = true := by decide +kernel
set_option maxRecDepth 100000 in
theorem xqtk34 : xqokT (xqyn 34).cls (xqyn 34).name (xqcb 34) xqT34 xqT34_w = true := by decide +kernel
set_option maxRecDepth 100000 in
theorem xqtk35 : xqokT (xqyn 35).cls (xqyn 35).name (xqcb 35) xqT35 xqT35_w = true := by decide +kernel
set_option maxRecDepth 100000 in
theorem xqtk36 : xqokT (xqyn 36).cls (xqyn 36).name (xqcb 36) xqT36 xqT36_w = true := by decide +kernel
set_option maxRecDepth 100000 in
theorem xqtk37 : xqokT (xqyn 37).cls (xqyn 37).name (xqcb 37) xqT37 xqT37_w = true := by decide +kernel
set_option maxRecDepth 100000 in
theorem xqtk38 : xqokT (xqyn 38).cls (xqyn 38).name (xqcb 38) xqT38 xqT38_w = true := by decide +kernel
set_option maxRecDepth 100000 in
theorem xqtk39 : xqokT (xqyn 39).cls (xqyn 39).name (xqcb 39) xqT39 xqT39_w = true := by decide +kernel
set_option maxRecDepth 100000 in
theorem xqtk40 : xqokT (xqyn 40).cls (xqyn 40).name (xqcb 40) xqT40 xqT40_w = true := by decide +kernel
