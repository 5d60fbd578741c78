set_option maxRecDepth 100000 in
theorem xqtk84 : xqokT (xqyn 84).cls (xqyn 84).name (xqcb 84) xqT84 xqT84_w = true := by decide +kernel
set_option maxRecDepth 100000 in
theorem xqtk85 : xqokT (xqyn 85).cls (xqyn 85).name (xqcb 85) xqT85 xqT85_w = true := by decide +kernel
set_option maxRecDepth 100000 in
theorem xqtk86 : xqokT (xqyn 86).cls (xqyn 86).name (xqcb 86) xqT86 xqT86_w = true := by decide +kernel
set_option maxRecDepth 100000 in
theorem xqtk87 : xqokT (xqyn 87).cls (xqyn 87).name (xqcb 87) xqT87 xqT87_w = true := by decide +kernel
set_option maxRecDepth 100000 in
theorem xqtk88 : xqokT (xqyn 88).cls (xqyn 88).name (xqcb 88) xqT88 xqT88_w = true := by decide +kernel
set_option maxRecDepth 100000 in
theorem xqtk89 : xqokT (xqyn 89).cls (xqyn 89).name (xqcb 89) xqT89 xqT89_w = true := by decide +kernel
set_option maxRecDepth 100000 in
theorem xqtk90 : xqokT (xqyn 90).cls (xqyn 90).name (xqcb 90) xqT90 xqT90_w = true := by decide +kernel
set_option maxRecDepth 100000 in
theorem xqtk91 : xqokT (xqyn 91).cls (xqyn 91).name (xqcb 91) xqT91 xqT91_w = true := by decide +kernel
set_option maxRecDepth 100000 in
theorem xqtk92 : xqokT (xqyn 92).cls (xqyn 92).name (xqcb 92) xqT92 xqT92_w = true := by decide +kernel
set_option maxRecDepth 100000 in
theorem xqtk93 : xqokT (xqyn 93).cls (xqyn 93).name (xqcb 93) xqT93 xqT93_w = true := by decide +kernel
set_option maxRecDepth 100000 in
theorem xqtk94 : xqokT (xqyn 94).cls (xqyn 94).name (xqcb 94) xqT94 xqT94_w = true := by decide +kernel
set_option maxRecDepth 100000 in
theorem xqtk95 : xqokT (xqyn 95).cls (xqyn 95).name (xqcb 95) xqT95 xqT95_w = true := by decide +kernel
set_option maxRecDepth 100000 in
theorem xqtk96 : xqokT (xqyn 96).cls (xqyn 96).name (xqcb 96) xqT96 xqT96_w = true := by decide +kernel
set_option maxRecDepth 100000 in
theorem xqtk97 : xqokT (xqyn 97).cls (xqyn 97).name (xqcb 97) xqT97 xqT97_w = true := by decide +kernel
set_option maxRecDepth 100000 in
theorem xqtk98 : xqokT (xqyn 98).cls (xqyn 98).name (xqcb 98) xqT98 xqT98_w = true := by decide +kernel
set_option maxRecDepth 100000 in
theorem xqtk99 : xqokT (xqyn 99).cls (xqyn 99).name (xqcb 99) xqT99 xqT99_w = true := by decide +kernel
set_option maxRecDepth 100000 in
theorem xqtk100 : xqokT (xqyn 100).cls (xqyn 100).name (xqcb 100) xqT100 xqT100_w = true := by decide +kernel
set_option maxRecDepth 100000 in
theorem xqtk101 : xqokT (xqyn 101).cls (xqyn 101).name (xqcb 101) xqT101 xqT101_w = true := by decide +kernel
set_option maxRecDepth 100000 in
theorem xqtk102 : xqokT (xqyn 102).cls (xqyn 102).name (xqcb 102) xqT102 xqT102_w = true := by decide +kernel
set_option maxRecDepth 100000 in
theorem xqtk103 : xqokT (xqyn 103).cls (xqyn 103).name (xqcb 103) xqT103 xqT103_w = true := by decide +kernel
set_option maxRecDepth 100000 in
theorem xqtk104 : xqokT (xqyn 104).cls (xqyn 104).name (xqcb 104) xqT104 xqT104_w = true := by decide +kernel
set_option maxRecDepth 100000 in
theorem xqtk105 : xqokT (xqyn 105).cls (xqyn 105).name (xqcb 105) xqT105 xqT105_w = true := by decide +kernel
set_option maxRecDepth 100000 in
theorem xqtk106 : xqokT (xqyn 106).cls (xqyn 106).name (xqcb 106) xqT106 xqT106_w = true := by decide +kernel
set_option maxRecDepth 100000 in
theorem xqtk107 : xqokT (xqyn 107).cls (xqyn 107).name (xqcb 107) xqT107 xqT107_w = true := by decide +kernel
set_option maxRecDepth 100000 in
theorem xqtk108 : xqokT (xqyn 108).cls (xqyn 108).name (xqcb 108) xqT108 xqT108_w = true := by decide +kernel
set_option maxRecDepth 100000 in
theorem xqtk109 : xqokT (xqyn 109).cls (xqyn 109).name (xqcb 109) xqT109 xqT109_w = true := by decide +kernel
set_option maxRecDepth 100000 in
theorem xqtk110 : xqokT (xqyn 110).cls (xqyn 110).name (xqcb 110) xqT110 xqT110_w = true := by decide +kernel
set_option maxRecDepth 100000 in
theorem xqtk111 : xqokT (xqyn 111).cls (xqyn 111).name (xqcb 111) xqT111 xqT111_w = true := by decide +kernel
theorem xqtk : ∀ i, i < 112 → xqokT (xqyn i).cls (xqyn i).name (xqcb i) ((xqTs[i]?).getD []) ((xqTws[i]?).getD []) = true := fun i h => match i, h with
  | 0, _ => xqtk0
  | 1, _ => xqtk1
  | 2, _ => xqtk2
  | 3, _ => xqtk3
  | 4, _ => xqtk4
  | 5, _ => xqtk5
  | 6, _ => xqtk6
  | 7, _ => xqtk7
  | 8, _ => xqtk8
  | 9, _ => xqtk9
  | 10, _ => xqtk10
  | 11, _ => xqtk11
  | 12, _ => xqtk12
  | 13, _ => xqtk13
  | 14, _ => xqtk14
  | 15, _ => xqtk15
  | 16, _ => xqtk16
  | 17, _ => xqtk17
  | 18, _ => xqtk18
  | 19, _ => xqtk19
  | 20, _ => xqtk20
  | 21, _ => xqtk21
  | 22, _ => xqtk22
  | 23, _ => xqtk23
  | 24, _ => xqtk24
  | 25, _ => xqtk25
  | 26, _ => xqtk26
  | 27, _ => xqtk27
  | 28, _ => xqtk28
  | 29, _ => xqtk29
  | 30, _ => xqtk30
  | 31, _ => xqtk31
  | 32, _ => xqtk32
  | 33, _ => xqtk33
  | 34, _ => xqtk34
  | 35, _ => xqtk35
  | 36, _ => xqtk36
  | 37, _ => xqtk37
  | 38, _ => xqtk38
  | 39, _ => xqtk39
  | 40, _ => xqtk40
  | 41, _ => xqtk41
  | 42, _ => xqtk42
  | 43, _ => xqtk43
  | 44, _ => xqtk44
  | 45, _ => xqtk45
  | 46, _ => xqtk46
  | 47, _ => xqtk47
  | 48, _ => xqtk48
  | 49, _ => xqtk49
  | 50, _ => xqtk50
  | 51, _ => xqtk51
  | 52, _ => xqtk52
  | 53, _ => xqtk53
  | 54, _ => xqtk54
  | 55, _ => xqtk55
  | 56, _ => xqtk56
  | 57, _ => xqtk57
  | 58, _ => xqtk58
  | 59, _ => xqtk59
  | 60, _ => xqtk60
  | 61, _ => xqtk61
  | 62, _ => xqtk62
  | 63, _ => xqtk63
  | 64, _ => xqtk64
  | 65, _ => xqtk65
  | 66, _ => xqtk66
  | 67, _ => xqtk67
  | 68, _ => xqtk68
  | 69, _ => xqtk69
  | 70, _ => xqtk70
  | 71, _ => xqtk71
  | 72, _ => xqtk72
  | 73, _ => xqtk73
  | 74, _ => xqtk74
  | 75, _ => xqtk75
  | 76, _ => xqtk76
  | 77, _ => xqtk77
  | 78, _ => xqtk78
  | 79, _ => xqtk79
  | 80, _ => xqtk80
  | 81, _ => xqtk81
  | 82, _ => xqtk82
  | 83, _ => xqtk83
  | 84, _ => xqtk84
  | 85, _ => xqtk85
  | 86, _ => xqtk86
  | 87, _ => xqtk87
  | 88, _ => xqtk88
  | 89, _ => xqtk89
  | 90, _ => xqtk90
  | 91, _ => xqtk91
  | 92, _ => xqtk92
  | 93, _ => xqtk93
  | 94, _ => xqtk94
  | 95, _ => xqtk95
  | 96, _ => xqtk96
  | 97, _ => xqtk97
  | 98, _ => xqtk98
  | 99, _ => xqtk99
  | 100, _ => xqtk100
  | 101, _ => xqtk101
  | 102, _ => xqtk102
  | 103, _ => xqtk103
  | 104, _ => xqtk104
  | 105, _ => xqtk105
  | 106, _ => xqtk106
  | 107, _ => xqtk107
  | 108, _ => xqtk108
  | 109, _ => xqtk109
  | 110, _ => xqtk110
  | 111, _ => xqtk111
  | k + 112, h => absurd h (by omega)
