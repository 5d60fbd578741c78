set_option maxRecDepth 100000 in
theorem xqtk123 : xqokT (xqyn 123).cls (xqyn 123).name (xqcb 123) xqT123 xqT123_w = true := by decide +kernel
set_option maxRecDepth 100000 in
theorem xqtk124 : xqokT (xqyn 124).cls (xqyn 124).name (xqcb 124) xqT124 xqT124_w = true := by decide +kernel
set_option maxRecDepth 100000 in
theorem xqtk125 : xqokT (xqyn 125).cls (xqyn 125).name (xqcb 125) xqT125 xqT125_w = true := by decide +kernel
set_option maxRecDepth 100000 in
theorem xqtk126 : xqokT (xqyn 126).cls (xqyn 126).name (xqcb 126) xqT126 xqT126_w = true := by decide +kernel
set_option maxRecDepth 100000 in
theorem xqtk127 : xqokT (xqyn 127).cls (xqyn 127).name (xqcb 127) xqT127 xqT127_w = true := by decide +kernel
set_option maxRecDepth 100000 in
theorem xqtk128 : xqokT (xqyn 128).cls (xqyn 128).name (xqcb 128) xqT128 xqT128_w = true := by decide +kernel
set_option maxRecDepth 100000 in
theorem xqtk129 : xqokT (xqyn 129).cls (xqyn 129).name (xqcb 129) xqT129 xqT129_w = true := by decide +kernel
set_option maxRecDepth 100000 in
theorem xqtk130 : xqokT (xqyn 130).cls (xqyn 130).name (xqcb 130) xqT130 xqT130_w = true := by decide +kernel
set_option maxRecDepth 100000 in
theorem xqtk131 : xqokT (xqyn 131).cls (xqyn 131).name (xqcb 131) xqT131 xqT131_w = true := by decide +kernel
set_option maxRecDepth 100000 in
theorem xqtk132 : xqokT (xqyn 132).cls (xqyn 132).name (xqcb 132) xqT132 xqT132_w = true := by decide +kernel
set_option maxRecDepth 100000 in
theorem xqtk133 : xqokT (xqyn 133).cls (xqyn 133).name (xqcb 133) xqT133 xqT133_w = true := by decide +kernel
set_option maxRecDepth 100000 in
theorem xqtk134 : xqokT (xqyn 134).cls (xqyn 134).name (xqcb 134) xqT134 xqT134_w = true := by decide +kernel
set_option maxRecDepth 100000 in
theorem xqtk135 : xqokT (xqyn 135).cls (xqyn 135).name (xqcb 135) xqT135 xqT135_w = true := by decide +kernel
set_option maxRecDepth 100000 in
theorem xqtk136 : xqokT (xqyn 136).cls (xqyn 136).name (xqcb 136) xqT136 xqT136_w = true := by decide +kernel
set_option maxRecDepth 100000 in
theorem xqtk137 : xqokT (xqyn 137).cls (xqyn 137).name (xqcb 137) xqT137 xqT137_w = true := by decide +kernel
set_option maxRecDepth 100000 in
theorem xqtk138 : xqokT (xqyn 138).cls (xqyn 138).name (xqcb 138) xqT138 xqT138_w = true := by decide +kernel
set_option maxRecDepth 100000 in
theorem xqtk139 : xqokT (xqyn 139).cls (xqyn 139).name (xqcb 139) xqT139 xqT139_w = true := by decide +kernel
set_option maxRecDepth 100000 in
theorem xqtk140 : xqokT (xqyn 140).cls (xqyn 140).name (xqcb 140) xqT140 xqT140_w = true := by decide +kernel
set_option maxRecDepth 100000 in
theorem xqtk141 : xqokT (xqyn 141).cls (xqyn 141).name (xqcb 141) xqT141 xqT141_w = true := by decide +kernel
set_option maxRecDepth 100000 in
theorem xqtk142 : xqokT (xqyn 142).cls (xqyn 142).name (xqcb 142) xqT142 xqT142_w = true := by decide +kernel
set_option maxRecDepth 100000 in
theorem xqtk143 : xqokT (xqyn 143).cls (xqyn 143).name (xqcb 143) xqT143 xqT143_w = true := by decide +kernel
set_option maxRecDepth 100000 in
theorem xqtk144 : xqokT (xqyn 144).cls (xqyn 144).name (xqcb 144) xqT144 xqT144_w = true := by decide +kernel
set_option maxRecDepth 100000 in
theorem xqtk145 : xqokT (xqyn 145).cls (xqyn 145).name (xqcb 145) xqT145 xqT145_w = true := by decide +kernel
set_option maxRecDepth 100000 in
theorem xqtk146 : xqokT (xqyn 146).cls (xqyn 146).name (xqcb 146) xqT146 xqT146_w = true := by decide +kernel
set_option maxRecDepth 100000 in
theorem xqtk147 : xqokT (xqyn 147).cls (xqyn 147).name (xqcb 147) xqT147 xqT147_w = true := by decide +kernel
set_option maxRecDepth 100000 in
theorem xqtk148 : xqokT (xqyn 148).cls (xqyn 148).name (xqcb 148) xqT148 xqT148_w = true := by decide +kernel
set_option maxRecDepth 100000 in
theorem xqtk149 : xqokT (xqyn 149).cls (xqyn 149).name (xqcb 149) xqT149 xqT149_w = true := by decide +kernel
set_option maxRecDepth 100000 in
theorem xqtk150 : xqokT (xqyn 150).cls (xqyn 150).name (xqcb 150) xqT150 xqT150_w = true := by decide +kernel
set_option maxRecDepth 100000 in
theorem xqtk151 : xqokT (xqyn 151).cls (xqyn 151).name (xqcb 151) xqT151 xqT151_w = true := by decide +kernel
set_option maxRecDepth 100000 in
theorem xqtk152 : xqokT (xqyn 152).cls (xqyn 152).name (xqcb 152) xqT152 xqT152_w = true := by decide +kernel
set_option maxRecDepth 100000 in
theorem xqtk153 : xqokT (xqyn 153).cls (xqyn 153).name (xqcb 153) xqT153 xqT153_w = true := by decide +kernel
set_option maxRecDepth 100000 in
theorem xqtk154 : xqokT (xqyn 154).cls (xqyn 154).name (xqcb 154) xqT154 xqT154_w = true := by decide +kernel
set_option maxRecDepth 100000 in
theorem xqtk155 : xqokT (xqyn 155).cls (xqyn 155).name (xqcb 155) xqT155 xqT155_w = true := by decide +kernel
set_option maxRecDepth 100000 in
theorem xqtk156 : xqokT (xqyn 156).cls (xqyn 156).name (xqcb 156) xqT156 xqT156_w = true := by decide +kernel
set_option maxRecDepth 100000 in
theorem xqtk157 : xqokT (xqyn 157).cls (xqyn 157).name (xqcb 157) xqT157 xqT157_w = true := by decide +kernel
set_option maxRecDepth 100000 in
theorem xqtk158 : xqokT (xqyn 158).cls (xqyn 158).name (xqcb 158) xqT158 xqT158_w = true := by decide +kernel
set_option maxRecDepth 100000 in
theorem xqtk159 : xqokT (xqyn 159).cls (xqyn 159).name (xqcb 159) xqT159 xqT159_w = true := by decide +kernel
set_option maxRecDepth 100000 in
theorem xqtk160 : xqokT (xqyn 160).cls (xqyn 160).name (xqcb 160) xqT160 xqT160_w = true := by decide +kernel
set_option maxRecDepth 100000 in
theorem xqtk161 : xqokT (xqyn 161).cls (xqyn 161).name (xqcb 161) xqT161 xqT161_w = true := by decide +kernel
set_option maxRecDepth 100000 in
theorem xqtk162 : xqokT (xqyn 162).cls (xqyn 162).name (xqcb 162) xqT162 xqT162_w = true := by decide +kernel
theorem xqtk : ∀ i, i < 163 → xqokT (xqyn i).cls (xqyn i).name (xqcb i) ((xqTs[i]?).getD []) ((xqTws[i]?).getD []) = true := fun i h => match i, h with
  | 0, _ => xqtk0
  | 1, _ => xqtk1
  | 2, _ => xqtk2
  | 3, _ => xqtk3
  | 4, _ => xqtk4
  | 5, _ => xqtk5
  | 6, _ => xqtk6
  | 7, _ => xqtk7
  | 8, _ => xqtk8
  | 9, _ => xqtk9
  | 10, _ => xqtk10
  | 11, _ => xqtk11
  | 12, _ => xqtk12
  | 13, _ => xqtk13
  | 14, _ => xqtk14
  | 15, _ => xqtk15
  | 16, _ => xqtk16
  | 17, _ => xqtk17
  | 18, _ => xqtk18
  | 19, _ => xqtk19
  | 20, _ => xqtk20
  | 21, _ => xqtk21
  | 22, _ => xqtk22
  | 23, _ => xqtk23
  | 24, _ => xqtk24
  | 25, _ => xqtk25
  | 26, _ => xqtk26
  | 27, _ => xqtk27
  | 28, _ => xqtk28
  | 29, _ => xqtk29
  | 30, _ => xqtk30
  | 31, _ => xqtk31
  | 32, _ => xqtk32
  | 33, _ => xqtk33
  | 34, _ => xqtk34
  | 35, _ => xqtk35
  | 36, _ => xqtk36
  | 37, _ => xqtk37
  | 38, _ => xqtk38
  | 39, _ => xqtk39
  | 40, _ => xqtk40
  | 41, _ => xqtk41
  | 42, _ => xqtk42
  | 43, _ => xqtk43
  | 44, _ => xqtk44
  | 45, _ => xqtk45
  | 46, _ => xqtk46
  | 47, _ => xqtk47
  | 48, _ => xqtk48
  | 49, _ => xqtk49
  | 50, _ => xqtk50
  | 51, _ => xqtk51
  | 52, _ => xqtk52
  | 53, _ => xqtk53
  | 54, _ => xqtk54
  | 55, _ => xqtk55
  | 56, _ => xqtk56
  | 57, _ => xqtk57
  | 58, _ => xqtk58
  | 59, _ => xqtk59
  | 60, _ => xqtk60
  | 61, _ => xqtk61
  | 62, _ => xqtk62
  | 63, _ => xqtk63
  | 64, _ => xqtk64
  | 65, _ => xqtk65
  | 66, _ => xqtk66
  | 67, _ => xqtk67
  | 68, _ => xqtk68
  | 69, _ => xqtk69
  | 70, _ => xqtk70
  | 71, _ => xqtk71
  | 72, _ => xqtk72
  | 73, _ => xqtk73
  | 74, _ => xqtk74
  | 75, _ => xqtk75
  | 76, _ => xqtk76
  | 77, _ => xqtk77
  | 78, _ => xqtk78
  | 79, _ => xqtk79
  | 80, _ => xqtk80
  | 81, _ => xqtk81
  | 82, _ => xqtk82
  | 83, _ => xqtk83
  | 84, _ => xqtk84
  | 85, _ => xqtk85
  | 86, _ => xqtk86
  | 87, _ => xqtk87
  | 88, _ => xqtk88
  | 89, _ => xqtk89
  | 90, _ => xqtk90
  | 91, _ => xqtk91
  | 92, _ => xqtk92
  | 93, _ => xqtk93
  | 94, _ => xqtk94
  | 95, _ => xqtk95
  | 96, _ => xqtk96
  | 97, _ => xqtk97
  | 98, _ => xqtk98
  | 99, _ => xqtk99
  | 100, _ => xqtk100
  | 101, _ => xqtk101
  | 102, _ => xqtk102
  | 103, _ => xqtk103
  | 104, _ => xqtk104
  | 105, _ => xqtk105
  | 106, _ => xqtk106
  | 107, _ => xqtk107
  | 108, _ => xqtk108
  | 109, _ => xqtk109
  | 110, _ => xqtk110
  | 111, _ => xqtk111
  | 112, _ => xqtk112
  | 113, _ => xqtk113
  | 114, _ => xqtk114
  | 115, _ => xqtk115
  | 116, _ => xqtk116
  | 117, _ => xqtk117
  | 118, _ => xqtk118
  | 119, _ => xqtk119
  | 120, _ => xqtk120
  | 121, _ => xqtk121
  | 122, _ => xqtk122
  | 123, _ => xqtk123
  | 124, _ => xqtk124
  | 125, _ => xqtk125
  | 126, _ => xqtk126
  | 127, _ => xqtk127
  | 128, _ => xqtk128
  | 129, _ => xqtk129
  | 130, _ => xqtk130
  | 131, _ => xqtk131
  | 132, _ => xqtk132
  | 133, _ => xqtk133
  | 134, _ => xqtk134
  | 135, _ => xqtk135
  | 136, _ => xqtk136
  | 137, _ => xqtk137
  | 138, _ => xqtk138
  | 139, _ => xqtk139
  | 140, _ => xqtk140
  | 141, _ => xqtk141
  | 142, _ => xqtk142
  | 143, _ => xqtk143
  | 144, _ => xqtk144
  | 145, _ => xqtk145
  | 146, _ => xqtk146
  | 147, _ => xqtk147
  | 148, _ => xqtk148
  | 149, _ => xqtk149
  | 150, _ => xqtk150
  | 151, _ => xqtk151
  | 152, _ => xqtk152
  | 153, _ => xqtk153
  | 154, _ => xqtk154
  | 155, _ => xqtk155
  | 156, _ => xqtk156
  | 157, _ => xqtk157
  | 158, _ => xqtk158
  | 159, _ => xqtk159
  | 160, _ => xqtk160
  | 161, _ => xqtk161
  | 162, _ => xqtk162
  | k + 163, h => absurd h (by omega)
