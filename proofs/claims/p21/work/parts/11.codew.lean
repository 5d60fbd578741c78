set_option maxRecDepth 100000 in
theorem xqcw0 : lw_tbl[81]? = some (xqcode 0) := rfl
set_option maxRecDepth 100000 in
theorem xqcw1 : lw_tbl[89]? = some (xqcode 1) := rfl
set_option maxRecDepth 100000 in
theorem xqcw2 : lw_tbl[96]? = some (xqcode 2) := rfl
set_option maxRecDepth 100000 in
theorem xqcw3 : lw_tbl[179]? = some (xqcode 3) := rfl
set_option maxRecDepth 100000 in
theorem xqcw4 : lw_tbl[197]? = some (xqcode 4) := rfl
set_option maxRecDepth 100000 in
theorem xqcw5 : lw_tbl[770]? = some (xqcode 5) := rfl
set_option maxRecDepth 100000 in
theorem xqcw6 : lw_tbl[282]? = some (xqcode 6) := rfl
set_option maxRecDepth 100000 in
theorem xqcw7 : lw_tbl[286]? = some (xqcode 7) := rfl
set_option maxRecDepth 100000 in
theorem xqcw8 : lw_tbl[290]? = some (xqcode 8) := rfl
set_option maxRecDepth 100000 in
theorem xqcw9 : lw_tbl[851]? = some (xqcode 9) := rfl
set_option maxRecDepth 100000 in
theorem xqcw10 : lw_tbl[855]? = some (xqcode 10) := rfl
set_option maxRecDepth 100000 in
theorem xqcw11 : lw_tbl[860]? = some (xqcode 11) := rfl
set_option maxRecDepth 100000 in
theorem xqcw12 : lw_tbl[864]? = some (xqcode 12) := rfl
set_option maxRecDepth 100000 in
theorem xqcw13 : lw_tbl[294]? = some (xqcode 13) := rfl
set_option maxRecDepth 100000 in
theorem xqcw14 : lw_tbl[298]? = some (xqcode 14) := rfl
set_option maxRecDepth 100000 in
theorem xqcw15 : lw_tbl[302]? = some (xqcode 15) := rfl
set_option maxRecDepth 100000 in
theorem xqcw16 : lw_tbl[306]? = some (xqcode 16) := rfl
set_option maxRecDepth 100000 in
theorem xqcw17 : lw_tbl[868]? = some (xqcode 17) := rfl
set_option maxRecDepth 100000 in
theorem xqcw18 : lw_tbl[872]? = some (xqcode 18) := rfl
set_option maxRecDepth 100000 in
theorem xqcw19 : lw_tbl[876]? = some (xqcode 19) := rfl
set_option maxRecDepth 100000 in
theorem xqcw20 : lw_tbl[310]? = some (xqcode 20) := rfl
set_option maxRecDepth 100000 in
theorem xqcw21 : lw_tbl[314]? = some (xqcode 21) := rfl
set_option maxRecDepth 100000 in
theorem xqcw22 : lw_tbl[881]? = some (xqcode 22) := rfl
set_option maxRecDepth 100000 in
theorem xqcw23 : lw_tbl[885]? = some (xqcode 23) := rfl
set_option maxRecDepth 100000 in
theorem xqcw24 : lw_tbl[318]? = some (xqcode 24) := rfl
set_option maxRecDepth 100000 in
theorem xqcw25 : lw_tbl[322]? = some (xqcode 25) := rfl
set_option maxRecDepth 100000 in
theorem xqcw26 : lw_tbl[326]? = some (xqcode 26) := rfl
set_option maxRecDepth 100000 in
theorem xqcw27 : lw_tbl[890]? = some (xqcode 27) := rfl
set_option maxRecDepth 100000 in
theorem xqcw28 : lw_tbl[894]? = some (xqcode 28) := rfl
set_option maxRecDepth 100000 in
theorem xqcw29 : lw_tbl[898]? = some (xqcode 29) := rfl
set_option maxRecDepth 100000 in
theorem xqcw30 : lw_tbl[334]? = some (xqcode 30) := rfl
set_option maxRecDepth 100000 in
theorem xqcw31 : lw_tbl[338]? = some (xqcode 31) := rfl
set_option maxRecDepth 100000 in
theorem xqcw32 : lw_tbl[907]? = some (xqcode 32) := rfl
set_option maxRecDepth 100000 in
theorem xqcw33 : lw_tbl[911]? = some (xqcode 33) := rfl
set_option maxRecDepth 100000 in
theorem xqcw34 : lw_tbl[342]? = some (xqcode 34) := rfl
set_option maxRecDepth 100000 in
theorem xqcw35 : lw_tbl[347]? = some (xqcode 35) := rfl
set_option maxRecDepth 100000 in
theorem xqcw36 : lw_tbl[915]? = some (xqcode 36) := rfl
set_option maxRecDepth 100000 in
theorem xqcw37 : lw_tbl[919]? = some (xqcode 37) := rfl
set_option maxRecDepth 100000 in
theorem xqcw38 : lw_tbl[351]? = some (xqcode 38) := rfl
set_option maxRecDepth 100000 in
theorem xqcw39 : lw_tbl[923]? = some (xqcode 39) := rfl
set_option maxRecDepth 100000 in
theorem xqcw40 : lw_tbl[356]? = some (xqcode 40) := rfl
set_option maxRecDepth 100000 in
theorem xqcw41 : lw_tbl[929]? = some (xqcode 41) := rfl
set_option maxRecDepth 100000 in
theorem xqcw42 : lw_tbl[360]? = some (xqcode 42) := rfl
set_option maxRecDepth 100000 in
theorem xqcw43 : lw_tbl[364]? = some (xqcode 43) := rfl
set_option maxRecDepth 100000 in
theorem xqcw44 : lw_tbl[368]? = some (xqcode 44) := rfl
set_option maxRecDepth 100000 in
theorem xqcw45 : lw_tbl[506]? = some (xqcode 45) := rfl
set_option maxRecDepth 100000 in
theorem xqcw46 : lw_tbl[933]? = some (xqcode 46) := rfl
set_option maxRecDepth 100000 in
theorem xqcw47 : lw_tbl[937]? = some (xqcode 47) := rfl
set_option maxRecDepth 100000 in
theorem xqcw48 : lw_tbl[543]? = some (xqcode 48) := rfl
set_option maxRecDepth 100000 in
theorem xqcw49 : lw_tbl[547]? = some (xqcode 49) := rfl
set_option maxRecDepth 100000 in
theorem xqcw50 : lw_tbl[551]? = some (xqcode 50) := rfl
set_option maxRecDepth 100000 in
theorem xqcw51 : lw_tbl[556]? = some (xqcode 51) := rfl
set_option maxRecDepth 100000 in
theorem xqcw52 : lw_tbl[595]? = some (xqcode 52) := rfl
set_option maxRecDepth 100000 in
theorem xqcw53 : lw_tbl[978]? = some (xqcode 53) := rfl
set_option maxRecDepth 100000 in
theorem xqcw54 : lw_tbl[982]? = some (xqcode 54) := rfl
set_option maxRecDepth 100000 in
theorem xqcw55 : lw_tbl[986]? = some (xqcode 55) := rfl
set_option maxRecDepth 100000 in
theorem xqcw56 : lw_tbl[990]? = some (xqcode 56) := rfl
set_option maxRecDepth 100000 in
theorem xqcw57 : lw_tbl[994]? = some (xqcode 57) := rfl
set_option maxRecDepth 100000 in
theorem xqcw58 : lw_tbl[998]? = some (xqcode 58) := rfl
set_option maxRecDepth 100000 in
theorem xqcw59 : lw_tbl[1028]? = some (xqcode 59) := rfl
set_option maxRecDepth 100000 in
theorem xqcw60 : lw_tbl[599]? = some (xqcode 60) := rfl
set_option maxRecDepth 100000 in
theorem xqcw61 : lw_tbl[1032]? = some (xqcode 61) := rfl
set_option maxRecDepth 100000 in
theorem xqcw62 : lw_tbl[611]? = some (xqcode 62) := rfl
set_option maxRecDepth 100000 in
theorem xqcw63 : lw_tbl[1036]? = some (xqcode 63) := rfl
set_option maxRecDepth 100000 in
theorem xqcw64 : lw_tbl[616]? = some (xqcode 64) := rfl
set_option maxRecDepth 100000 in
theorem xqcw65 : lw_tbl[1041]? = some (xqcode 65) := rfl
set_option maxRecDepth 100000 in
theorem xqcw66 : lw_tbl[631]? = some (xqcode 66) := rfl
set_option maxRecDepth 100000 in
theorem xqcw67 : lw_tbl[530]? = some (xqcode 67) := rfl
set_option maxRecDepth 100000 in
theorem xqcw68 : lw_tbl[635]? = some (xqcode 68) := rfl
set_option maxRecDepth 100000 in
theorem xqcw69 : lw_tbl[1050]? = some (xqcode 69) := rfl
set_option maxRecDepth 100000 in
theorem xqcw70 : lw_tbl[1054]? = some (xqcode 70) := rfl
set_option maxRecDepth 100000 in
theorem xqcw71 : lw_tbl[644]? = some (xqcode 71) := rfl
set_option maxRecDepth 100000 in
theorem xqcw72 : lw_tbl[649]? = some (xqcode 72) := rfl
set_option maxRecDepth 100000 in
theorem xqcw73 : lw_tbl[652]? = some (xqcode 73) := rfl
set_option maxRecDepth 100000 in
theorem xqcw74 : lw_tbl[656]? = some (xqcode 74) := rfl
set_option maxRecDepth 100000 in
theorem xqcw75 : lw_tbl[1058]? = some (xqcode 75) := rfl
set_option maxRecDepth 100000 in
theorem xqcw76 : lw_tbl[1062]? = some (xqcode 76) := rfl
set_option maxRecDepth 100000 in
theorem xqcw77 : lw_tbl[1066]? = some (xqcode 77) := rfl
set_option maxRecDepth 100000 in
theorem xqcw78 : lw_tbl[660]? = some (xqcode 78) := rfl
set_option maxRecDepth 100000 in
theorem xqcw79 : lw_tbl[1070]? = some (xqcode 79) := rfl
set_option maxRecDepth 100000 in
theorem xqcw80 : lw_tbl[1074]? = some (xqcode 80) := rfl
set_option maxRecDepth 100000 in
theorem xqcw81 : lw_tbl[681]? = some (xqcode 81) := rfl
set_option maxRecDepth 100000 in
theorem xqcw82 : lw_tbl[1090]? = some (xqcode 82) := rfl
set_option maxRecDepth 100000 in
theorem xqcw83 : lw_tbl[685]? = some (xqcode 83) := rfl
set_option maxRecDepth 100000 in
theorem xqcw84 : lw_tbl[1094]? = some (xqcode 84) := rfl
set_option maxRecDepth 100000 in
theorem xqcw85 : lw_tbl[694]? = some (xqcode 85) := rfl
set_option maxRecDepth 100000 in
theorem xqcw86 : lw_tbl[1098]? = some (xqcode 86) := rfl
set_option maxRecDepth 100000 in
theorem xqcw87 : lw_tbl[709]? = some (xqcode 87) := rfl
set_option maxRecDepth 100000 in
theorem xqcw88 : lw_tbl[1106]? = some (xqcode 88) := rfl
set_option maxRecDepth 100000 in
theorem xqcw89 : lw_tbl[713]? = some (xqcode 89) := rfl
set_option maxRecDepth 100000 in
theorem xqcw90 : lw_tbl[1111]? = some (xqcode 90) := rfl
set_option maxRecDepth 100000 in
theorem xqcw91 : lw_tbl[722]? = some (xqcode 91) := rfl
set_option maxRecDepth 100000 in
theorem xqcw92 : lw_tbl[726]? = some (xqcode 92) := rfl
set_option maxRecDepth 100000 in
theorem xqcw93 : lw_tbl[1115]? = some (xqcode 93) := rfl
set_option maxRecDepth 100000 in
theorem xqcw94 : lw_tbl[732]? = some (xqcode 94) := rfl
set_option maxRecDepth 100000 in
theorem xqcw95 : lw_tbl[736]? = some (xqcode 95) := rfl
set_option maxRecDepth 100000 in
theorem xqcw96 : lw_tbl[1120]? = some (xqcode 96) := rfl
set_option maxRecDepth 100000 in
theorem xqcw97 : lw_tbl[974]? = some (xqcode 97) := rfl
set_option maxRecDepth 100000 in
theorem xqcw98 : lw_tbl[741]? = some (xqcode 98) := rfl
set_option maxRecDepth 100000 in
theorem xqcw99 : lw_tbl[1124]? = some (xqcode 99) := rfl
set_option maxRecDepth 100000 in
theorem xqcw100 : lw_tbl[745]? = some (xqcode 100) := rfl
set_option maxRecDepth 100000 in
theorem xqcw101 : lw_tbl[1128]? = some (xqcode 101) := rfl
set_option maxRecDepth 100000 in
theorem xqcw102 : lw_tbl[749]? = some (xqcode 102) := rfl
set_option maxRecDepth 100000 in
theorem xqcw103 : lw_tbl[753]? = some (xqcode 103) := rfl
set_option maxRecDepth 100000 in
theorem xqcw104 : lw_tbl[1132]? = some (xqcode 104) := rfl
set_option maxRecDepth 100000 in
theorem xqcw105 : lw_tbl[1136]? = some (xqcode 105) := rfl
set_option maxRecDepth 100000 in
theorem xqcw106 : lw_tbl[757]? = some (xqcode 106) := rfl
set_option maxRecDepth 100000 in
theorem xqcw107 : lw_tbl[1140]? = some (xqcode 107) := rfl
set_option maxRecDepth 100000 in
theorem xqcw108 : lw_tbl[1145]? = some (xqcode 108) := rfl
set_option maxRecDepth 100000 in
theorem xqcw109 : lw_tbl[621]? = some (xqcode 109) := rfl
set_option maxRecDepth 100000 in
theorem xqcw110 : lw_tbl[1045]? = some (xqcode 110) := rfl
set_option maxRecDepth 100000 in
theorem xqcw111 : lw_tbl[625]? = some (xqcode 111) := rfl
set_option maxRecDepth 100000 in
theorem xqcw112 : lw_tbl[664]? = some (xqcode 112) := rfl
set_option maxRecDepth 100000 in
theorem xqcw113 : lw_tbl[668]? = some (xqcode 113) := rfl
set_option maxRecDepth 100000 in
theorem xqcw114 : lw_tbl[704]? = some (xqcode 114) := rfl
set_option maxRecDepth 100000 in
theorem xqcw115 : lw_tbl[701]? = some (xqcode 115) := rfl
set_option maxRecDepth 100000 in
theorem xqcw116 : lw_tbl[717]? = some (xqcode 116) := rfl
set_option maxRecDepth 100000 in
theorem xqcw117 : lw_tbl[589]? = some (xqcode 117) := rfl
set_option maxRecDepth 100000 in
theorem xqcw118 : lw_tbl[1001]? = some (xqcode 118) := rfl
set_option maxRecDepth 100000 in
theorem xqcw119 : lw_tbl[1020]? = some (xqcode 119) := rfl
set_option maxRecDepth 100000 in
theorem xqcw120 : lw_tbl[903]? = some (xqcode 120) := rfl
set_option maxRecDepth 100000 in
theorem xqcw121 : lw_tbl[948]? = some (xqcode 121) := rfl
set_option maxRecDepth 100000 in
theorem xqcw122 : lw_tbl[965]? = some (xqcode 122) := rfl
set_option maxRecDepth 100000 in
theorem xqcw123 : lw_tbl[956]? = some (xqcode 123) := rfl
set_option maxRecDepth 100000 in
theorem xqcw124 : lw_tbl[962]? = some (xqcode 124) := rfl
set_option maxRecDepth 100000 in
theorem xqcw125 : lw_tbl[941]? = some (xqcode 125) := rfl
set_option maxRecDepth 100000 in
theorem xqcw126 : lw_tbl[970]? = some (xqcode 126) := rfl
set_option maxRecDepth 100000 in
theorem xqcw127 : lw_tbl[1005]? = some (xqcode 127) := rfl
set_option maxRecDepth 100000 in
theorem xqcw128 : lw_tbl[1024]? = some (xqcode 128) := rfl
set_option maxRecDepth 100000 in
theorem xqcw129 : lw_tbl[1017]? = some (xqcode 129) := rfl
set_option maxRecDepth 100000 in
theorem xqcw130 : lw_tbl[1013]? = some (xqcode 130) := rfl
set_option maxRecDepth 100000 in
theorem xqcw131 : lw_tbl[1009]? = some (xqcode 131) := rfl
set_option maxRecDepth 100000 in
theorem xqcw132 : lw_tbl[1086]? = some (xqcode 132) := rfl
set_option maxRecDepth 100000 in
theorem xqcw133 : lw_tbl[1082]? = some (xqcode 133) := rfl
set_option maxRecDepth 100000 in
theorem xqcw134 : lw_tbl[1078]? = some (xqcode 134) := rfl
set_option maxRecDepth 100000 in
theorem xqcw135 : lw_tbl[1102]? = some (xqcode 135) := rfl
set_option maxRecDepth 100000 in
theorem xqcw136 : lw_tbl[560]? = some (xqcode 136) := rfl
set_option maxRecDepth 100000 in
theorem xqcw137 : lw_tbl[537]? = some (xqcode 137) := rfl
set_option maxRecDepth 100000 in
theorem xqcw138 : lw_tbl[330]? = some (xqcode 138) := rfl
set_option maxRecDepth 100000 in
theorem xqcw139 : lw_tbl[672]? = some (xqcode 139) := rfl
set_option maxRecDepth 100000 in
theorem xqcw140 : lw_tbl[690]? = some (xqcode 140) := rfl
set_option maxRecDepth 100000 in
theorem xqcw141 : lw_tbl[698]? = some (xqcode 141) := rfl
set_option maxRecDepth 100000 in
theorem xqcw142 : lw_tbl[763]? = some (xqcode 142) := rfl
set_option maxRecDepth 100000 in
theorem xqcw143 : lw_tbl[603]? = some (xqcode 143) := rfl
set_option maxRecDepth 100000 in
theorem xqcw144 : lw_tbl[607]? = some (xqcode 144) := rfl
set_option maxRecDepth 100000 in
theorem xqcw145 : lw_tbl[640]? = some (xqcode 145) := rfl
set_option maxRecDepth 100000 in
theorem xqcw146 : lw_tbl[677]? = some (xqcode 146) := rfl
set_option maxRecDepth 100000 in
theorem xqcw147 : lw_tbl[564]? = some (xqcode 147) := rfl
set_option maxRecDepth 100000 in
theorem xqcw148 : lw_tbl[568]? = some (xqcode 148) := rfl
set_option maxRecDepth 100000 in
theorem xqcw149 : lw_tbl[572]? = some (xqcode 149) := rfl
set_option maxRecDepth 100000 in
theorem xqcw150 : lw_tbl[576]? = some (xqcode 150) := rfl
set_option maxRecDepth 100000 in
theorem xqcw151 : lw_tbl[580]? = some (xqcode 151) := rfl
set_option maxRecDepth 100000 in
theorem xqcw152 : lw_tbl[586]? = some (xqcode 152) := rfl
set_option maxRecDepth 100000 in
theorem xqcw153 : lw_tbl[510]? = some (xqcode 153) := rfl
set_option maxRecDepth 100000 in
theorem xqcw154 : lw_tbl[518]? = some (xqcode 154) := rfl
set_option maxRecDepth 100000 in
theorem xqcw155 : lw_tbl[525]? = some (xqcode 155) := rfl
set_option maxRecDepth 100000 in
theorem xqcw156 : lw_tbl[514]? = some (xqcode 156) := rfl
set_option maxRecDepth 100000 in
theorem xqcw157 : lw_tbl[371]? = some (xqcode 157) := rfl
set_option maxRecDepth 100000 in
theorem xqcw158 : lw_tbl[434]? = some (xqcode 158) := rfl
set_option maxRecDepth 100000 in
theorem xqcw159 : lw_tbl[375]? = some (xqcode 159) := rfl
set_option maxRecDepth 100000 in
theorem xqcw160 : lw_tbl[380]? = some (xqcode 160) := rfl
set_option maxRecDepth 100000 in
theorem xqcw161 : lw_tbl[438]? = some (xqcode 161) := rfl
set_option maxRecDepth 100000 in
theorem xqcw162 : lw_tbl[442]? = some (xqcode 162) := rfl
theorem xqcw : ∀ i, i < 163 → xqcode i ∈ lw_tbl := fun i h => match i, h with
  | 0, _ => List.mem_of_getElem? xqcw0
  | 1, _ => List.mem_of_getElem? xqcw1
  | 2, _ => List.mem_of_getElem? xqcw2
  | 3, _ => List.mem_of_getElem? xqcw3
  | 4, _ => List.mem_of_getElem? xqcw4
  | 5, _ => List.mem_of_getElem? xqcw5
  | 6, _ => List.mem_of_getElem? xqcw6
  | 7, _ => List.mem_of_getElem? xqcw7
  | 8, _ => List.mem_of_getElem? xqcw8
  | 9, _ => List.mem_of_getElem? xqcw9
  | 10, _ => List.mem_of_getElem? xqcw10
  | 11, _ => List.mem_of_getElem? xqcw11
  | 12, _ => List.mem_of_getElem? xqcw12
  | 13, _ => List.mem_of_getElem? xqcw13
  | 14, _ => List.mem_of_getElem? xqcw14
  | 15, _ => List.mem_of_getElem? xqcw15
  | 16, _ => List.mem_of_getElem? xqcw16
  | 17, _ => List.mem_of_getElem? xqcw17
  | 18, _ => List.mem_of_getElem? xqcw18
  | 19, _ => List.mem_of_getElem? xqcw19
  | 20, _ => List.mem_of_getElem? xqcw20
  | 21, _ => List.mem_of_getElem? xqcw21
  | 22, _ => List.mem_of_getElem? xqcw22
  | 23, _ => List.mem_of_getElem? xqcw23
  | 24, _ => List.mem_of_getElem? xqcw24
  | 25, _ => List.mem_of_getElem? xqcw25
  | 26, _ => List.mem_of_getElem? xqcw26
  | 27, _ => List.mem_of_getElem? xqcw27
  | 28, _ => List.mem_of_getElem? xqcw28
  | 29, _ => List.mem_of_getElem? xqcw29
  | 30, _ => List.mem_of_getElem? xqcw30
  | 31, _ => List.mem_of_getElem? xqcw31
  | 32, _ => List.mem_of_getElem? xqcw32
  | 33, _ => List.mem_of_getElem? xqcw33
  | 34, _ => List.mem_of_getElem? xqcw34
  | 35, _ => List.mem_of_getElem? xqcw35
  | 36, _ => List.mem_of_getElem? xqcw36
  | 37, _ => List.mem_of_getElem? xqcw37
  | 38, _ => List.mem_of_getElem? xqcw38
  | 39, _ => List.mem_of_getElem? xqcw39
  | 40, _ => List.mem_of_getElem? xqcw40
  | 41, _ => List.mem_of_getElem? xqcw41
  | 42, _ => List.mem_of_getElem? xqcw42
  | 43, _ => List.mem_of_getElem? xqcw43
  | 44, _ => List.mem_of_getElem? xqcw44
  | 45, _ => List.mem_of_getElem? xqcw45
  | 46, _ => List.mem_of_getElem? xqcw46
  | 47, _ => List.mem_of_getElem? xqcw47
  | 48, _ => List.mem_of_getElem? xqcw48
  | 49, _ => List.mem_of_getElem? xqcw49
  | 50, _ => List.mem_of_getElem? xqcw50
  | 51, _ => List.mem_of_getElem? xqcw51
  | 52, _ => List.mem_of_getElem? xqcw52
  | 53, _ => List.mem_of_getElem? xqcw53
  | 54, _ => List.mem_of_getElem? xqcw54
  | 55, _ => List.mem_of_getElem? xqcw55
  | 56, _ => List.mem_of_getElem? xqcw56
  | 57, _ => List.mem_of_getElem? xqcw57
  | 58, _ => List.mem_of_getElem? xqcw58
  | 59, _ => List.mem_of_getElem? xqcw59
  | 60, _ => List.mem_of_getElem? xqcw60
  | 61, _ => List.mem_of_getElem? xqcw61
  | 62, _ => List.mem_of_getElem? xqcw62
  | 63, _ => List.mem_of_getElem? xqcw63
  | 64, _ => List.mem_of_getElem? xqcw64
  | 65, _ => List.mem_of_getElem? xqcw65
  | 66, _ => List.mem_of_getElem? xqcw66
  | 67, _ => List.mem_of_getElem? xqcw67
  | 68, _ => List.mem_of_getElem? xqcw68
  | 69, _ => List.mem_of_getElem? xqcw69
  | 70, _ => List.mem_of_getElem? xqcw70
  | 71, _ => List.mem_of_getElem? xqcw71
  | 72, _ => List.mem_of_getElem? xqcw72
  | 73, _ => List.mem_of_getElem? xqcw73
  | 74, _ => List.mem_of_getElem? xqcw74
  | 75, _ => List.mem_of_getElem? xqcw75
  | 76, _ => List.mem_of_getElem? xqcw76
  | 77, _ => List.mem_of_getElem? xqcw77
  | 78, _ => List.mem_of_getElem? xqcw78
  | 79, _ => List.mem_of_getElem? xqcw79
  | 80, _ => List.mem_of_getElem? xqcw80
  | 81, _ => List.mem_of_getElem? xqcw81
  | 82, _ => List.mem_of_getElem? xqcw82
  | 83, _ => List.mem_of_getElem? xqcw83
  | 84, _ => List.mem_of_getElem? xqcw84
  | 85, _ => List.mem_of_getElem? xqcw85
  | 86, _ => List.mem_of_getElem? xqcw86
  | 87, _ => List.mem_of_getElem? xqcw87
  | 88, _ => List.mem_of_getElem? xqcw88
  | 89, _ => List.mem_of_getElem? xqcw89
  | 90, _ => List.mem_of_getElem? xqcw90
  | 91, _ => List.mem_of_getElem? xqcw91
  | 92, _ => List.mem_of_getElem? xqcw92
  | 93, _ => List.mem_of_getElem? xqcw93
  | 94, _ => List.mem_of_getElem? xqcw94
  | 95, _ => List.mem_of_getElem? xqcw95
  | 96, _ => List.mem_of_getElem? xqcw96
  | 97, _ => List.mem_of_getElem? xqcw97
  | 98, _ => List.mem_of_getElem? xqcw98
  | 99, _ => List.mem_of_getElem? xqcw99
  | 100, _ => List.mem_of_getElem? xqcw100
  | 101, _ => List.mem_of_getElem? xqcw101
  | 102, _ => List.mem_of_getElem? xqcw102
  | 103, _ => List.mem_of_getElem? xqcw103
  | 104, _ => List.mem_of_getElem? xqcw104
  | 105, _ => List.mem_of_getElem? xqcw105
  | 106, _ => List.mem_of_getElem? xqcw106
  | 107, _ => List.mem_of_getElem? xqcw107
  | 108, _ => List.mem_of_getElem? xqcw108
  | 109, _ => List.mem_of_getElem? xqcw109
  | 110, _ => List.mem_of_getElem? xqcw110
  | 111, _ => List.mem_of_getElem? xqcw111
  | 112, _ => List.mem_of_getElem? xqcw112
  | 113, _ => List.mem_of_getElem? xqcw113
  | 114, _ => List.mem_of_getElem? xqcw114
  | 115, _ => List.mem_of_getElem? xqcw115
  | 116, _ => List.mem_of_getElem? xqcw116
  | 117, _ => List.mem_of_getElem? xqcw117
  | 118, _ => List.mem_of_getElem? xqcw118
  | 119, _ => List.mem_of_getElem? xqcw119
  | 120, _ => List.mem_of_getElem? xqcw120
  | 121, _ => List.mem_of_getElem? xqcw121
  | 122, _ => List.mem_of_getElem? xqcw122
  | 123, _ => List.mem_of_getElem? xqcw123
  | 124, _ => List.mem_of_getElem? xqcw124
  | 125, _ => List.mem_of_getElem? xqcw125
  | 126, _ => List.mem_of_getElem? xqcw126
  | 127, _ => List.mem_of_getElem? xqcw127
  | 128, _ => List.mem_of_getElem? xqcw128
  | 129, _ => List.mem_of_getElem? xqcw129
  | 130, _ => List.mem_of_getElem? xqcw130
  | 131, _ => List.mem_of_getElem? xqcw131
  | 132, _ => List.mem_of_getElem? xqcw132
  | 133, _ => List.mem_of_getElem? xqcw133
  | 134, _ => List.mem_of_getElem? xqcw134
  | 135, _ => List.mem_of_getElem? xqcw135
  | 136, _ => List.mem_of_getElem? xqcw136
  | 137, _ => List.mem_of_getElem? xqcw137
  | 138, _ => List.mem_of_getElem? xqcw138
  | 139, _ => List.mem_of_getElem? xqcw139
  | 140, _ => List.mem_of_getElem? xqcw140
  | 141, _ => List.mem_of_getElem? xqcw141
  | 142, _ => List.mem_of_getElem? xqcw142
  | 143, _ => List.mem_of_getElem? xqcw143
  | 144, _ => List.mem_of_getElem? xqcw144
  | 145, _ => List.mem_of_getElem? xqcw145
  | 146, _ => List.mem_of_getElem? xqcw146
  | 147, _ => List.mem_of_getElem? xqcw147
  | 148, _ => List.mem_of_getElem? xqcw148
  | 149, _ => List.mem_of_getElem? xqcw149
  | 150, _ => List.mem_of_getElem? xqcw150
  | 151, _ => List.mem_of_getElem? xqcw151
  | 152, _ => List.mem_of_getElem? xqcw152
  | 153, _ => List.mem_of_getElem? xqcw153
  | 154, _ => List.mem_of_getElem? xqcw154
  | 155, _ => List.mem_of_getElem? xqcw155
  | 156, _ => List.mem_of_getElem? xqcw156
  | 157, _ => List.mem_of_getElem? xqcw157
  | 158, _ => List.mem_of_getElem? xqcw158
  | 159, _ => List.mem_of_getElem? xqcw159
  | 160, _ => List.mem_of_getElem? xqcw160
  | 161, _ => List.mem_of_getElem? xqcw161
  | 162, _ => List.mem_of_getElem? xqcw162
  | k + 163, h => absurd h (by omega)
