set_option maxRecDepth 100000 in
theorem xqtk82 : xqokT (xqyn 82).cls (xqyn 82).name (xqcb 82) xqT82 xqT82_w = true := by decide +kernel
set_option maxRecDepth 100000 in
theorem xqtk83 : xqokT (xqyn 83).cls (xqyn 83).name (xqcb 83) xqT83 xqT83_w = true := by decide +kernel
set_option maxRecDepth 100000 in
theorem xqtk84 : xqokT (xqyn 84).cls (xqyn 84).name (xqcb 84) xqT84 xqT84_w = true := by decide +kernel
set_option maxRecDepth 100000 in
theorem xqtk85 : xqokT (xqyn 85).cls (xqyn 85).name (xqcb 85) xqT85 xqT85_w = true := by decide +kernel
set_option maxRecDepth 100000 in
theorem xqtk86 : xqokT (xqyn 86).cls (xqyn 86).name (xqcb 86) xqT86 xqT86_w = true := by decide +kernel
set_option maxRecDepth 100000 in
theorem xqtk87 : xqokT (xqyn 87).cls (xqyn 87).name (xqcb 87) xqT87 xqT87_w = true := by decide +kernel
set_option maxRecDepth 100000 in
theorem xqtk88 : xqokT (xqyn 88).cls (xqyn 88).name (xqcb 88) xqT88 xqT88_w = true := by decide +kernel
set_option maxRecDepth 100000 in
theorem xqtk89 : xqokT (xqyn 89).cls (xqyn 89).name (xqcb 89) xqT89 xqT89_w = true := by decide +kernel
set_option maxRecDepth 100000 in
theorem xqtk90 : xqokT (xqyn 90).cls (xqyn 90).name (xqcb 90) xqT90 xqT90_w = true := by decide +kernel
set_option maxRecDepth 100000 in
theorem xqtk91 : xqokT (xqyn 91).cls (xqyn 91).name (xqcb 91) xqT91 xqT91_w = true := by decide +kernel
set_option maxRecDepth 100000 in
theorem xqtk92 : xqokT (xqyn 92).cls (xqyn 92).name (xqcb 92) xqT92 xqT92_w = true := by decide +kernel
set_option maxRecDepth 100000 in
theorem xqtk93 : xqokT (xqyn 93).cls (xqyn 93).name (xqcb 93) xqT93 xqT93_w = true := by decide +kernel
set_option maxRecDepth 100000 in
theorem xqtk94 : xqokT (xqyn 94).cls (xqyn 94).name (xqcb 94) xqT94 xqT94_w = true := by decide +kernel
set_option maxRecDepth 100000 in
theorem xqtk95 : xqokT (xqyn 95).cls (xqyn 95).name (xqcb 95) xqT95 xqT95_w = true := by decide +kernel
set_option maxRecDepth 100000 in
theorem xqtk96 : xqokT (xqyn 96).cls (xqyn 96).name (xqcb 96) xqT96 xqT96_w = true := by decide +kernel
set_option maxRecDepth 100000 in
theorem xqtk97 : xqokT (xqyn 97).cls (xqyn 97).name (xqcb 97) xqT97 xqT97_w = true := by decide +kernel
set_option maxRecDepth 100000 in
theorem xqtk98 : xqokT (xqyn 98).cls (xqyn 98).name (xqcb 98) xqT98 xqT98_w = true := by decide +kernel
set_option maxRecDepth 100000 in
theorem xqtk99 : xqokT (xqyn 99).cls (xqyn 99).name (xqcb 99) xqT99 xqT99_w = true := by decide +kernel
set_option maxRecDepth 100000 in
theorem xqtk100 : xqokT (xqyn 100).cls (xqyn 100).name (xqcb 100) xqT100 xqT100_w = true := by decide +kernel
set_option maxRecDepth 100000 in
theorem xqtk101 : xqokT (xqyn 101).cls (xqyn 101).name (xqcb 101) xqT101 xqT101_w = true := by decide +kernel
set_option maxRecDepth 100000 in
theorem xqtk102 : xqokT (xqyn 102).cls (xqyn 102).name (xqcb 102) xqT102 xqT102_w = true := by decide +kernel
set_option maxRecDepth 100000 in
theorem xqtk103 : xqokT (xqyn 103).cls (xqyn 103).name (xqcb 103) xqT103 xqT103_w = true := by decide +kernel
set_option maxRecDepth 100000 in
theorem xqtk104 : xqokT (xqyn 104).cls (xqyn 104).name (xqcb 104) xqT104 xqT104_w = true := by decide +kernel
set_option maxRecDepth 100000 in
theorem xqtk105 : xqokT (xqyn 105).cls (xqyn 105).name (xqcb 105) xqT105 xqT105_w = true := by decide +kernel
set_option maxRecDepth 100000 in
theorem xqtk106 : xqokT (xqyn 106).cls (xqyn 106).name (xqcb 106) xqT106 xqT106_w = true := by decide +kernel
set_option maxRecDepth 100000 in
theorem xqtk107 : xqokT (xqyn 107).cls (xqyn 107).name (xqcb 107) xqT107 xqT107_w = true := by decide +kernel
set_option maxRecDepth 100000 in
theorem xqtk108 : xqokT (xqyn 108).cls (xqyn 108).name (xqcb 108) xqT108 xqT108_w = true := by decide +kernel
set_option maxRecDepth 100000 in
theorem xqtk109 : xqokT (xqyn 109).cls (xqyn 109).name (xqcb 109) xqT109 xqT109_w = true := by decide +kernel
set_option maxRecDepth 100000 in
theorem xqtk110 : xqokT (xqyn 110).cls (xqyn 110).name (xqcb 110) xqT110 xqT110_w = true := by decide +kernel
set_option maxRecDepth 100000 in
theorem xqtk111 : xqokT (xqyn 111).cls (xqyn 111).name (xqcb 111) xqT111 xqT111_w = true := by decide +kernel
set_option maxRecDepth 100000 in
theorem xqtk112 : xqokT (xqyn 112).cls (xqyn 112).name (xqcb 112) xqT112 xqT112_w = true := by decide +kernel
set_option maxRecDepth 100000 in
theorem xqtk113 : xqokT (xqyn 113).cls (xqyn 113).name (xqcb 113) xqT113 xqT113_w = true := by decide +kernel
set_option maxRecDepth 100000 in
theorem xqtk114 : xqokT (xqyn 114).cls (xqyn 114).name (xqcb 114) xqT114 xqT114_w = true := by decide +kernel
set_option maxRecDepth 100000 in
theorem xqtk115 : xqokT (xqyn 115).cls (xqyn 115).name (xqcb 115) xqT115 xqT115_w = true := by decide +kernel
set_option maxRecDepth 100000 in
theorem xqtk116 : xqokT (xqyn 116).cls (xqyn 116).name (xqcb 116) xqT116 xqT116_w = true := by decide +kernel
set_option maxRecDepth 100000 in
theorem xqtk117 : xqokT (xqyn 117).cls (xqyn 117).name (xqcb 117) xqT117 xqT117_w = true := by decide +kernel
set_option maxRecDepth 100000 in
theorem xqtk118 : xqokT (xqyn 118).cls (xqyn 118).name (xqcb 118) xqT118 xqT118_w = true := by decide +kernel
set_option maxRecDepth 100000 in
theorem xqtk119 : xqokT (xqyn 119).cls (xqyn 119).name (xqcb 119) xqT119 xqT119_w = true := by decide +kernel
set_option maxRecDepth 100000 in
theorem xqtk120 : xqokT (xqyn 120).cls (xqyn 120).name (xqcb 120) xqT120 xqT120_w = true := by decide +kernel
set_option maxRecDepth 100000 in
theorem xqtk121 : xqokT (xqyn 121).cls (xqyn 121).name (xqcb 121) xqT121 xqT121_w = true := by decide +kernel
set_option maxRecDepth 100000 in
theorem xqtk122 : xqokT (xqyn 122).cls (xqyn 122).name (xqcb 122) xqT122 xqT122_w = true := by decide +kernel
