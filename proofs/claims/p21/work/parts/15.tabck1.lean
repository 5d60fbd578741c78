set_option maxRecDepth 100000 in
theorem xqtk41 : xqokT (xqyn 41).cls (xqyn 41).name (xqcb 41) xqT41 xqT41_w = true := by decide +kernel
set_option maxRecDepth 100000 in
theorem xqtk42 : xqokT (xqyn 42).cls (xqyn 42).name (xqcb 42) xqT42 xqT42_w = true := by decide +kernel
set_option maxRecDepth 100000 in
theorem xqtk43 : xqokT (xqyn 43).cls (xqyn 43).name (xqcb 43) xqT43 xqT43_w = true := by decide +kernel
set_option maxRecDepth 100000 in
theorem xqtk44 : xqokT (xqyn 44).cls (xqyn 44).name (xqcb 44) xqT44 xqT44_w = true := by decide +kernel
set_option maxRecDepth 100000 in
theorem xqtk45 : xqokT (xqyn 45).cls (xqyn 45).name (xqcb 45) xqT45 xqT45_w = true := by decide +kernel
set_option maxRecDepth 100000 in
theorem xqtk46 : xqokT (xqyn 46).cls (xqyn 46).name (xqcb 46) xqT46 xqT46_w = true := by decide +kernel
set_option maxRecDepth 100000 in
theorem xqtk47 : xqokT (xqyn 47).cls (xqyn 47).name (xqcb 47) xqT47 xqT47_w = true := by decide +kernel
set_option maxRecDepth 100000 in
theorem xqtk48 : xqokT (xqyn 48).cls (xqyn 48).name (xqcb 48) xqT48 xqT48_w = true := by decide +kernel
set_option maxRecDepth 100000 in
theorem xqtk49 : xqokT (xqyn 49).cls (xqyn 49).name (xqcb 49) xqT49 xqT49_w = true := by decide +kernel
set_option maxRecDepth 100000 in
theorem xqtk50 : xqokT (xqyn 50).cls (xqyn 50).name (xqcb 50) xqT50 xqT50_w = true := by decide +kernel
set_option maxRecDepth 100000 in
theorem xqtk51 : xqokT (xqyn 51).cls (xqyn 51).name (xqcb 51) xqT51 xqT51_w = true := by decide +kernel
set_option maxRecDepth 100000 in
theorem xqtk52 : xqokT (xqyn 52).cls (xqyn 52).name (xqcb 52) xqT52 xqT52_w = true := by decide +kernel
set_option maxRecDepth 100000 in
theorem xqtk53 : xqokT (xqyn 53).cls (xqyn 53).name (xqcb 53) xqT53 xqT53_w = true := by decide +kernel
set_option maxRecDepth 100000 in
theorem xqtk54 : xqokT (xqyn 54).cls (xqyn 54).name (xqcb 54) xqT54 xqT54_w = true := by decide +kernel
set_option maxRecDepth 100000 in
theorem xqtk55 : xqokT (xqyn 55).cls (xqyn 55).name (xqcb 55) xqT55 xqT55_w = true := by decide +kernel
set_option maxRecDepth 100000 in
theorem xqtk56 : xqokT (xqyn 56).cls (xqyn 56).name (xqcb 56) xqT56 xqT56_w = true := by decide +kernel
set_option maxRecDepth 100000 in
theorem xqtk57 : xqokT (xqyn 57).cls (xqyn 57).name (xqcb 57) xqT57 xqT57_w = true := by decide +kernel
set_option maxRecDepth 100000 in
theorem xqtk58 : xqokT (xqyn 58).cls (xqyn 58).name (xqcb 58) xqT58 xqT58_w = true := by decide +kernel
set_option maxRecDepth 100000 in
theorem xqtk59 : xqokT (xqyn 59).cls (xqyn 59).name (xqcb 59) xqT59 xqT59_w = true := by decide +kernel
set_option maxRecDepth 100000 in
theorem xqtk60 : xqokT (xqyn 60).cls (xqyn 60).name (xqcb 60) xqT60 xqT60_w = true := by decide +kernel
set_option maxRecDepth 100000 in
theorem xqtk61 : xqokT (xqyn 61).cls (xqyn 61).name (xqcb 61) xqT61 xqT61_w = true := by decide +kernel
set_option maxRecDepth 100000 in
theorem xqtk62 : xqokT (xqyn 62).cls (xqyn 62).name (xqcb 62) xqT62 xqT62_w = true := by decide +kernel
set_option maxRecDepth 100000 in
theorem xqtk63 : xqokT (xqyn 63).cls (xqyn 63).name (xqcb 63) xqT63 xqT63_w = true := by decide +kernel
set_option maxRecDepth 100000 in
theorem xqtk64 : xqokT (xqyn 64).cls (xqyn 64).name (xqcb 64) xqT64 xqT64_w = true := by decide +kernel
set_option maxRecDepth 100000 in
theorem xqtk65 : xqokT (xqyn 65).cls (xqyn 65).name (xqcb 65) xqT65 xqT65_w = true := by decide +kernel
set_option maxRecDepth 100000 in
theorem xqtk66 : xqokT (xqyn 66).cls (xqyn 66).name (xqcb 66) xqT66 xqT66_w = true := by decide +kernel
set_option maxRecDepth 100000 in
theorem xqtk67 : xqokT (xqyn 67).cls (xqyn 67).name (xqcb 67) xqT67 xqT67_w = true := by decide +kernel
set_option maxRecDepth 100000 in
theorem xqtk68 : xqokT (xqyn 68).cls (xqyn 68).name (xqcb 68) xqT68 xqT68_w = true := by decide +kernel
set_option maxRecDepth 100000 in
theorem xqtk69 : xqokT (xqyn 69).cls (xqyn 69).name (xqcb 69) xqT69 xqT69_w = true := by decide +kernel
set_option maxRecDepth 100000 in
theorem xqtk70 : xqokT (xqyn 70).cls (xqyn 70).name (xqcb 70) xqT70 xqT70_w = true := by decide +kernel
set_option maxRecDepth 100000 in
theorem xqtk71 : xqokT (xqyn 71).cls (xqyn 71).name (xqcb 71) xqT71 xqT71_w = true := by decide +kernel
set_option maxRecDepth 100000 in
theorem xqtk72 : xqokT (xqyn 72).cls (xqyn 72).name (xqcb 72) xqT72 xqT72_w = true := by decide +kernel
set_option maxRecDepth 100000 in
theorem xqtk73 : xqokT (xqyn 73).cls (xqyn 73).name (xqcb 73) xqT73 xqT73_w = true := by decide +kernel
set_option maxRecDepth 100000 in
theorem xqtk74 : xqokT (xqyn 74).cls (xqyn 74).name (xqcb 74) xqT74 xqT74_w = true := by decide +kernel
set_option maxRecDepth 100000 in
theorem xqtk75 : xqokT (xqyn 75).cls (xqyn 75).name (xqcb 75) xqT75 xqT75_w = true := by decide +kernel
set_option maxRecDepth 100000 in
theorem xqtk76 : xqokT (xqyn 76).cls (xqyn 76).name (xqcb 76) xqT76 xqT76_w = true := by decide +kernel
set_option maxRecDepth 100000 in
theorem xqtk77 : xqokT (xqyn 77).cls (xqyn 77).name (xqcb 77) xqT77 xqT77_w = true := by decide +kernel
set_option maxRecDepth 100000 in
theorem xqtk78 : xqokT (xqyn 78).cls (xqyn 78).name (xqcb 78) xqT78 xqT78_w = true := by decide +kernel
set_option maxRecDepth 100000 in
theorem xqtk79 : xqokT (xqyn 79).cls (xqyn 79).name (xqcb 79) xqT79 xqT79_w = true := by decide +kernel
set_option maxRecDepth 100000 in
theorem xqtk80 : xqokT (xqyn 80).cls (xqyn 80).name (xqcb 80) xqT80 xqT80_w = true := by decide +kernel
set_option maxRecDepth 100000 in
theorem xqtk81 : xqokT (xqyn 81).cls (xqyn 81).name (xqcb 81) xqT81 xqT81_w = true := by decide +kernel
