set_option maxRecDepth 100000 in
theorem xqtk28 : xqokT (xqyn 28).cls (xqyn 28).name (xqcb 28) xqT28 xqT28_w = true := by decide +kernel
set_option maxRecDepth 100000 in
theorem xqtk29 : xqokT (xqyn 29).cls (xqyn 29).name (xqcb 29) xqT29 xqT29_w = true := by decide +kernel
set_option maxRecDepth 100000 in
theorem xqtk30 : xqokT (xqyn 30).cls (xqyn 30).name (xqcb 30) xqT30 xqT30_w = true := by decide +kernel
set_option maxRecDepth 100000 in
theorem xqtk31 : xqokT (xqyn 31).cls (xqyn 31).name (xqcb 31) xqT31 xqT31_w = true := by decide +kernel
set_option maxRecDepth 100000 in
theorem xqtk32 : xqokT (xqyn 32).cls (xqyn 32).name (xqcb 32) xqT32 xqT32_w = true := by decide +kernel
set_option maxRecDepth 100000 in
theorem xqtk33 : xqokT (xqyn 33).cls (xqyn 33).name (xqcb 33) xqT33 xqT33_w = true := by decide +kernel
set_option maxRecDepth 100000 in
theorem xqtk34 : xqokT (xqyn 34).cls (xqyn 34).name (xqcb 34) xqT34 xqT34_w = true := by decide +kernel
set_option maxRecDepth 100000 in
theorem xqtk35 : xqokT (xqyn 35).cls (xqyn 35).name (xqcb 35) xqT35 xqT35_w = true := by decide +kernel
set_option maxRecDepth 100000 in
theorem xqtk36 : xqokT (xqyn 36).cls (xqyn 36).name (xqcb 36) xqT36 xqT36_w = true := by decide +kernel
set_option maxRecDepth 100000 in
theorem xqtk37 : xqokT (xqyn 37).cls (xqyn 37).name (xqcb 37) xqT37 xqT37_w = true := by decide +kernel
set_option maxRecDepth 100000 in
theorem xqtk38 : xqokT (xqyn 38).cls (xqyn 38).name (xqcb 38) xqT38 xqT38_w = true := by decide +kernel
set_option maxRecDepth 100000 in
theorem xqtk39 : xqokT (xqyn 39).cls (xqyn 39).name (xqcb 39) xqT39 xqT39_w = true := by decide +kernel
set_option maxRecDepth 100000 in
theorem xqtk40 : xqokT (xqyn 40).cls (xqyn 40).name (xqcb 40) xqT40 xqT40_w = true := by decide +kernel
set_option maxRecDepth 100000 in
theorem xqtk41 : xqokT (xqyn 41).cls (xqyn 41).name (xqcb 41) xqT41 xqT41_w = true := by decide +kernel
set_option maxRecDepth 100000 in
theorem xqtk42 : xqokT (xqyn 42).cls (xqyn 42).name (xqcb 42) xqT42 xqT42_w = true := by decide +kernel
set_option maxRecDepth 100000 in
theorem xqtk43 : xqokT (xqyn 43).cls (xqyn 43).name (xqcb 43) xqT43 xqT43_w = true := by decide +kernel
set_option maxRecDepth 100000 in
theorem xqtk44 : xqokT (xqyn 44).cls (xqyn 44).name (xqcb 44) xqT44 xqT44_w = true := by decide +kernel
set_option maxRecDepth 100000 in
theorem xqtk45 : xqokT (xqyn 45).cls (xqyn 45).name (xqcb 45) xqT45 xqT45_w = true := by decide +kernel
set_option maxRecDepth 100000 in
theorem xqtk46 : xqokT (xqyn 46).cls (xqyn 46).name (xqcb 46) xqT46 xqT46_w = true := by decide +kernel
set_option maxRecDepth 100000 in
theorem xqtk47 : xqokT (xqyn 47).cls (xqyn 47).name (xqcb 47) xqT47 xqT47_w = true := by decide +kernel
set_option maxRecDepth 100000 in
theorem xqtk48 : xqokT (xqyn 48).cls (xqyn 48).name (xqcb 48) xqT48 xqT48_w = true := by decide +kernel
set_option maxRecDepth 100000 in
theorem xqtk49 : xqokT (xqyn 49).cls (xqyn 49).name (xqcb 49) xqT49 xqT49_w = true := by decide +kernel
set_option maxRecDepth 100000 in
theorem xqtk50 : xqokT (xqyn 50).cls (xqyn 50).name (xqcb 50) xqT50 xqT50_w = true := by decide +kernel
set_option maxRecDepth 100000 in
theorem xqtk51 : xqokT (xqyn 51).cls (xqyn 51).name (xqcb 51) xqT51 xqT51_w = true := by decide +kernel
set_option maxRecDepth 100000 in
theorem xqtk52 : xqokT (xqyn 52).cls (xqyn 52).name (xqcb 52) xqT52 xqT52_w = true := by decide +kernel
set_option maxRecDepth 100000 in
theorem xqtk53 : xqokT (xqyn 53).cls (xqyn 53).name (xqcb 53) xqT53 xqT53_w = true := by decide +kernel
set_option maxRecDepth 100000 in
theorem xqtk54 : xqokT (xqyn 54).cls (xqyn 54).name (xqcb 54) xqT54 xqT54_w = true := by decide +kernel
set_option maxRecDepth 100000 in
theorem xqtk55 : xqokT (xqyn 55).cls (xqyn 55).name (xqcb 55) xqT55 xqT55_w = true := by decide +kernel
