theorem xqr_13_0 : xqgo 13 xqMIN (-1) xqMIN xqMAX = true := by decide +kernel
theorem xqr_13_1 : xqgo 13 401 xqMAX xqMIN xqMAX = true := by decide +kernel
theorem xqr_13_2 : xqgo 13 xqMIN xqMAX xqMIN (-1) = true := by decide +kernel
theorem xqr_13_3 : xqgo 13 xqMIN xqMAX 2 xqMAX = true := by decide +kernel
