theorem xq_try9 : xqrun [(9, 9), (xqMIN, xqMAX), (xqMIN, xqMAX), (xqMIN, xqMAX), (xqMIN, xqMAX), (0, 5)] = true := by decide +kernel
