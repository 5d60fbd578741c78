theorem xq_try0 : xqrun [(31, 31), (xqMIN, xqMAX), (xqMIN, xqMAX), (xqMIN, xqMAX), (xqMIN, xqMAX), (0, 5)] = true := by decide +kernel
