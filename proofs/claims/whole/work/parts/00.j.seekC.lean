/-! ===== the search ===== -/
theorem sC17 : rg2 okC 6 352 = true := by decide +kernel
theorem sC18 : rg2 okC 7 416 = true := by decide +kernel
theorem sC19 : rg2 okC 8 544 = true := by decide +kernel
theorem sC20 : rg2 okC 7 800 = true := by decide +kernel
theorem sC21 : rg2 okC 6 928 = true := by decide +kernel
theorem sC22 : rg2 okC 5 992 = true := by decide +kernel
