/-! ===== the search ===== -/
theorem sC0 : rg2 okC 1 100 = true := by decide +kernel
theorem sC1 : rg2 okC 2 102 = true := by decide +kernel
theorem sC2 : rg2 okC 1 106 = true := by decide +kernel
theorem sC3 : rg2 okC 2 108 = true := by decide +kernel
theorem sC4 : rg2 okC 3 112 = true := by decide +kernel
