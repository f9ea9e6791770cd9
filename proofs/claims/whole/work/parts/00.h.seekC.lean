/-! ===== the search ===== -/
theorem sC5 : rg2 okC 3 120 = true := by decide +kernel
theorem sC6 : rg2 okC 3 128 = true := by decide +kernel
theorem sC7 : rg2 okC 3 136 = true := by decide +kernel
theorem sC8 : rg2 okC 3 144 = true := by decide +kernel
theorem sC9 : rg2 okC 3 152 = true := by decide +kernel
theorem sC10 : rg2 okC 4 160 = true := by decide +kernel
