/-! ===== the search ===== -/
theorem sC11 : rg2 okC 4 176 = true := by decide +kernel
theorem sC12 : rg2 okC 4 192 = true := by decide +kernel
theorem sC13 : rg2 okC 4 208 = true := by decide +kernel
theorem sC14 : rg2 okC 5 224 = true := by decide +kernel
theorem sC15 : rg2 okC 5 256 = true := by decide +kernel
theorem sC16 : rg2 okC 6 288 = true := by decide +kernel
