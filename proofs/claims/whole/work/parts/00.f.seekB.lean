/-! ===== the search ===== -/
theorem sB0 : rg2 okB 9 1024 = true := by decide +kernel
theorem sB1 : rg2 okB 9 1536 = true := by decide +kernel
theorem sB2 : rg2 okB 10 2048 = true := by decide +kernel
theorem sB3 : rg2 okB 10 3072 = true := by decide +kernel
theorem sB4 : rg2 okB 12 4096 = true := by decide +kernel
theorem sB5 : rg2 okB 13 8192 = true := by decide +kernel
theorem sB6 : rg2 okB 14 16384 = true := by decide +kernel
theorem sB7 : rg2 okB 15 32768 = true := by decide +kernel
