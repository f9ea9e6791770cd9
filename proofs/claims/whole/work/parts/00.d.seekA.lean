/-! ===== the search ===== -/
theorem P2_ok : Nat.beq (Nat.mod (prR 16 1) P2) 0 = true := by decide +kernel
theorem sA0 : rg2 okA 12 0 = true := by decide +kernel
theorem sA1 : rg2 okA 12 4096 = true := by decide +kernel
theorem sA2 : rg2 okA 12 8192 = true := by decide +kernel
theorem sA3 : rg2 okA 12 12288 = true := by decide +kernel
theorem sA4 : rg2 okA 12 16384 = true := by decide +kernel
theorem sA5 : rg2 okA 12 20480 = true := by decide +kernel
theorem sA6 : rg2 okA 12 24576 = true := by decide +kernel
theorem sA7 : rg2 okA 12 28672 = true := by decide +kernel
