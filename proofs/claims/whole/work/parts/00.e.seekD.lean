/-! ===== the search ===== -/
theorem sD : dn 30 sm 1 = true := by decide +kernel
