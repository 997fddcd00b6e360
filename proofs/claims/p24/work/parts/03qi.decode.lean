set_option maxRecDepth 1000000 in
theorem am_okL_15 : ∀ k, k < 90 → am_okpc 262 (k + 1350) = true := by decide +kernel
set_option maxRecDepth 1000000 in
theorem am_okL_16 : ∀ k, k < 90 → am_okpc 262 (k + 1440) = true := by decide +kernel
set_option maxRecDepth 1000000 in
theorem am_okL_17 : ∀ k, k < 90 → am_okpc 262 (k + 1530) = true := by decide +kernel
set_option maxRecDepth 1000000 in
theorem am_okL_18 : ∀ k, k < 90 → am_okpc 262 (k + 1620) = true := by decide +kernel
