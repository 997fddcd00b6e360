set_option maxRecDepth 1000000 in
theorem am_okL_9 : ∀ k, k < 90 → am_okpc 262 (k + 810) = true := by decide +kernel
set_option maxRecDepth 1000000 in
theorem am_okL_10 : ∀ k, k < 90 → am_okpc 262 (k + 900) = true := by decide +kernel
set_option maxRecDepth 1000000 in
theorem am_okL_11 : ∀ k, k < 90 → am_okpc 262 (k + 990) = true := by decide +kernel
set_option maxRecDepth 1000000 in
theorem am_okL_12 : ∀ k, k < 90 → am_okpc 262 (k + 1080) = true := by decide +kernel
set_option maxRecDepth 1000000 in
theorem am_okL_13 : ∀ k, k < 90 → am_okpc 262 (k + 1170) = true := by decide +kernel
set_option maxRecDepth 1000000 in
theorem am_okL_14 : ∀ k, k < 90 → am_okpc 262 (k + 1260) = true := by decide +kernel
