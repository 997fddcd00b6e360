set_option maxRecDepth 1000000 in
theorem am_okL_3 : ∀ k, k < 90 → am_okpc 262 (k + 270) = true := by decide +kernel
set_option maxRecDepth 1000000 in
theorem am_okL_4 : ∀ k, k < 90 → am_okpc 262 (k + 360) = true := by decide +kernel
set_option maxRecDepth 1000000 in
theorem am_okL_5 : ∀ k, k < 90 → am_okpc 262 (k + 450) = true := by decide +kernel
set_option maxRecDepth 1000000 in
theorem am_okL_6 : ∀ k, k < 90 → am_okpc 262 (k + 540) = true := by decide +kernel
set_option maxRecDepth 1000000 in
theorem am_okL_7 : ∀ k, k < 90 → am_okpc 262 (k + 630) = true := by decide +kernel
set_option maxRecDepth 1000000 in
theorem am_okL_8 : ∀ k, k < 90 → am_okpc 262 (k + 720) = true := by decide +kernel
