set_option maxRecDepth 1000000 in
theorem am_ok_30 : ∀ k, k < 8 → ∀ pc, pc < am_ln (k + 240) → am_okpc (k + 240) pc = true := by decide +kernel
set_option maxRecDepth 1000000 in
theorem am_ok_31 : ∀ k, k < 8 → ∀ pc, pc < am_ln (k + 248) → am_okpc (k + 248) pc = true := by decide +kernel
set_option maxRecDepth 1000000 in
theorem am_ok_32 : ∀ k, k < 6 → ∀ pc, pc < am_ln (k + 256) → am_okpc (k + 256) pc = true := by decide +kernel
set_option maxRecDepth 1000000 in
theorem am_okL_0 : ∀ k, k < 90 → am_okpc 262 (k + 0) = true := by decide +kernel
set_option maxRecDepth 1000000 in
theorem am_okL_1 : ∀ k, k < 90 → am_okpc 262 (k + 90) = true := by decide +kernel
set_option maxRecDepth 1000000 in
theorem am_okL_2 : ∀ k, k < 90 → am_okpc 262 (k + 180) = true := by decide +kernel
