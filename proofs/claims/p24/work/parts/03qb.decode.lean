set_option maxRecDepth 1000000 in
theorem am_ok_6 : ∀ k, k < 8 → ∀ pc, pc < am_ln (k + 48) → am_okpc (k + 48) pc = true := by decide +kernel
set_option maxRecDepth 1000000 in
theorem am_ok_7 : ∀ k, k < 8 → ∀ pc, pc < am_ln (k + 56) → am_okpc (k + 56) pc = true := by decide +kernel
set_option maxRecDepth 1000000 in
theorem am_ok_8 : ∀ k, k < 8 → ∀ pc, pc < am_ln (k + 64) → am_okpc (k + 64) pc = true := by decide +kernel
set_option maxRecDepth 1000000 in
theorem am_ok_9 : ∀ k, k < 8 → ∀ pc, pc < am_ln (k + 72) → am_okpc (k + 72) pc = true := by decide +kernel
set_option maxRecDepth 1000000 in
theorem am_ok_10 : ∀ k, k < 8 → ∀ pc, pc < am_ln (k + 80) → am_okpc (k + 80) pc = true := by decide +kernel
set_option maxRecDepth 1000000 in
theorem am_ok_11 : ∀ k, k < 8 → ∀ pc, pc < am_ln (k + 88) → am_okpc (k + 88) pc = true := by decide +kernel
