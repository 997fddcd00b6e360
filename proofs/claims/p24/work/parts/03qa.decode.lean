set_option maxRecDepth 1000000 in
theorem am_ok_0 : ∀ k, k < 8 → ∀ pc, pc < am_ln (k + 0) → am_okpc (k + 0) pc = true := by decide +kernel
set_option maxRecDepth 1000000 in
theorem am_ok_1 : ∀ k, k < 8 → ∀ pc, pc < am_ln (k + 8) → am_okpc (k + 8) pc = true := by decide +kernel
set_option maxRecDepth 1000000 in
theorem am_ok_2 : ∀ k, k < 8 → ∀ pc, pc < am_ln (k + 16) → am_okpc (k + 16) pc = true := by decide +kernel
set_option maxRecDepth 1000000 in
theorem am_ok_3 : ∀ k, k < 8 → ∀ pc, pc < am_ln (k + 24) → am_okpc (k + 24) pc = true := by decide +kernel
set_option maxRecDepth 1000000 in
theorem am_ok_4 : ∀ k, k < 8 → ∀ pc, pc < am_ln (k + 32) → am_okpc (k + 32) pc = true := by decide +kernel
set_option maxRecDepth 1000000 in
theorem am_ok_5 : ∀ k, k < 8 → ∀ pc, pc < am_ln (k + 40) → am_okpc (k + 40) pc = true := by decide +kernel
