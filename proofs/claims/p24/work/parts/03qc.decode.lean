set_option maxRecDepth 1000000 in
theorem am_ok_12 : ∀ k, k < 8 → ∀ pc, pc < am_ln (k + 96) → am_okpc (k + 96) pc = true := by decide +kernel
set_option maxRecDepth 1000000 in
theorem am_ok_13 : ∀ k, k < 8 → ∀ pc, pc < am_ln (k + 104) → am_okpc (k + 104) pc = true := by decide +kernel
set_option maxRecDepth 1000000 in
theorem am_ok_14 : ∀ k, k < 8 → ∀ pc, pc < am_ln (k + 112) → am_okpc (k + 112) pc = true := by decide +kernel
set_option maxRecDepth 1000000 in
theorem am_ok_15 : ∀ k, k < 8 → ∀ pc, pc < am_ln (k + 120) → am_okpc (k + 120) pc = true := by decide +kernel
set_option maxRecDepth 1000000 in
theorem am_ok_16 : ∀ k, k < 8 → ∀ pc, pc < am_ln (k + 128) → am_okpc (k + 128) pc = true := by decide +kernel
set_option maxRecDepth 1000000 in
theorem am_ok_17 : ∀ k, k < 8 → ∀ pc, pc < am_ln (k + 136) → am_okpc (k + 136) pc = true := by decide +kernel
