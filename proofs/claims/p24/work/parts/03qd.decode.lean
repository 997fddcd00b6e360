set_option maxRecDepth 1000000 in
theorem am_ok_18 : ∀ k, k < 8 → ∀ pc, pc < am_ln (k + 144) → am_okpc (k + 144) pc = true := by decide +kernel
set_option maxRecDepth 1000000 in
theorem am_ok_19 : ∀ k, k < 8 → ∀ pc, pc < am_ln (k + 152) → am_okpc (k + 152) pc = true := by decide +kernel
set_option maxRecDepth 1000000 in
theorem am_ok_20 : ∀ k, k < 8 → ∀ pc, pc < am_ln (k + 160) → am_okpc (k + 160) pc = true := by decide +kernel
set_option maxRecDepth 1000000 in
theorem am_ok_21 : ∀ k, k < 8 → ∀ pc, pc < am_ln (k + 168) → am_okpc (k + 168) pc = true := by decide +kernel
set_option maxRecDepth 1000000 in
theorem am_ok_22 : ∀ k, k < 8 → ∀ pc, pc < am_ln (k + 176) → am_okpc (k + 176) pc = true := by decide +kernel
set_option maxRecDepth 1000000 in
theorem am_ok_23 : ∀ k, k < 8 → ∀ pc, pc < am_ln (k + 184) → am_okpc (k + 184) pc = true := by decide +kernel
