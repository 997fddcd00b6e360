set_option maxRecDepth 1000000 in
theorem am_ok_24 : ∀ k, k < 8 → ∀ pc, pc < am_ln (k + 192) → am_okpc (k + 192) pc = true := by decide +kernel
set_option maxRecDepth 1000000 in
theorem am_ok_25 : ∀ k, k < 8 → ∀ pc, pc < am_ln (k + 200) → am_okpc (k + 200) pc = true := by decide +kernel
set_option maxRecDepth 1000000 in
theorem am_ok_26 : ∀ k, k < 8 → ∀ pc, pc < am_ln (k + 208) → am_okpc (k + 208) pc = true := by decide +kernel
set_option maxRecDepth 1000000 in
theorem am_ok_27 : ∀ k, k < 8 → ∀ pc, pc < am_ln (k + 216) → am_okpc (k + 216) pc = true := by decide +kernel
set_option maxRecDepth 1000000 in
theorem am_ok_28 : ∀ k, k < 8 → ∀ pc, pc < am_ln (k + 224) → am_okpc (k + 224) pc = true := by decide +kernel
set_option maxRecDepth 1000000 in
theorem am_ok_29 : ∀ k, k < 8 → ∀ pc, pc < am_ln (k + 232) → am_okpc (k + 232) pc = true := by decide +kernel
