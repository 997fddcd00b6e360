set_option maxRecDepth 1000000 in
theorem fc_fq_360 : tr_all am_oke 5 fq_360 = true := by decide +kernel
set_option maxRecDepth 1000000 in
theorem fc_fq_361 : tr_all am_oke 5 fq_361 = true := by decide +kernel
set_option maxRecDepth 1000000 in
theorem fc_fq_362 : tr_all am_oke 5 fq_362 = true := by decide +kernel
