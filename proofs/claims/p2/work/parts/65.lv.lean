/-! ===== level, by what comes ===== -/
/-- yX11_level -/
def ct_300 : ax_c := (95, 1, [.inr [0], .inl (false, [(.negSucc 2147483647, .negSucc 0), (.ofNat 1000001, .ofNat 2147483647)]), .inl (false, [(.negSucc 2147483647, .ofNat 2147483647)]), .inl (false, [(.negSucc 2147483647, .ofNat 2147483647)])], [], [(some (false, [(.negSucc 0, .negSucc 0)]), [])], [])
def an_300 : ax_n := []
set_option maxRecDepth 1000000 in
theorem go_300 : ax_go an_300 [] 4000 ct_300 = true := by decide +kernel
theorem mt_300 : ax_Met ct_300 := ax_go_ok ax_M0 go_300
/-- yX11_level -/
def ct_301 : ax_c := (95, 1, [.inr [0], .inl (false, [(.ofNat 0, .ofNat 1000000)]), .inl (false, [(.negSucc 2147483647, .negSucc 0), (.ofNat 2, .ofNat 2147483647)]), .inl (false, [(.negSucc 2147483647, .ofNat 2147483647)])], [], [(some (false, [(.negSucc 0, .negSucc 0)]), [])], [])
def an_301 : ax_n := []
set_option maxRecDepth 1000000 in
theorem go_301 : ax_go an_301 [] 4000 ct_301 = true := by decide +kernel
theorem mt_301 : ax_Met ct_301 := ax_go_ok ax_M0 go_301
/-- yX11_level -/
def ct_302 : ax_c := (95, 1, [.inr [0], .inl (false, [(.ofNat 0, .ofNat 1000000)]), .inl (false, [(.ofNat 0, .ofNat 1)]), .inl (false, [(.negSucc 2147483647, .negSucc 0), (.ofNat 10, .ofNat 2147483647)])], [], [(some (false, [(.negSucc 0, .negSucc 0)]), [])], [])
def an_302 : ax_n := []
set_option maxRecDepth 1000000 in
theorem go_302 : ax_go an_302 [] 4000 ct_302 = true := by decide +kernel
theorem mt_302 : ax_Met ct_302 := ax_go_ok ax_M0 go_302
/-- yX11_level -/
def ct_303 : ax_c := (95, 1, [.inr [0], .inl (false, [(.ofNat 0, .ofNat 1000000)]), .inl (false, [(.ofNat 0, .ofNat 1)]), .inl (false, [(.ofNat 0, .ofNat 9)])], [(1, 0, [(.ofNat 0, .ofNat 0)])], [(some (false, [(.ofNat 0, .ofNat 0)]), [(1, 0, [(.ofNat 1, .ofNat 1)])])], [(1, some 0), (2, none), (3, none), (4, none)])
def an_303 : ax_n := []
set_option maxRecDepth 1000000 in
theorem go_303 : ax_go an_303 [] 4000 ct_303 = true := by decide +kernel
theorem mt_303 : ax_Met ct_303 := ax_go_ok ax_M0 go_303
/-- yX11_level -/
def ct_304 : ax_c := (95, 1, [.inr [0], .inl (false, [(.ofNat 0, .ofNat 1000000)]), .inl (false, [(.ofNat 0, .ofNat 1)]), .inl (false, [(.ofNat 0, .ofNat 9)])], [(1, 0, [(.ofNat 1, .ofNat 1)])], [(some (false, [(.ofNat 1, .ofNat 1)]), [(1, 0, [(.ofNat 2, .ofNat 2)])])], [(1, some 0), (2, none), (3, none), (4, none)])
def an_304 : ax_n := []
set_option maxRecDepth 1000000 in
theorem go_304 : ax_go an_304 [] 4000 ct_304 = true := by decide +kernel
theorem mt_304 : ax_Met ct_304 := ax_go_ok ax_M0 go_304
/-- yX11_level -/
def ct_305 : ax_c := (95, 1, [.inr [0], .inl (false, [(.ofNat 0, .ofNat 1000000)]), .inl (false, [(.ofNat 0, .ofNat 1)]), .inl (false, [(.ofNat 0, .ofNat 9)])], [(1, 0, [(.ofNat 2, .ofNat 2)])], [(some (false, [(.ofNat 2, .ofNat 2)]), [(1, 0, [(.ofNat 3, .ofNat 3)])])], [(1, some 0), (2, none), (3, none), (4, none)])
def an_305 : ax_n := []
set_option maxRecDepth 1000000 in
theorem go_305 : ax_go an_305 [] 4000 ct_305 = true := by decide +kernel
theorem mt_305 : ax_Met ct_305 := ax_go_ok ax_M0 go_305
/-- yX11_level -/
def ct_306 : ax_c := (95, 1, [.inr [0], .inl (false, [(.ofNat 0, .ofNat 1000000)]), .inl (false, [(.ofNat 0, .ofNat 1)]), .inl (false, [(.ofNat 0, .ofNat 9)])], [(1, 0, [(.ofNat 3, .ofNat 3)])], [(some (false, [(.ofNat 3, .ofNat 3)]), [(1, 0, [(.ofNat 4, .ofNat 4)])])], [(1, some 0), (2, none), (3, none), (4, none)])
def an_306 : ax_n := []
set_option maxRecDepth 1000000 in
theorem go_306 : ax_go an_306 [] 4000 ct_306 = true := by decide +kernel
theorem mt_306 : ax_Met ct_306 := ax_go_ok ax_M0 go_306
/-- yX11_level -/
def ct_307 : ax_c := (95, 1, [.inr [0], .inl (false, [(.ofNat 0, .ofNat 1000000)]), .inl (false, [(.ofNat 0, .ofNat 1)]), .inl (false, [(.ofNat 0, .ofNat 9)])], [(1, 0, [(.ofNat 4, .ofNat 4)])], [(some (false, [(.ofNat 4, .ofNat 4)]), [(1, 0, [(.ofNat 5, .ofNat 5)])])], [(1, some 0), (2, none), (3, none), (4, none)])
def an_307 : ax_n := []
set_option maxRecDepth 1000000 in
theorem go_307 : ax_go an_307 [] 4000 ct_307 = true := by decide +kernel
theorem mt_307 : ax_Met ct_307 := ax_go_ok ax_M0 go_307
/-- yX11_level -/
def ct_308 : ax_c := (95, 1, [.inr [0], .inl (false, [(.ofNat 0, .ofNat 1000000)]), .inl (false, [(.ofNat 0, .ofNat 1)]), .inl (false, [(.ofNat 0, .ofNat 9)])], [(1, 0, [(.ofNat 5, .ofNat 5)])], [(some (false, [(.ofNat 5, .ofNat 5)]), [(1, 0, [(.ofNat 6, .ofNat 6)])])], [(1, some 0), (2, none), (3, none), (4, none)])
def an_308 : ax_n := []
set_option maxRecDepth 1000000 in
theorem go_308 : ax_go an_308 [] 4000 ct_308 = true := by decide +kernel
theorem mt_308 : ax_Met ct_308 := ax_go_ok ax_M0 go_308
/-- yX11_level -/
def ct_309 : ax_c := (95, 1, [.inr [0], .inl (false, [(.ofNat 0, .ofNat 1000000)]), .inl (false, [(.ofNat 0, .ofNat 1)]), .inl (false, [(.ofNat 0, .ofNat 9)])], [(1, 0, [(.ofNat 6, .ofNat 6)])], [(some (false, [(.ofNat 6, .ofNat 6)]), [(1, 0, [(.ofNat 7, .ofNat 7)])])], [(1, some 0), (2, none), (3, none), (4, none)])
def an_309 : ax_n := []
set_option maxRecDepth 1000000 in
theorem go_309 : ax_go an_309 [] 4000 ct_309 = true := by decide +kernel
theorem mt_309 : ax_Met ct_309 := ax_go_ok ax_M0 go_309
/-- yX11_level -/
def ct_310 : ax_c := (95, 1, [.inr [0], .inl (false, [(.ofNat 0, .ofNat 1000000)]), .inl (false, [(.ofNat 0, .ofNat 1)]), .inl (false, [(.ofNat 0, .ofNat 9)])], [(1, 0, [(.ofNat 7, .ofNat 7)])], [(some (false, [(.ofNat 7, .ofNat 7)]), [(1, 0, [(.ofNat 8, .ofNat 8)])])], [(1, some 0), (2, none), (3, none), (4, none)])
def an_310 : ax_n := []
set_option maxRecDepth 1000000 in
theorem go_310 : ax_go an_310 [] 4000 ct_310 = true := by decide +kernel
theorem mt_310 : ax_Met ct_310 := ax_go_ok ax_M0 go_310
/-- yX11_level -/
def ct_311 : ax_c := (95, 1, [.inr [0], .inl (false, [(.ofNat 0, .ofNat 1000000)]), .inl (false, [(.ofNat 0, .ofNat 1)]), .inl (false, [(.ofNat 0, .ofNat 9)])], [(1, 0, [(.ofNat 8, .ofNat 8)])], [(some (false, [(.negSucc 2, .negSucc 2)]), [(1, 0, [(.ofNat 8, .ofNat 8)])])], [])
def an_311 : ax_n := []
set_option maxRecDepth 1000000 in
theorem go_311 : ax_go an_311 [] 4000 ct_311 = true := by decide +kernel
theorem mt_311 : ax_Met ct_311 := ax_go_ok ax_M0 go_311
/-- yX12_level -/
def ct_312 : ax_c := (160, 1, [.inr [122], .inl (false, [(.negSucc 2147483647, .negSucc 0), (.ofNat 1000001, .ofNat 2147483647)]), .inl (false, [(.negSucc 2147483647, .ofNat 2147483647)]), .inl (false, [(.negSucc 2147483647, .ofNat 2147483647)])], [], [(some (false, [(.negSucc 0, .negSucc 0)]), [])], [])
def an_312 : ax_n := []
set_option maxRecDepth 1000000 in
theorem go_312 : ax_go an_312 [] 4000 ct_312 = true := by decide +kernel
theorem mt_312 : ax_Met ct_312 := ax_go_ok ax_M0 go_312
/-- yX12_level -/
def ct_313 : ax_c := (160, 1, [.inr [122], .inl (false, [(.ofNat 0, .ofNat 1000000)]), .inl (false, [(.negSucc 2147483647, .negSucc 0), (.ofNat 2, .ofNat 2147483647)]), .inl (false, [(.negSucc 2147483647, .ofNat 2147483647)])], [], [(some (false, [(.negSucc 0, .negSucc 0)]), [])], [])
def an_313 : ax_n := []
set_option maxRecDepth 1000000 in
theorem go_313 : ax_go an_313 [] 4000 ct_313 = true := by decide +kernel
theorem mt_313 : ax_Met ct_313 := ax_go_ok ax_M0 go_313
/-- yX12_level -/
def ct_314 : ax_c := (160, 1, [.inr [122], .inl (false, [(.ofNat 0, .ofNat 1000000)]), .inl (false, [(.ofNat 0, .ofNat 1)]), .inl (false, [(.negSucc 2147483647, .negSucc 0), (.ofNat 10, .ofNat 2147483647)])], [], [(some (false, [(.negSucc 0, .negSucc 0)]), [])], [])
def an_314 : ax_n := []
set_option maxRecDepth 1000000 in
theorem go_314 : ax_go an_314 [] 4000 ct_314 = true := by decide +kernel
theorem mt_314 : ax_Met ct_314 := ax_go_ok ax_M0 go_314
/-- yX12_level -/
def ct_315 : ax_c := (160, 1, [.inr [122], .inl (false, [(.ofNat 0, .ofNat 1000000)]), .inl (false, [(.ofNat 0, .ofNat 1)]), .inl (false, [(.ofNat 0, .ofNat 9)])], [(122, 0, [(.ofNat 0, .ofNat 0)])], [(some (false, [(.ofNat 0, .ofNat 0)]), [(122, 0, [(.ofNat 1, .ofNat 1)])])], [(122, some 0), (123, none), (124, none), (125, none), (126, none)])
def an_315 : ax_n := []
set_option maxRecDepth 1000000 in
theorem go_315 : ax_go an_315 [] 4000 ct_315 = true := by decide +kernel
theorem mt_315 : ax_Met ct_315 := ax_go_ok ax_M0 go_315
/-- yX12_level -/
def ct_316 : ax_c := (160, 1, [.inr [122], .inl (false, [(.ofNat 0, .ofNat 1000000)]), .inl (false, [(.ofNat 0, .ofNat 1)]), .inl (false, [(.ofNat 0, .ofNat 9)])], [(122, 0, [(.ofNat 1, .ofNat 1)])], [(some (false, [(.ofNat 1, .ofNat 1)]), [(122, 0, [(.ofNat 2, .ofNat 2)])])], [(122, some 0), (123, none), (124, none), (125, none), (126, none)])
def an_316 : ax_n := []
set_option maxRecDepth 1000000 in
theorem go_316 : ax_go an_316 [] 4000 ct_316 = true := by decide +kernel
theorem mt_316 : ax_Met ct_316 := ax_go_ok ax_M0 go_316
/-- yX12_level -/
def ct_317 : ax_c := (160, 1, [.inr [122], .inl (false, [(.ofNat 0, .ofNat 1000000)]), .inl (false, [(.ofNat 0, .ofNat 1)]), .inl (false, [(.ofNat 0, .ofNat 9)])], [(122, 0, [(.ofNat 2, .ofNat 2)])], [(some (false, [(.ofNat 2, .ofNat 2)]), [(122, 0, [(.ofNat 3, .ofNat 3)])])], [(122, some 0), (123, none), (124, none), (125, none), (126, none)])
def an_317 : ax_n := []
set_option maxRecDepth 1000000 in
theorem go_317 : ax_go an_317 [] 4000 ct_317 = true := by decide +kernel
theorem mt_317 : ax_Met ct_317 := ax_go_ok ax_M0 go_317
/-- yX12_level -/
def ct_318 : ax_c := (160, 1, [.inr [122], .inl (false, [(.ofNat 0, .ofNat 1000000)]), .inl (false, [(.ofNat 0, .ofNat 1)]), .inl (false, [(.ofNat 0, .ofNat 9)])], [(122, 0, [(.ofNat 3, .ofNat 3)])], [(some (false, [(.ofNat 3, .ofNat 3)]), [(122, 0, [(.ofNat 4, .ofNat 4)])])], [(122, some 0), (123, none), (124, none), (125, none), (126, none)])
def an_318 : ax_n := []
set_option maxRecDepth 1000000 in
theorem go_318 : ax_go an_318 [] 4000 ct_318 = true := by decide +kernel
theorem mt_318 : ax_Met ct_318 := ax_go_ok ax_M0 go_318
/-- yX12_level -/
def ct_319 : ax_c := (160, 1, [.inr [122], .inl (false, [(.ofNat 0, .ofNat 1000000)]), .inl (false, [(.ofNat 0, .ofNat 1)]), .inl (false, [(.ofNat 0, .ofNat 9)])], [(122, 0, [(.ofNat 4, .ofNat 4)])], [(some (false, [(.ofNat 4, .ofNat 4)]), [(122, 0, [(.ofNat 5, .ofNat 5)])])], [(122, some 0), (123, none), (124, none), (125, none), (126, none)])
def an_319 : ax_n := []
set_option maxRecDepth 1000000 in
theorem go_319 : ax_go an_319 [] 4000 ct_319 = true := by decide +kernel
theorem mt_319 : ax_Met ct_319 := ax_go_ok ax_M0 go_319
/-- yX12_level -/
def ct_320 : ax_c := (160, 1, [.inr [122], .inl (false, [(.ofNat 0, .ofNat 1000000)]), .inl (false, [(.ofNat 0, .ofNat 1)]), .inl (false, [(.ofNat 0, .ofNat 9)])], [(122, 0, [(.ofNat 5, .ofNat 5)])], [(some (false, [(.ofNat 5, .ofNat 5)]), [(122, 0, [(.ofNat 6, .ofNat 6)])])], [(122, some 0), (123, none), (124, none), (125, none), (126, none)])
def an_320 : ax_n := []
set_option maxRecDepth 1000000 in
theorem go_320 : ax_go an_320 [] 4000 ct_320 = true := by decide +kernel
theorem mt_320 : ax_Met ct_320 := ax_go_ok ax_M0 go_320
/-- yX12_level -/
def ct_321 : ax_c := (160, 1, [.inr [122], .inl (false, [(.ofNat 0, .ofNat 1000000)]), .inl (false, [(.ofNat 0, .ofNat 1)]), .inl (false, [(.ofNat 0, .ofNat 9)])], [(122, 0, [(.ofNat 6, .ofNat 6)])], [(some (false, [(.ofNat 6, .ofNat 6)]), [(122, 0, [(.ofNat 7, .ofNat 7)])])], [(122, some 0), (123, none), (124, none), (125, none), (126, none)])
def an_321 : ax_n := []
set_option maxRecDepth 1000000 in
theorem go_321 : ax_go an_321 [] 4000 ct_321 = true := by decide +kernel
theorem mt_321 : ax_Met ct_321 := ax_go_ok ax_M0 go_321
/-- yX12_level -/
def ct_322 : ax_c := (160, 1, [.inr [122], .inl (false, [(.ofNat 0, .ofNat 1000000)]), .inl (false, [(.ofNat 0, .ofNat 1)]), .inl (false, [(.ofNat 0, .ofNat 9)])], [(122, 0, [(.ofNat 7, .ofNat 7)])], [(some (false, [(.ofNat 7, .ofNat 7)]), [(122, 0, [(.ofNat 8, .ofNat 8)])])], [(122, some 0), (123, none), (124, none), (125, none), (126, none)])
def an_322 : ax_n := []
set_option maxRecDepth 1000000 in
theorem go_322 : ax_go an_322 [] 4000 ct_322 = true := by decide +kernel
theorem mt_322 : ax_Met ct_322 := ax_go_ok ax_M0 go_322
/-- yX12_level -/
def ct_323 : ax_c := (160, 1, [.inr [122], .inl (false, [(.ofNat 0, .ofNat 1000000)]), .inl (false, [(.ofNat 0, .ofNat 1)]), .inl (false, [(.ofNat 0, .ofNat 9)])], [(122, 0, [(.ofNat 8, .ofNat 8)])], [(some (false, [(.negSucc 2, .negSucc 2)]), [(122, 0, [(.ofNat 8, .ofNat 8)])])], [])
def an_323 : ax_n := []
set_option maxRecDepth 1000000 in
theorem go_323 : ax_go an_323 [] 4000 ct_323 = true := by decide +kernel
theorem mt_323 : ax_Met ct_323 := ax_go_ok ax_M0 go_323
