/-- yX12_scan -/
def ct_216 : ax_c := (249, 2, [.inr [122], .inl (false, [(.negSucc 2147483647, .ofNat 2147483647)]), .inl (false, [(.negSucc 2147483647, .ofNat 2147483647)]), .inl (false, [(.negSucc 2147483647, .ofNat 2147483647)]), .inl (false, [(.negSucc 2147483647, .ofNat 2147483647)])], [], [(some (false, [(.negSucc 22, .negSucc 22), (.negSucc 20, .negSucc 20), (.negSucc 12, .negSucc 10), (.negSucc 0, .ofNat 16)]), [])], [(122, some 5), (127, none), (128, none), (129, none), (130, none), (131, none), (132, none)])
def an_216 : ax_n := [(16318541, .inl ([(.inl (6, false), [(.ofNat 0, .ofNat 16)])], [(122, some 5)], [], 0, true))]
set_option maxRecDepth 1000000 in
theorem go_216 : ax_go an_216 [ct_130] 4000 ct_216 = true := by decide +kernel
theorem mt_216 : ax_Met ct_216 := ax_go_ok (ax_M1 ax_M0 (mt_130)) go_216
/-- yX11_count -/
def ct_217 : ax_c := (141, 4, [.inr [0], .inl (false, [(.negSucc 2147483647, .ofNat 2147483647)])], [], [(some (false, [(.negSucc 2147483647, .ofNat 2147483647)]), [])], [(29, some 1), (29, some 2), (30, none), (32, none), (33, none), (34, none), (35, none), (36, none), (37, none), (38, none), (39, none)])
def an_217 : ax_n := [(2490372, .inl ([(.inl (1, false), [(.negSucc 2147483647, .ofNat 2147483647)]), (.inl (2, false), [(.ofNat 0, .ofNat 16)])], [], [], 1, true)), (5636100, .inl ([(.inl (1, false), [(.negSucc 2147483647, .ofNat 2147483647)]), (.inl (2, false), [(.ofNat 0, .ofNat 8)])], [], [], 1, true))]
set_option maxRecDepth 1000000 in
theorem go_217 : ax_go an_217 [ct_28] 4000 ct_217 = true := by decide +kernel
theorem mt_217 : ax_Met ct_217 := ax_go_ok (ax_M1 ax_M0 (mt_28)) go_217
/-- yX12_count -/
def ct_218 : ax_c := (252, 2, [.inr [122], .inl (false, [(.negSucc 2147483647, .ofNat 2147483647)])], [], [(some (false, [(.negSucc 2147483647, .ofNat 2147483647)]), [])], [(122, some 12), (133, none), (134, none), (135, none), (136, none)])
def an_218 : ax_n := [(16515080, .inl ([(.inl (2, false), [(.negSucc 2147483647, .ofNat 2147483647)]), (.inl (3, false), [(.ofNat 0, .ofNat 8)])], [], [], 1, true))]
set_option maxRecDepth 1000000 in
theorem go_218 : ax_go an_218 [ct_27, ct_38] 4000 ct_218 = true := by decide +kernel
theorem mt_218 : ax_Met ct_218 := ax_go_ok (ax_M1 (ax_M1 ax_M0 (mt_38)) (mt_27)) go_218
/-- yX11_sheet -/
def ct_219 : ax_c := (138, 1, [.inr [0], .inl (false, [(.negSucc 2147483647, .negSucc 0), (.ofNat 4, .ofNat 2147483647)]), .inl (false, [(.negSucc 2147483647, .ofNat 2147483647)]), .inl (false, [(.negSucc 2147483647, .ofNat 2147483647)])], [], [(some (false, [(.negSucc 0, .negSucc 0)]), [])], [])
def an_219 : ax_n := []
set_option maxRecDepth 1000000 in
theorem go_219 : ax_go an_219 [] 4000 ct_219 = true := by decide +kernel
theorem mt_219 : ax_Met ct_219 := ax_go_ok ax_M0 go_219
/-- yX11_sheet -/
def ct_220 : ax_c := (138, 1, [.inr [0], .inl (false, [(.ofNat 0, .ofNat 3)]), .inl (false, [(.negSucc 2147483647, .negSucc 0), (.ofNat 3, .ofNat 2147483647)]), .inl (false, [(.negSucc 2147483647, .ofNat 2147483647)])], [], [(some (false, [(.negSucc 0, .negSucc 0)]), [])], [])
def an_220 : ax_n := []
set_option maxRecDepth 1000000 in
theorem go_220 : ax_go an_220 [] 4000 ct_220 = true := by decide +kernel
theorem mt_220 : ax_Met ct_220 := ax_go_ok ax_M0 go_220
/-- yX11_sheet -/
def ct_221 : ax_c := (138, 1, [.inr [0], .inl (false, [(.ofNat 0, .ofNat 3)]), .inl (false, [(.ofNat 0, .ofNat 2)]), .inl (false, [(.ofNat 61, .ofNat 2147483647)])], [], [(some (false, [(.negSucc 0, .negSucc 0)]), [])], [])
def an_221 : ax_n := []
set_option maxRecDepth 1000000 in
theorem go_221 : ax_go an_221 [] 4000 ct_221 = true := by decide +kernel
theorem mt_221 : ax_Met ct_221 := ax_go_ok ax_M0 go_221
/-- yX11_sheet -/
def ct_222 : ax_c := (138, 1, [.inr [0], .inl (false, [(.ofNat 0, .ofNat 3)]), .inl (false, [(.ofNat 0, .ofNat 2)]), .inl (false, [(.negSucc 2147483647, .negSucc 0)])], [], [(some (false, [(.negSucc 13, .negSucc 13)]), [])], [])
def an_222 : ax_n := []
set_option maxRecDepth 1000000 in
theorem go_222 : ax_go an_222 [] 4000 ct_222 = true := by decide +kernel
theorem mt_222 : ax_Met ct_222 := ax_go_ok ax_M0 go_222
/-- yX11_sheet -/
def ct_223 : ax_c := (138, 2, [.inr [0], .inl (false, [(.ofNat 0, .ofNat 3)]), .inl (false, [(.ofNat 0, .ofNat 2)]), .inl (false, [(.ofNat 0, .ofNat 60)])], [], [(some (false, [(.ofNat 1, .ofNat 1)]), [])], [(114, some 0), (114, some 2), (115, none), (116, some 0), (116, some 2), (117, none), (118, some 0), (118, some 2), (119, none), (120, some 0), (120, some 2), (121, none)])
def an_223 : ax_n := [(17104901, .inl ([(.inl (2, false), [(.ofNat 0, .ofNat 60)])], [], [], 0, true))]
set_option maxRecDepth 1000000 in
theorem go_223 : ax_go an_223 [] 4000 ct_223 = true := by decide +kernel
theorem mt_223 : ax_Met ct_223 := ax_go_ok ax_M0 go_223
/-- yX12_sheet -/
def ct_224 : ax_c := (247, 1, [.inr [122], .inl (false, [(.negSucc 2147483647, .negSucc 0), (.ofNat 4, .ofNat 2147483647)]), .inl (false, [(.negSucc 2147483647, .ofNat 2147483647)]), .inl (false, [(.negSucc 2147483647, .ofNat 2147483647)])], [], [(some (false, [(.negSucc 0, .negSucc 0)]), [])], [])
def an_224 : ax_n := []
set_option maxRecDepth 1000000 in
theorem go_224 : ax_go an_224 [] 4000 ct_224 = true := by decide +kernel
theorem mt_224 : ax_Met ct_224 := ax_go_ok ax_M0 go_224
/-- yX12_sheet -/
def ct_225 : ax_c := (247, 1, [.inr [122], .inl (false, [(.ofNat 0, .ofNat 3)]), .inl (false, [(.negSucc 2147483647, .negSucc 0), (.ofNat 3, .ofNat 2147483647)]), .inl (false, [(.negSucc 2147483647, .ofNat 2147483647)])], [], [(some (false, [(.negSucc 0, .negSucc 0)]), [])], [])
def an_225 : ax_n := []
set_option maxRecDepth 1000000 in
theorem go_225 : ax_go an_225 [] 4000 ct_225 = true := by decide +kernel
theorem mt_225 : ax_Met ct_225 := ax_go_ok ax_M0 go_225
/-- yX12_sheet -/
def ct_226 : ax_c := (247, 1, [.inr [122], .inl (false, [(.ofNat 0, .ofNat 3)]), .inl (false, [(.ofNat 0, .ofNat 2)]), .inl (false, [(.ofNat 61, .ofNat 2147483647)])], [], [(some (false, [(.negSucc 0, .negSucc 0)]), [])], [])
def an_226 : ax_n := []
set_option maxRecDepth 1000000 in
theorem go_226 : ax_go an_226 [] 4000 ct_226 = true := by decide +kernel
theorem mt_226 : ax_Met ct_226 := ax_go_ok ax_M0 go_226
/-- yX12_sheet -/
def ct_227 : ax_c := (247, 1, [.inr [122], .inl (false, [(.ofNat 0, .ofNat 3)]), .inl (false, [(.ofNat 0, .ofNat 2)]), .inl (false, [(.negSucc 2147483647, .negSucc 0)])], [], [(some (false, [(.negSucc 13, .negSucc 13)]), [])], [])
def an_227 : ax_n := []
set_option maxRecDepth 1000000 in
theorem go_227 : ax_go an_227 [] 4000 ct_227 = true := by decide +kernel
theorem mt_227 : ax_Met ct_227 := ax_go_ok ax_M0 go_227
/-- yX12_sheet -/
def ct_228 : ax_c := (247, 1, [.inr [122], .inl (false, [(.ofNat 0, .ofNat 3)]), .inl (false, [(.ofNat 0, .ofNat 2)]), .inl (false, [(.ofNat 0, .ofNat 60)])], [], [(some (false, [(.ofNat 1, .ofNat 1)]), [])], [(158, none), (159, none), (160, none)])
def an_228 : ax_n := [(16187448, .inl ([(.inl (4, false), [(.ofNat 0, .ofNat 60)])], [], [], 0, true))]
set_option maxRecDepth 1000000 in
theorem go_228 : ax_go an_228 [] 4000 ct_228 = true := by decide +kernel
theorem mt_228 : ax_Met ct_228 := ax_go_ok ax_M0 go_228
