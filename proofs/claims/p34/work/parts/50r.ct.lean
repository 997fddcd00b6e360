/-- yX12_compare -/
def ct_202 : ax_c := (245, 1, [.inr [122], .inl (false, [(.negSucc 2147483647, .ofNat 2147483647)]), .inl (false, [(.negSucc 2147483647, .ofNat 2147483647)])], [], [(some (false, [(.negSucc 2147483647, .ofNat 2147483647)]), [])], [])
def an_202 : ax_n := [(16056465, .inl ([(.inl (4, false), [(.negSucc 2147483647, .ofNat 2147483647)]), (.inl (5, false), [(.ofNat 0, .ofNat 2000000)]), (.inl (9, false), [(.ofNat 0, .ofNat 8)])], [], [], 2, true)), (16056586, .inl ([(.inl (6, false), [(.negSucc 2147483647, .ofNat 2147483647)]), (.inl (9, false), [(.ofNat 0, .ofNat 16)])], [], [], 1, true))]
set_option maxRecDepth 1000000 in
theorem go_202 : ax_go an_202 [] 4000 ct_202 = true := by decide +kernel
theorem mt_202 : ax_Met ct_202 := ax_go_ok ax_M0 go_202
/-- yX11_back -/
def ct_203 : ax_c := (136, 2, [.inr [0], .inl (false, [(.negSucc 2147483647, .ofNat 2147483647)])], [], [(some (false, [(.negSucc 2147483647, .ofNat 2147483647)]), [])], [(2, none), (11, none), (12, none), (71, some 0)])
def an_203 : ax_n := [(5177348, .inl ([(.inl (2, false), [(.negSucc 2147483647, .ofNat 2147483647)]), (.inl (3, false), [(.ofNat 0, .ofNat 8)])], [], [], 1, true)), (5308420, .inl ([(.inl (2, false), [(.negSucc 2147483647, .ofNat 2147483647)]), (.inl (3, false), [(.ofNat 0, .ofNat 16)])], [], [], 1, true))]
set_option maxRecDepth 1000000 in
theorem go_203 : ax_go an_203 [ct_1] 4000 ct_203 = true := by decide +kernel
theorem mt_203 (H : hd_all) : ax_Met ct_203 := ax_go_ok (ax_M1 ax_M0 (hm_1 H)) go_203
/-- yX12_back -/
def ct_204 : ax_c := (246, 1, [.inr [122], .inl (false, [(.negSucc 2147483647, .ofNat 2147483647)])], [], [(some (false, [(.negSucc 2147483647, .ofNat 2147483647)]), [])], [(122, some 54), (123, none), (130, none), (131, none)])
def an_204 : ax_n := [(16121879, .inr 1)]
set_option maxRecDepth 1000000 in
theorem go_204 : ax_go an_204 [ct_5] 4000 ct_204 = true := by decide +kernel
theorem mt_204 (H : hd_all) : ax_Met ct_204 := ax_go_ok (ax_M1 ax_M0 (hm_5 H)) go_204
/-- yX11_undo -/
def ct_205 : ax_c := (137, 3, [.inr [0]], [], [(some (false, [(.negSucc 3, .negSucc 3), (.ofNat 0, .ofNat 5)]), [])], [(2, none), (11, none), (12, none), (71, some 0)])
def an_205 : ax_n := []
set_option maxRecDepth 1000000 in
theorem go_205 : ax_go an_205 [ct_1] 4000 ct_205 = true := by decide +kernel
theorem mt_205 (H : hd_all) : ax_Met ct_205 := ax_go_ok (ax_M1 ax_M0 (hm_1 H)) go_205
/-- yX12_undo -/
def ct_206 : ax_c := (243, 1, [.inr [122]], [], [(some (false, [(.negSucc 3, .negSucc 3), (.negSucc 0, .ofNat 5)]), [])], [(122, some 54), (123, none), (130, none), (131, none)])
def an_206 : ax_n := [(15925268, .inr 222054)]
set_option maxRecDepth 1000000 in
theorem go_206 : ax_go an_206 [ct_6] 4000 ct_206 = true := by decide +kernel
theorem mt_206 (H : hd_all) : ax_Met ct_206 := ax_go_ok (ax_M1 ax_M0 (hm_6 H)) go_206
/-- yX11_sheet -/
def ct_207 : ax_c := (138, 2, [.inr [0], .inl (false, [(.negSucc 2147483647, .ofNat 2147483647)]), .inl (false, [(.negSucc 2147483647, .ofNat 2147483647)]), .inl (false, [(.negSucc 2147483647, .ofNat 2147483647)])], [], [(some (false, [(.negSucc 13, .negSucc 13), (.negSucc 0, .negSucc 0), (.ofNat 1, .ofNat 1)]), [])], [(114, some 0), (114, some 2), (115, none), (116, some 0), (116, some 2), (117, none), (118, some 0), (118, some 2), (119, none), (120, some 0), (120, some 2), (121, none)])
def an_207 : ax_n := [(17104901, .inl ([(.inl (2, false), [(.ofNat 0, .ofNat 60)])], [], [], 0, true))]
set_option maxRecDepth 1000000 in
theorem go_207 : ax_go an_207 [] 4000 ct_207 = true := by decide +kernel
theorem mt_207 : ax_Met ct_207 := ax_go_ok ax_M0 go_207
/-- yX12_sheet -/
def ct_208 : ax_c := (247, 1, [.inr [122], .inl (false, [(.negSucc 2147483647, .ofNat 2147483647)]), .inl (false, [(.negSucc 2147483647, .ofNat 2147483647)]), .inl (false, [(.negSucc 2147483647, .ofNat 2147483647)])], [], [(some (false, [(.negSucc 13, .negSucc 13), (.negSucc 0, .negSucc 0), (.ofNat 1, .ofNat 1)]), [])], [(158, none), (159, none), (160, none)])
def an_208 : ax_n := [(16187448, .inl ([(.inl (4, false), [(.ofNat 0, .ofNat 60)])], [], [], 0, true))]
set_option maxRecDepth 1000000 in
theorem go_208 : ax_go an_208 [] 4000 ct_208 = true := by decide +kernel
theorem mt_208 : ax_Met ct_208 := ax_go_ok ax_M0 go_208
/-- yX11_lay -/
def ct_209 : ax_c := (139, 1, [.inr [0], .inl (false, [(.negSucc 2147483647, .ofNat 2147483647)]), .inl (false, [(.negSucc 2147483647, .ofNat 2147483647)]), .inl (false, [(.negSucc 2147483647, .ofNat 2147483647)])], [], [(some (false, [(.negSucc 11, .negSucc 10), (.negSucc 0, .negSucc 0), (.ofNat 1, .ofNat 1)]), [])], [(115, none), (117, none), (119, none), (121, none)])
def an_209 : ax_n := []
set_option maxRecDepth 1000000 in
theorem go_209 : ax_go an_209 [] 4000 ct_209 = true := by decide +kernel
theorem mt_209 : ax_Met ct_209 := ax_go_ok ax_M0 go_209
/-- yX12_lay -/
def ct_210 : ax_c := (248, 1, [.inr [122], .inl (false, [(.negSucc 2147483647, .ofNat 2147483647)]), .inl (false, [(.negSucc 2147483647, .ofNat 2147483647)]), .inl (false, [(.negSucc 2147483647, .ofNat 2147483647)])], [], [(some (false, [(.negSucc 11, .negSucc 10), (.negSucc 0, .negSucc 0), (.ofNat 1, .ofNat 1)]), [])], [(160, none)])
def an_210 : ax_n := []
set_option maxRecDepth 1000000 in
theorem go_210 : ax_go an_210 [] 4000 ct_210 = true := by decide +kernel
theorem mt_210 : ax_Met ct_210 := ax_go_ok ax_M0 go_210
/-- yX11_scan -/
def ct_211 : ax_c := (140, 1, [.inr [0], .inl (false, [(.negSucc 2147483647, .negSucc 0), (.ofNat 4, .ofNat 2147483647)]), .inl (false, [(.negSucc 2147483647, .ofNat 2147483647)]), .inl (false, [(.negSucc 2147483647, .ofNat 2147483647)]), .inl (false, [(.negSucc 2147483647, .ofNat 2147483647)])], [], [(some (false, [(.negSucc 0, .negSucc 0)]), [])], [])
def an_211 : ax_n := []
set_option maxRecDepth 1000000 in
theorem go_211 : ax_go an_211 [] 4000 ct_211 = true := by decide +kernel
theorem mt_211 : ax_Met ct_211 := ax_go_ok ax_M0 go_211
