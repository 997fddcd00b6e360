/-- yX12_match -/
def ct_190 : ax_c := (251, 5, [.inr [122], .inl (false, [(.negSucc 2147483647, .ofNat 2147483647)]), .inl (false, [(.negSucc 2147483647, .ofNat 2147483647)]), .inl (false, [(.negSucc 2147483647, .ofNat 2147483647)]), .inl (false, [(.negSucc 2147483647, .ofNat 2147483647)]), .inl (false, [(.negSucc 2147483647, .ofNat 2147483647)])], [], [(some (false, [(.negSucc 2147483647, .ofNat 2147483647)]), [])], [(122, some 43), (149, none), (150, none), (151, none)])
def an_190 : ax_n := [(16449617, .inr 4), (16384036, .inl ([(.inl (6, false), [(.ofNat 0, .ofNat 1)]), (.inl (7, false), [(.ofNat 0, .ofNat 20)])], [], [], 1, true)), (16449647, .inl ([(.inl (6, false), [(.negSucc 2147483647, .ofNat 2147483647)]), (.inl (7, false), [(.ofNat 0, .ofNat 8)])], [], [], 1, true)), (16449659, .inl ([(.inl (6, false), [(.negSucc 2147483647, .ofNat 2147483647)]), (.inl (8, false), [(.ofNat 0, .ofNat 8)])], [], [], 1, true))]
set_option maxRecDepth 1000000 in
theorem go_190 : ax_go an_190 [ct_17, ct_87] 4000 ct_190 = true := by decide +kernel
theorem mt_190 (H : hd_all) : ax_Met ct_190 := ax_go_ok (ax_M1 (ax_M1 ax_M0 (hm_87 H)) (mt_17)) go_190
/-- yX11_plate -/
def ct_191 : ax_c := (130, 1, [.inr [0], .inl (false, [(.negSucc 2147483647, .ofNat 2147483647)]), .inl (false, [(.negSucc 2147483647, .ofNat 2147483647)])], [], [(some (false, [(.negSucc 1, .ofNat 3)]), [])], [(10, none)])
def an_191 : ax_n := []
set_option maxRecDepth 1000000 in
theorem go_191 : ax_go an_191 [ct_24] 4000 ct_191 = true := by decide +kernel
theorem mt_191 : ax_Met ct_191 := ax_go_ok (ax_M1 ax_M0 (mt_24)) go_191
/-- yX12_plate -/
def ct_192 : ax_c := (235, 2, [.inr [122], .inl (false, [(.negSucc 2147483647, .ofNat 2147483647)]), .inl (false, [(.negSucc 2147483647, .ofNat 2147483647)])], [], [(some (false, [(.negSucc 1, .ofNat 3)]), [])], [(132, none)])
def an_192 : ax_n := []
set_option maxRecDepth 1000000 in
theorem go_192 : ax_go an_192 [ct_25] 4000 ct_192 = true := by decide +kernel
theorem mt_192 : ax_Met ct_192 := ax_go_ok (ax_M1 ax_M0 (mt_25)) go_192
/-- yX11_meet -/
def ct_193 : ax_c := (131, 1, [.inr [0], .inl (false, [(.negSucc 2147483647, .ofNat 2147483647)]), .inl (false, [(.negSucc 2147483647, .ofNat 2147483647)])], [], [(some (false, [(.negSucc 2, .negSucc 2), (.negSucc 0, .ofNat 11)]), [])], [(0, some 10), (68, none), (69, none)])
def an_193 : ax_n := []
set_option maxRecDepth 1000000 in
theorem go_193 : ax_go an_193 [] 4000 ct_193 = true := by decide +kernel
theorem mt_193 : ax_Met ct_193 := ax_go_ok ax_M0 go_193
/-- yX12_meet -/
def ct_194 : ax_c := (236, 2, [.inr [122], .inl (false, [(.negSucc 2147483647, .ofNat 2147483647)]), .inl (false, [(.negSucc 2147483647, .ofNat 2147483647)])], [], [(some (false, [(.negSucc 2, .negSucc 2), (.negSucc 0, .ofNat 11)]), [])], [(122, some 47), (152, none), (153, none)])
def an_194 : ax_n := []
set_option maxRecDepth 1000000 in
theorem go_194 : ax_go an_194 [] 4000 ct_194 = true := by decide +kernel
theorem mt_194 : ax_Met ct_194 := ax_go_ok ax_M0 go_194
/-- yX11_offset -/
def ct_195 : ax_c := (132, 4, [.inr [0], .inl (false, [(.negSucc 2147483647, .ofNat 2147483647)]), .inl (false, [(.negSucc 2147483647, .ofNat 2147483647)])], [], [(some (true, [(.negSucc 9223372036854775807, .ofNat 9223372036854775807)]), [])], [(29, some 1), (29, some 2), (30, none), (32, none), (33, none), (34, none), (35, none), (36, none), (37, none), (38, none), (39, none)])
def an_195 : ax_n := []
set_option maxRecDepth 1000000 in
theorem go_195 : ax_go an_195 [ct_32, ct_30] 4000 ct_195 = true := by decide +kernel
theorem mt_195 : ax_Met ct_195 := ax_go_ok (ax_M1 (ax_M1 ax_M0 (mt_30)) (mt_32)) go_195
/-- yX12_offset -/
def ct_196 : ax_c := (238, 5, [.inr [122], .inl (false, [(.negSucc 2147483647, .ofNat 2147483647)]), .inl (false, [(.negSucc 2147483647, .ofNat 2147483647)])], [], [(some (true, [(.negSucc 9223372036854775807, .ofNat 9223372036854775807)]), [])], [(122, some 12), (122, some 18), (122, some 21), (133, none), (134, none), (135, none), (136, none), (138, none), (139, none)])
def an_196 : ax_n := []
set_option maxRecDepth 1000000 in
theorem go_196 : ax_go an_196 [ct_8, ct_9] 4000 ct_196 = true := by decide +kernel
theorem mt_196 (H : hd_all) : ax_Met ct_196 := ax_go_ok (ax_M1 (ax_M1 ax_M0 (hm_9 H)) (hm_8 H)) go_196
/-- yX11_shift -/
def ct_197 : ax_c := (133, 4, [.inr [0]], [], [(some (false, [(.negSucc 2147483647, .ofNat 2147483647)]), [])], [(7, none), (29, some 1), (29, some 2), (30, none), (32, none), (33, none), (34, none), (35, none), (36, none), (37, none), (38, none), (39, none)])
def an_197 : ax_n := [(8716296, .inl ([(.inl (1, false), [(.negSucc 2147483647, .ofNat 2147483647)]), (.inl (2, false), [(.ofNat 0, .ofNat 16)])], [], [], 1, true))]
set_option maxRecDepth 1000000 in
theorem go_197 : ax_go an_197 [ct_32] 4000 ct_197 = true := by decide +kernel
theorem mt_197 : ax_Met ct_197 := ax_go_ok (ax_M1 ax_M0 (mt_32)) go_197
