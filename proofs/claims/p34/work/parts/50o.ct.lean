/-- yX11_missing -/
def ct_181 : ax_c := (125, 2, [.inr [0], .inl (false, [(.negSucc 2147483647, .ofNat 2147483647)])], [], [(some (true, [(.negSucc 9223372036854775807, .ofNat 9223372036854775807)]), [])], [])
def an_181 : ax_n := [(1441797, .inl ([(.inl (2, true), [(.negSucc 9223372036854775807, .ofNat 9223372036854775807)]), (.inl (4, false), [(.ofNat 0, .ofNat 13)])], [], [], 1, true)), (1441807, .inl ([(.inl (2, true), [(.negSucc 9223372036854775807, .ofNat 9223372036854775807)]), (.inl (5, false), [(.ofNat 0, .ofNat 41)])], [], [], 1, true)), (1900549, .inl ([(.inl (3, false), [(.negSucc 2147483647, .ofNat 2147483647)]), (.inl (4, false), [(.ofNat 0, .ofNat 8)])], [], [], 1, true)), (8192032, .inl ([(.inl (2, true), [(.negSucc 9223372036854775807, .ofNat 9223372036854775807)]), (.inl (4, false), [(.ofNat 0, .ofNat 10)])], [], [], 1, true))]
set_option maxRecDepth 1000000 in
theorem go_181 : ax_go an_181 [] 4000 ct_181 = true := by decide +kernel
theorem mt_181 : ax_Met ct_181 := ax_go_ok ax_M0 go_181
/-- yX12_missing -/
def ct_182 : ax_c := (227, 5, [.inr [122], .inl (false, [(.negSucc 2147483647, .ofNat 2147483647)])], [], [(some (true, [(.negSucc 9223372036854775807, .ofNat 9223372036854775807)]), [])], [(148, none)])
def an_182 : ax_n := [(13959172, .inl ([(.inl (1, false), [(.negSucc 2147483647, .ofNat 2147483647)]), (.inl (2, false), [(.ofNat 0, .ofNat 4)])], [], [], 1, true)), (14286850, .inl ([(.inl (1, false), [(.ofNat 0, .ofNat 30375)])], [], [], 0, true)), (14286884, .inl ([(.inl (1, false), [(.ofNat 0, .ofNat 4)])], [(148, none)], [], 0, true)), (14286894, .inl ([(.inl (2, false), [(.ofNat 0, .ofNat 14)])], [(148, none)], [], 0, true)), (14286947, .inl ([(.inl (2, false), [(.ofNat 0, .ofNat 2025)])], [], [], 0, true)), (14286987, .inl ([(.inl (2, false), [(.ofNat 2025, .ofNat 30375)])], [], [], 0, true)), (14352389, .inl ([(.inl (4, false), [(.negSucc 0, .ofNat 13)])], [(148, none)], [], 0, false)), (14352398, .inl ([(.inl (5, false), [(.negSucc 39, .ofNat 41)])], [(148, none)], [], 0, true)), (14352409, .inl ([(.inl (6, false), [(.negSucc 11, .ofNat 13)])], [(148, none)], [], 0, true)), (14680069, .inl ([(.inl (2, true), [(.negSucc 9223372036854775807, .ofNat 9223372036854775807)]), (.inl (4, false), [(.ofNat 0, .ofNat 41)])], [], [], 1, true)), (14680079, .inl ([(.inl (2, true), [(.negSucc 9223372036854775807, .ofNat 9223372036854775807)]), (.inl (5, false), [(.ofNat 0, .ofNat 13)])], [], [], 1, true)), (14876706, .inl ([(.inl (2, true), [(.negSucc 9223372036854775807, .ofNat 9223372036854775807)]), (.inl (4, false), [(.ofNat 0, .ofNat 10)])], [], [], 1, true)), (14876719, .inl ([(.inl (5, true), [(.negSucc 9223372036854775807, .ofNat 9223372036854775807)]), (.inl (7, false), [(.ofNat 0, .ofNat 8)])], [], [], 1, true))]
set_option maxRecDepth 1000000 in
theorem go_182 : ax_go an_182 [] 4000 ct_182 = true := by decide +kernel
theorem mt_182 : ax_Met ct_182 := ax_go_ok ax_M0 go_182
/-- yX11_factor -/
def ct_183 : ax_c := (126, 1, [.inr [0], .inl (false, [(.negSucc 2147483647, .ofNat 2147483647)]), .inl (false, [(.negSucc 2147483647, .ofNat 2147483647)])], [], [(some (false, [(.negSucc 999, .negSucc 999), (.negSucc 99, .ofNat 100)]), [])], [(5, none)])
def an_183 : ax_n := []
set_option maxRecDepth 1000000 in
theorem go_183 : ax_go an_183 [] 4000 ct_183 = true := by decide +kernel
theorem mt_183 : ax_Met ct_183 := ax_go_ok ax_M0 go_183
/-- yX12_factor -/
def ct_184 : ax_c := (228, 2, [.inr [122], .inl (false, [(.negSucc 2147483647, .ofNat 2147483647)]), .inl (false, [(.negSucc 2147483647, .ofNat 2147483647)])], [], [(some (false, [(.negSucc 999, .negSucc 999), (.negSucc 99, .ofNat 100)]), [])], [(126, none)])
def an_184 : ax_n := []
set_option maxRecDepth 1000000 in
theorem go_184 : ax_go an_184 [] 4000 ct_184 = true := by decide +kernel
theorem mt_184 : ax_Met ct_184 := ax_go_ok ax_M0 go_184
/-- yX11_pattern -/
def ct_185 : ax_c := (127, 3, [.inr [0], .inl (false, [(.negSucc 2147483647, .ofNat 2147483647)]), .inl (false, [(.negSucc 2147483647, .ofNat 2147483647)]), .inl (false, [(.negSucc 2147483647, .ofNat 2147483647)])], [], [(some (false, [(.negSucc 2147483647, .ofNat 2147483647)]), [])], [(64, some 0), (65, none), (66, none), (67, none)])
def an_185 : ax_n := [(589828, .inl ([(.inl (1, false), [(.negSucc 2147483647, .ofNat 2147483647)]), (.inl (2, false), [(.ofNat 0, .ofNat 30)])], [], [], 1, true)), (655364, .inl ([(.inl (2, false), [(.negSucc 2147483647, .ofNat 2147483647)]), (.inl (3, false), [(.ofNat 0, .ofNat 30)])], [], [], 1, true))]
set_option maxRecDepth 1000000 in
theorem go_185 : ax_go an_185 [ct_14, ct_44] 4000 ct_185 = true := by decide +kernel
theorem mt_185 : ax_Met ct_185 := ax_go_ok (ax_M1 (ax_M1 ax_M0 (mt_44)) (mt_14)) go_185
/-- yX12_pattern -/
def ct_186 : ax_c := (232, 4, [.inr [122], .inl (false, [(.negSucc 2147483647, .ofNat 2147483647)]), .inl (false, [(.negSucc 2147483647, .ofNat 2147483647)]), .inl (false, [(.negSucc 2147483647, .ofNat 2147483647)])], [], [(some (false, [(.negSucc 2147483647, .ofNat 2147483647)]), [])], [(122, some 43), (149, none), (150, none), (151, none)])
def an_186 : ax_n := [(15204412, .inl ([(.inl (4, false), [(.negSucc 2147483647, .ofNat 2147483647)]), (.inl (5, false), [(.negSucc 2147483647, .ofNat 2147483647)]), (.inl (6, false), [(.negSucc 2147483647, .ofNat 2147483647)]), (.inl (7, false), [(.ofNat 0, .ofNat 40)])], [], [], 3, true))]
set_option maxRecDepth 1000000 in
theorem go_186 : ax_go an_186 [ct_17, ct_87] 4000 ct_186 = true := by decide +kernel
theorem mt_186 (H : hd_all) : ax_Met ct_186 := ax_go_ok (ax_M1 (ax_M1 ax_M0 (hm_87 H)) (mt_17)) go_186
/-- yX11_component -/
def ct_187 : ax_c := (128, 3, [.inr [0], .inl (false, [(.negSucc 2147483647, .ofNat 2147483647)]), .inl (false, [(.negSucc 2147483647, .ofNat 2147483647)]), .inl (false, [(.negSucc 2147483647, .ofNat 2147483647)]), .inl (false, [(.negSucc 2147483647, .ofNat 2147483647)])], [], [(some (false, [(.negSucc 2147483647, .ofNat 2147483647)]), [])], [(64, some 0), (65, none), (66, none), (67, none)])
def an_187 : ax_n := []
set_option maxRecDepth 1000000 in
theorem go_187 : ax_go an_187 [ct_14, ct_44] 4000 ct_187 = true := by decide +kernel
theorem mt_187 : ax_Met ct_187 := ax_go_ok (ax_M1 (ax_M1 ax_M0 (mt_44)) (mt_14)) go_187
/-- yX12_component -/
def ct_188 : ax_c := (233, 4, [.inr [122], .inl (false, [(.negSucc 2147483647, .ofNat 2147483647)]), .inl (false, [(.negSucc 2147483647, .ofNat 2147483647)]), .inl (false, [(.negSucc 2147483647, .ofNat 2147483647)]), .inl (false, [(.negSucc 2147483647, .ofNat 2147483647)])], [], [(some (false, [(.negSucc 2147483647, .ofNat 2147483647)]), [])], [(122, some 43), (149, none), (150, none), (151, none)])
def an_188 : ax_n := []
set_option maxRecDepth 1000000 in
theorem go_188 : ax_go an_188 [ct_17, ct_87] 4000 ct_188 = true := by decide +kernel
theorem mt_188 (H : hd_all) : ax_Met ct_188 := ax_go_ok (ax_M1 (ax_M1 ax_M0 (hm_87 H)) (mt_17)) go_188
/-- yX11_match -/
def ct_189 : ax_c := (129, 3, [.inr [0], .inl (false, [(.negSucc 2147483647, .ofNat 2147483647)]), .inl (false, [(.negSucc 2147483647, .ofNat 2147483647)]), .inl (false, [(.negSucc 2147483647, .ofNat 2147483647)]), .inl (false, [(.negSucc 2147483647, .ofNat 2147483647)]), .inl (false, [(.negSucc 2147483647, .ofNat 2147483647)])], [], [(some (false, [(.negSucc 2147483647, .ofNat 2147483647)]), [])], [(64, some 0), (65, none), (66, none), (67, none)])
def an_189 : ax_n := [(8454238, .inl ([(.inl (7, false), [(.negSucc 2147483647, .ofNat 2147483647)]), (.inl (8, false), [(.ofNat 0, .ofNat 8)])], [], [], 1, true)), (8454253, .inl ([(.inl (7, false), [(.negSucc 2147483647, .ofNat 2147483647)]), (.inl (9, false), [(.ofNat 0, .ofNat 8)])], [], [], 1, true))]
set_option maxRecDepth 1000000 in
theorem go_189 : ax_go an_189 [ct_14, ct_44, ct_45] 4000 ct_189 = true := by decide +kernel
theorem mt_189 : ax_Met ct_189 := ax_go_ok (ax_M1 (ax_M1 (ax_M1 ax_M0 (mt_45)) (mt_44)) (mt_14)) go_189
