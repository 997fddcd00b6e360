/-- yX12_shells -/
def ct_170 : ax_c := (214, 4, [.inr [122]], [], [(some (false, [(.negSucc 2147483647, .ofNat 2147483647)]), [])], [(122, some 26), (122, some 27), (122, some 28), (122, some 29), (122, some 30), (122, some 31), (122, some 32), (122, some 33), (122, some 34), (122, some 38), (142, none), (143, none), (144, none), (145, none), (146, none), (147, none)])
def an_170 : ax_n := [(13959172, .inl ([(.inl (1, false), [(.negSucc 2147483647, .ofNat 2147483647)]), (.inl (2, false), [(.ofNat 0, .ofNat 4)])], [], [], 1, true)), (14024789, .inl ([(.inl (1, false), [(.ofNat 0, .ofNat 4)])], [], [], 0, true))]
set_option maxRecDepth 1000000 in
theorem go_170 : ax_go an_170 [ct_100, ct_102, ct_103, ct_104, ct_105, ct_106] 4000 ct_170 = true := by decide +kernel
theorem mt_170 : ax_Met ct_170 := ax_go_ok (ax_M1 (ax_M1 (ax_M1 (ax_M1 (ax_M1 (ax_M1 ax_M0 (mt_106)) (mt_105)) (mt_104)) (mt_103)) (mt_102)) (mt_100)) go_170
/-- yX11_fault -/
def ct_171 : ax_c := (120, 0, [.inr [0]], [], [(some (false, [(.negSucc 2147483647, .ofNat 2147483647)]), [])], [])
def an_171 : ax_n := []
set_option maxRecDepth 1000000 in
theorem go_171 : ax_go an_171 [] 4000 ct_171 = true := by decide +kernel
theorem mt_171 : ax_Met ct_171 := ax_go_ok ax_M0 go_171
/-- yX12_fault -/
def ct_172 : ax_c := (215, 0, [.inr [122]], [], [(some (false, [(.negSucc 2147483647, .ofNat 2147483647)]), [])], [])
def an_172 : ax_n := []
set_option maxRecDepth 1000000 in
theorem go_172 : ax_go an_172 [] 4000 ct_172 = true := by decide +kernel
theorem mt_172 : ax_Met ct_172 := ax_go_ok ax_M0 go_172
/-- yX11_fillings -/
def ct_173 : ax_c := (121, 2, [.inr [0], .inl (false, [(.negSucc 2147483647, .ofNat 2147483647)]), .inl (false, [(.negSucc 2147483647, .ofNat 2147483647)])], [], [(some (true, [(.negSucc 9223372036854775807, .ofNat 9223372036854775807)]), [])], [])
def an_173 : ax_n := []
set_option maxRecDepth 1000000 in
theorem go_173 : ax_go an_173 [] 4000 ct_173 = true := by decide +kernel
theorem mt_173 : ax_Met ct_173 := ax_go_ok ax_M0 go_173
/-- yX12_fillings -/
def ct_174 : ax_c := (221, 4, [.inr [122], .inl (false, [(.negSucc 2147483647, .ofNat 2147483647)]), .inl (false, [(.negSucc 2147483647, .ofNat 2147483647)])], [], [(some (true, [(.negSucc 9223372036854775807, .ofNat 9223372036854775807)]), [])], [(148, none)])
def an_174 : ax_n := [(14286850, .inl ([(.inl (1, false), [(.ofNat 0, .ofNat 30375)])], [], [], 0, true)), (14286884, .inl ([(.inl (1, false), [(.ofNat 0, .ofNat 4)])], [(148, none)], [], 0, true)), (14286894, .inl ([(.inl (2, false), [(.ofNat 0, .ofNat 14)])], [(148, none)], [], 0, true)), (14286947, .inl ([(.inl (2, false), [(.ofNat 0, .ofNat 2025)])], [], [], 0, true)), (14286987, .inl ([(.inl (2, false), [(.ofNat 2025, .ofNat 30375)])], [], [], 0, true)), (14352389, .inl ([(.inl (4, false), [(.negSucc 0, .ofNat 13)])], [(148, none)], [], 0, false)), (14352398, .inl ([(.inl (5, false), [(.negSucc 39, .ofNat 41)])], [(148, none)], [], 0, true)), (14352409, .inl ([(.inl (6, false), [(.negSucc 11, .ofNat 13)])], [(148, none)], [], 0, true))]
set_option maxRecDepth 1000000 in
theorem go_174 : ax_go an_174 [] 4000 ct_174 = true := by decide +kernel
theorem mt_174 : ax_Met ct_174 := ax_go_ok ax_M0 go_174
/-- yX11_terms -/
def ct_175 : ax_c := (122, 1, [.inr [0], .inl (false, [(.negSucc 2147483647, .ofNat 2147483647)]), .inl (false, [(.negSucc 2147483647, .ofNat 2147483647)])], [], [(some (true, [(.negSucc 9223372036854775807, .ofNat 9223372036854775807)]), [])], [])
def an_175 : ax_n := []
set_option maxRecDepth 1000000 in
theorem go_175 : ax_go an_175 [] 4000 ct_175 = true := by decide +kernel
theorem mt_175 : ax_Met ct_175 := ax_go_ok ax_M0 go_175
/-- yX12_terms -/
def ct_176 : ax_c := (223, 4, [.inr [122], .inl (false, [(.negSucc 2147483647, .ofNat 2147483647)]), .inl (false, [(.negSucc 2147483647, .ofNat 2147483647)])], [], [(some (true, [(.negSucc 9223372036854775807, .ofNat 9223372036854775807)]), [])], [(148, none)])
def an_176 : ax_n := [(14286850, .inl ([(.inl (1, false), [(.ofNat 0, .ofNat 30375)])], [], [], 0, true)), (14286884, .inl ([(.inl (1, false), [(.ofNat 0, .ofNat 4)])], [(148, none)], [], 0, true)), (14286894, .inl ([(.inl (2, false), [(.ofNat 0, .ofNat 14)])], [(148, none)], [], 0, true)), (14286947, .inl ([(.inl (2, false), [(.ofNat 0, .ofNat 2025)])], [], [], 0, true)), (14286987, .inl ([(.inl (2, false), [(.ofNat 2025, .ofNat 30375)])], [], [], 0, true)), (14352389, .inl ([(.inl (4, false), [(.negSucc 0, .ofNat 13)])], [(148, none)], [], 0, false)), (14352398, .inl ([(.inl (5, false), [(.negSucc 39, .ofNat 41)])], [(148, none)], [], 0, true)), (14352409, .inl ([(.inl (6, false), [(.negSucc 11, .ofNat 13)])], [(148, none)], [], 0, true))]
set_option maxRecDepth 1000000 in
theorem go_176 : ax_go an_176 [] 4000 ct_176 = true := by decide +kernel
theorem mt_176 : ax_Met ct_176 := ax_go_ok ax_M0 go_176
/-- yX11_spins -/
def ct_177 : ax_c := (123, 2, [.inr [0], .inl (false, [(.negSucc 2147483647, .ofNat 2147483647)])], [], [(some (true, [(.negSucc 9223372036854775807, .ofNat 9223372036854775807)]), [])], [])
def an_177 : ax_n := [(1441797, .inl ([(.inl (2, true), [(.negSucc 9223372036854775807, .ofNat 9223372036854775807)]), (.inl (4, false), [(.ofNat 0, .ofNat 13)])], [], [], 1, true)), (1441807, .inl ([(.inl (2, true), [(.negSucc 9223372036854775807, .ofNat 9223372036854775807)]), (.inl (5, false), [(.ofNat 0, .ofNat 41)])], [], [], 1, true))]
set_option maxRecDepth 1000000 in
theorem go_177 : ax_go an_177 [] 4000 ct_177 = true := by decide +kernel
theorem mt_177 : ax_Met ct_177 := ax_go_ok ax_M0 go_177
/-- yX12_spins -/
def ct_178 : ax_c := (225, 5, [.inr [122], .inl (false, [(.negSucc 2147483647, .ofNat 2147483647)])], [], [(some (true, [(.negSucc 9223372036854775807, .ofNat 9223372036854775807)]), [])], [(148, none)])
def an_178 : ax_n := [(14286850, .inl ([(.inl (1, false), [(.ofNat 0, .ofNat 30375)])], [], [], 0, true)), (14286884, .inl ([(.inl (1, false), [(.ofNat 0, .ofNat 4)])], [(148, none)], [], 0, true)), (14286894, .inl ([(.inl (2, false), [(.ofNat 0, .ofNat 14)])], [(148, none)], [], 0, true)), (14286947, .inl ([(.inl (2, false), [(.ofNat 0, .ofNat 2025)])], [], [], 0, true)), (14286987, .inl ([(.inl (2, false), [(.ofNat 2025, .ofNat 30375)])], [], [], 0, true)), (14352389, .inl ([(.inl (4, false), [(.negSucc 0, .ofNat 13)])], [(148, none)], [], 0, false)), (14352398, .inl ([(.inl (5, false), [(.negSucc 39, .ofNat 41)])], [(148, none)], [], 0, true)), (14352409, .inl ([(.inl (6, false), [(.negSucc 11, .ofNat 13)])], [(148, none)], [], 0, true)), (14680069, .inl ([(.inl (2, true), [(.negSucc 9223372036854775807, .ofNat 9223372036854775807)]), (.inl (4, false), [(.ofNat 0, .ofNat 41)])], [], [], 1, true)), (14680079, .inl ([(.inl (2, true), [(.negSucc 9223372036854775807, .ofNat 9223372036854775807)]), (.inl (5, false), [(.ofNat 0, .ofNat 13)])], [], [], 1, true))]
set_option maxRecDepth 1000000 in
theorem go_178 : ax_go an_178 [] 4000 ct_178 = true := by decide +kernel
theorem mt_178 : ax_Met ct_178 := ax_go_ok ax_M0 go_178
/-- yX11_term -/
def ct_179 : ax_c := (124, 2, [.inr [0], .inl (false, [(.negSucc 2147483647, .ofNat 2147483647)]), .inl (false, [(.negSucc 2147483647, .ofNat 2147483647)])], [], [(some (true, [(.negSucc 9223372036854775807, .ofNat 9223372036854775807)]), [])], [])
def an_179 : ax_n := [(1507334, .inl ([(.inl (3, false), [(.negSucc 2147483647, .ofNat 2147483647)]), (.inl (4, false), [(.negSucc 0, .ofNat 12)])], [], [], 1, false)), (1507343, .inl ([(.inl (3, false), [(.negSucc 2147483647, .ofNat 2147483647)]), (.inl (5, false), [(.negSucc 0, .ofNat 40)])], [], [], 1, false))]
set_option maxRecDepth 1000000 in
theorem go_179 : ax_go an_179 [] 4000 ct_179 = true := by decide +kernel
theorem mt_179 : ax_Met ct_179 := ax_go_ok ax_M0 go_179
/-- yX12_term -/
def ct_180 : ax_c := (226, 4, [.inr [122], .inl (false, [(.negSucc 2147483647, .ofNat 2147483647)]), .inl (false, [(.negSucc 2147483647, .ofNat 2147483647)])], [], [(some (true, [(.negSucc 3, .negSucc 3), (.negSucc 1, .ofNat 9223372036854775807)]), [])], [(148, none)])
def an_180 : ax_n := [(14286850, .inl ([(.inl (1, false), [(.ofNat 0, .ofNat 30375)])], [], [], 0, true)), (14286884, .inl ([(.inl (1, false), [(.ofNat 0, .ofNat 4)])], [(148, none)], [], 0, true)), (14286894, .inl ([(.inl (2, false), [(.ofNat 0, .ofNat 14)])], [(148, none)], [], 0, true)), (14286947, .inl ([(.inl (2, false), [(.ofNat 0, .ofNat 2025)])], [], [], 0, true)), (14286987, .inl ([(.inl (2, false), [(.ofNat 2025, .ofNat 30375)])], [], [], 0, true)), (14352389, .inl ([(.inl (4, false), [(.negSucc 0, .ofNat 13)])], [(148, none)], [], 0, false)), (14352398, .inl ([(.inl (5, false), [(.negSucc 39, .ofNat 41)])], [(148, none)], [], 0, true)), (14352409, .inl ([(.inl (6, false), [(.negSucc 11, .ofNat 13)])], [(148, none)], [], 0, true)), (14811177, .inl ([(.inl (3, false), [(.ofNat 0, .ofNat 2147483647)]), (.inl (4, false), [(.negSucc 0, .ofNat 12)])], [], [], 1, false)), (14811186, .inl ([(.inl (3, false), [(.ofNat 0, .ofNat 2147483647)]), (.inl (5, false), [(.negSucc 0, .ofNat 40)])], [], [], 1, false))]
set_option maxRecDepth 1000000 in
theorem go_180 : ax_go an_180 [] 4000 ct_180 = true := by decide +kernel
theorem mt_180 : ax_Met ct_180 := ax_go_ok ax_M0 go_180
