/-- yX12_line -/
def ct_130 : ax_c := (167, 1, [.inr [122], .inl (false, [(.negSucc 2147483647, .ofNat 2147483647)]), .inl (false, [(.negSucc 2147483647, .ofNat 2147483647)]), .inl (false, [(.negSucc 2147483647, .ofNat 2147483647)])], [], [(some (false, [(.negSucc 2, .negSucc 2), (.negSucc 0, .ofNat 15)]), [])], [(122, some 5), (127, none), (128, none), (129, none), (130, none), (131, none), (132, none)])
def an_130 : ax_n := []
set_option maxRecDepth 1000000 in
theorem go_130 : ax_go an_130 [] 4000 ct_130 = true := by decide +kernel
theorem mt_130 : ax_Met ct_130 := ax_go_ok ax_M0 go_130
/-- yX11_drop -/
def ct_131 : ax_c := (99, 1, [.inr [0]], [], [(some (false, [(.negSucc 3, .negSucc 3), (.negSucc 1, .negSucc 1), (.ofNat 0, .ofNat 15)]), [])], [(6, some 0), (71, some 0)])
def an_131 : ax_n := []
set_option maxRecDepth 1000000 in
theorem go_131 : ax_go an_131 [ct_24] 4000 ct_131 = true := by decide +kernel
theorem mt_131 : ax_Met ct_131 := ax_go_ok (ax_M1 ax_M0 (mt_24)) go_131
/-- yX12_drop -/
def ct_132 : ax_c := (168, 1, [.inr [122]], [], [(some (false, [(.negSucc 3, .negSucc 3), (.negSucc 1, .negSucc 1), (.ofNat 0, .ofNat 15)]), [])], [(122, some 5), (122, some 54)])
def an_132 : ax_n := []
set_option maxRecDepth 1000000 in
theorem go_132 : ax_go an_132 [ct_25] 4000 ct_132 = true := by decide +kernel
theorem mt_132 : ax_Met ct_132 := ax_go_ok (ax_M1 ax_M0 (mt_25)) go_132
/-- yX11_about -/
def ct_133 : ax_c := (100, 1, [.inr [0], .inl (false, [(.negSucc 2147483647, .ofNat 2147483647)]), .inl (false, [(.negSucc 2147483647, .ofNat 2147483647)])], [], [(some (false, [(.negSucc 3, .negSucc 3), (.negSucc 0, .ofNat 1000000)]), [])], [])
def an_133 : ax_n := []
set_option maxRecDepth 1000000 in
theorem go_133 : ax_go an_133 [] 4000 ct_133 = true := by decide +kernel
theorem mt_133 : ax_Met ct_133 := ax_go_ok ax_M0 go_133
/-- yX12_about -/
def ct_134 : ax_c := (169, 2, [.inr [122], .inl (false, [(.negSucc 2147483647, .ofNat 2147483647)]), .inl (false, [(.negSucc 2147483647, .ofNat 2147483647)])], [], [(some (false, [(.negSucc 3, .negSucc 3), (.negSucc 0, .ofNat 1000000)]), [])], [])
def an_134 : ax_n := []
set_option maxRecDepth 1000000 in
theorem go_134 : ax_go an_134 [] 4000 ct_134 = true := by decide +kernel
theorem mt_134 : ax_Met ct_134 := ax_go_ok ax_M0 go_134
/-- yX11_allowed -/
def ct_135 : ax_c := (101, 3, [.inr [0], .inl (false, [(.negSucc 2147483647, .ofNat 2147483647)]), .inl (false, [(.negSucc 2147483647, .ofNat 2147483647)])], [], [(some (false, [(.negSucc 0, .ofNat 1)]), [])], [])
def an_135 : ax_n := []
set_option maxRecDepth 1000000 in
theorem go_135 : ax_go an_135 [ct_14] 4000 ct_135 = true := by decide +kernel
theorem mt_135 : ax_Met ct_135 := ax_go_ok (ax_M1 ax_M0 (mt_14)) go_135
/-- yX12_allowed -/
def ct_136 : ax_c := (172, 2, [.inr [122], .inl (false, [(.negSucc 2147483647, .ofNat 2147483647)]), .inl (false, [(.negSucc 2147483647, .ofNat 2147483647)])], [], [(some (false, [(.negSucc 0, .ofNat 1)]), [])], [])
def an_136 : ax_n := []
set_option maxRecDepth 1000000 in
theorem go_136 : ax_go an_136 [ct_17] 4000 ct_136 = true := by decide +kernel
theorem mt_136 : ax_Met ct_136 := ax_go_ok (ax_M1 ax_M0 (mt_17)) go_136
/-- yX11_fits -/
def ct_137 : ax_c := (102, 5, [.inr [0], .inl (false, [(.negSucc 2147483647, .ofNat 2147483647)])], [], [(some (false, [(.negSucc 2147483647, .ofNat 2147483647)]), [])], [])
def an_137 : ax_n := []
set_option maxRecDepth 1000000 in
theorem go_137 : ax_go an_137 [ct_22] 4000 ct_137 = true := by decide +kernel
theorem mt_137 : ax_Met ct_137 := ax_go_ok (ax_M1 ax_M0 (mt_22)) go_137
/-- yX12_fits -/
def ct_138 : ax_c := (175, 3, [.inr [122], .inl (false, [(.negSucc 2147483647, .ofNat 2147483647)])], [], [(some (false, [(.negSucc 2147483647, .ofNat 2147483647)]), [])], [])
def an_138 : ax_n := [(11468814, .inl ([(.inl (2, false), [(.negSucc 2147483647, .ofNat 2147483647)]), (.inl (3, false), [(.ofNat 0, .ofNat 8)])], [], [], 1, true)), (11468825, .inl ([(.inl (2, false), [(.negSucc 2147483647, .ofNat 2147483647)]), (.inl (4, false), [(.ofNat 0, .ofNat 8)])], [], [], 1, true))]
set_option maxRecDepth 1000000 in
theorem go_138 : ax_go an_138 [ct_19] 4000 ct_138 = true := by decide +kernel
theorem mt_138 : ax_Met ct_138 := ax_go_ok (ax_M1 ax_M0 (mt_19)) go_138
/-- yX11_fit -/
def ct_139 : ax_c := (103, 5, [.inr [0], .inl (false, [(.negSucc 2147483647, .ofNat 2147483647)]), .inl (false, [(.negSucc 2147483647, .ofNat 2147483647)])], [], [(some (false, [(.negSucc 3, .negSucc 3), (.negSucc 0, .ofNat 63)]), [])], [])
def an_139 : ax_n := []
set_option maxRecDepth 1000000 in
theorem go_139 : ax_go an_139 [ct_23] 4000 ct_139 = true := by decide +kernel
theorem mt_139 : ax_Met ct_139 := ax_go_ok (ax_M1 ax_M0 (mt_23)) go_139
/-- yX12_fit -/
def ct_140 : ax_c := (177, 4, [.inr [122], .inl (false, [(.negSucc 2147483647, .ofNat 2147483647)]), .inl (false, [(.negSucc 2147483647, .ofNat 2147483647)])], [], [(some (false, [(.negSucc 3, .negSucc 3), (.negSucc 0, .ofNat 63)]), [])], [])
def an_140 : ax_n := []
set_option maxRecDepth 1000000 in
theorem go_140 : ax_go an_140 [ct_20] 4000 ct_140 = true := by decide +kernel
theorem mt_140 : ax_Met ct_140 := ax_go_ok (ax_M1 ax_M0 (mt_20)) go_140
/-- yX11_give -/
def ct_141 : ax_c := (104, 3, [.inr [0], .inl (false, [(.negSucc 2147483647, .ofNat 2147483647)]), .inl (false, [(.negSucc 2147483647, .ofNat 2147483647)]), .inl (false, [(.negSucc 2147483647, .ofNat 2147483647)])], [], [(some (false, [(.negSucc 1, .negSucc 0), (.ofNat 1, .ofNat 1)]), [])], [(11, none), (12, none), (71, some 0), (71, some 1), (73, some 0), (73, some 1), (74, none), (75, none), (76, none), (77, some 0), (77, some 1), (78, none), (79, none), (80, none), (81, some 0), (81, some 1), (82, none), (83, none), (84, none), (85, some 0), (85, some 1), (86, none), (87, none), (88, none), (89, some 0), (89, some 1), (90, none), (91, none), (92, none), (93, some 0), (93, some 1), (94, none), (95, none), (96, none), (98, some 0), (98, some 1), (99, none), (100, none), (101, none), (102, some 0), (102, some 1), (103, none), (104, none), (105, none), (106, some 0), (106, some 1), (107, none), (108, none), (109, none), (110, some 0), (110, some 1), (111, none), (112, none), (113, none)])
def an_141 : ax_n := []
set_option maxRecDepth 1000000 in
theorem go_141 : ax_go an_141 [ct_14, ct_0] 4000 ct_141 = true := by decide +kernel
theorem mt_141 (H : hd_all) : ax_Met ct_141 := ax_go_ok (ax_M1 (ax_M1 ax_M0 (hm_0 H)) (mt_14)) go_141
/-- yX12_give -/
def ct_142 : ax_c := (178, 2, [.inr [122], .inl (false, [(.negSucc 2147483647, .ofNat 2147483647)]), .inl (false, [(.negSucc 2147483647, .ofNat 2147483647)]), .inl (false, [(.negSucc 2147483647, .ofNat 2147483647)])], [], [(some (false, [(.negSucc 1, .negSucc 0), (.ofNat 1, .ofNat 1)]), [])], [(122, some 54), (130, none), (131, none), (157, none)])
def an_142 : ax_n := []
set_option maxRecDepth 1000000 in
theorem go_142 : ax_go an_142 [ct_17, ct_3] 4000 ct_142 = true := by decide +kernel
theorem mt_142 (H : hd_all) : ax_Met ct_142 := ax_go_ok (ax_M1 (ax_M1 ax_M0 (hm_3 H)) (mt_17)) go_142
/-- yX11_take -/
def ct_143 : ax_c := (105, 3, [.inr [0], .inl (false, [(.negSucc 2147483647, .ofNat 2147483647)])], [], [(some (false, [(.negSucc 1, .negSucc 0), (.ofNat 1, .ofNat 1)]), [])], [(11, none), (12, none), (71, some 0), (71, some 1), (73, some 0), (73, some 1), (74, none), (75, none), (76, none), (77, some 0), (77, some 1), (78, none), (79, none), (80, none), (81, some 0), (81, some 1), (82, none), (83, none), (84, none), (85, some 0), (85, some 1), (86, none), (87, none), (88, none), (89, some 0), (89, some 1), (90, none), (91, none), (92, none), (93, some 0), (93, some 1), (94, none), (95, none), (96, none), (98, some 0), (98, some 1), (99, none), (100, none), (101, none), (102, some 0), (102, some 1), (103, none), (104, none), (105, none), (106, some 0), (106, some 1), (107, none), (108, none), (109, none), (110, some 0), (110, some 1), (111, none), (112, none), (113, none)])
def an_143 : ax_n := []
set_option maxRecDepth 1000000 in
theorem go_143 : ax_go an_143 [ct_0] 4000 ct_143 = true := by decide +kernel
theorem mt_143 (H : hd_all) : ax_Met ct_143 := ax_go_ok (ax_M1 ax_M0 (hm_0 H)) go_143
/-- yX12_take -/
def ct_144 : ax_c := (179, 2, [.inr [122], .inl (false, [(.negSucc 2147483647, .ofNat 2147483647)])], [], [(some (false, [(.negSucc 1, .negSucc 0), (.ofNat 1, .ofNat 1)]), [])], [(122, some 54), (130, none), (131, none), (157, none)])
def an_144 : ax_n := []
set_option maxRecDepth 1000000 in
theorem go_144 : ax_go an_144 [ct_3] 4000 ct_144 = true := by decide +kernel
theorem mt_144 (H : hd_all) : ax_Met ct_144 := ax_go_ok (ax_M1 ax_M0 (hm_3 H)) go_144
/-- yX11_closes -/
def ct_145 : ax_c := (107, 3, [.inr [0]], [], [(some (false, [(.ofNat 0, .ofNat 1)]), [])], [(15, none)])
def an_145 : ax_n := []
set_option maxRecDepth 1000000 in
theorem go_145 : ax_go an_145 [ct_42] 4000 ct_145 = true := by decide +kernel
theorem mt_145 : ax_Met ct_145 := ax_go_ok (ax_M1 ax_M0 (mt_42)) go_145
/-- yX12_closes -/
def ct_146 : ax_c := (183, 2, [.inr [122]], [], [(some (false, [(.ofNat 0, .ofNat 1)]), [])], [(137, none)])
def an_146 : ax_n := []
set_option maxRecDepth 1000000 in
theorem go_146 : ax_go an_146 [ct_36] 4000 ct_146 = true := by decide +kernel
theorem mt_146 : ax_Met ct_146 := ax_go_ok (ax_M1 ax_M0 (mt_36)) go_146
/-- yX11_barred -/
def ct_147 : ax_c := (108, 18, [.inr [0]], [], [(some (false, [(.negSucc 2147483647, .ofNat 2147483647)]), [])], [(13, some 2), (13, some 3), (13, some 4), (15, none), (16, none), (17, none), (18, none), (19, none), (20, none), (21, none), (22, none), (23, none), (24, none), (25, none), (26, none), (27, none), (28, none)])
def an_147 : ax_n := [(2490372, .inl ([(.inl (1, false), [(.negSucc 2147483647, .ofNat 2147483647)]), (.inl (2, false), [(.ofNat 0, .ofNat 16)])], [], [], 1, true))]
set_option maxRecDepth 1000000 in
theorem go_147 : ax_go an_147 [ct_2] 4000 ct_147 = true := by decide +kernel
theorem mt_147 (H : hd_all) : ax_Met ct_147 := ax_go_ok (ax_M1 ax_M0 (hm_2 H)) go_147
/-- yX12_barred -/
def ct_148 : ax_c := (186, 2, [.inr [122]], [], [(some (false, [(.negSucc 2147483647, .ofNat 2147483647)]), [])], [(137, none)])
def an_148 : ax_n := [(12189715, .inl ([(.inl (2, false), [(.negSucc 2147483647, .ofNat 2147483647)]), (.inl (3, false), [(.ofNat 0, .ofNat 2147483647)])], [], [], 1, true)), (12189731, .inl ([(.inl (4, false), [(.negSucc 2147483647, .ofNat 2147483647)]), (.inl (5, false), [(.negSucc 2147483647, .ofNat 2147483647)]), (.inl (6, false), [(.ofNat 0, .ofNat 16)])], [], [], 2, true))]
set_option maxRecDepth 1000000 in
theorem go_148 : ax_go an_148 [ct_38, ct_36, ct_37] 4000 ct_148 = true := by decide +kernel
theorem mt_148 : ax_Met ct_148 := ax_go_ok (ax_M1 (ax_M1 (ax_M1 ax_M0 (mt_37)) (mt_36)) (mt_38)) go_148
/-- yX11_apart -/
def ct_149 : ax_c := (109, 4, [.inr [0], .inl (false, [(.negSucc 2147483647, .ofNat 2147483647)]), .inl (false, [(.negSucc 2147483647, .ofNat 2147483647)]), .inl (false, [(.ofNat 0, .ofNat 1)])], [], [(some (false, [(.negSucc 2147483647, .ofNat 2147483647)]), [])], [(15, none), (29, some 1), (29, some 2), (30, none), (32, none), (33, none), (34, none), (35, none), (36, none), (37, none), (38, none), (39, none)])
def an_149 : ax_n := []
set_option maxRecDepth 1000000 in
theorem go_149 : ax_go an_149 [ct_42, ct_28] 4000 ct_149 = true := by decide +kernel
theorem mt_149 : ax_Met ct_149 := ax_go_ok (ax_M1 (ax_M1 ax_M0 (mt_28)) (mt_42)) go_149
/-- yX12_apart -/
def ct_150 : ax_c := (187, 2, [.inr [122], .inl (false, [(.negSucc 2147483647, .ofNat 2147483647)]), .inl (false, [(.negSucc 2147483647, .ofNat 2147483647)]), .inl (false, [(.ofNat 0, .ofNat 1)])], [], [(some (false, [(.negSucc 2147483647, .ofNat 2147483647)]), [])], [(137, none)])
def an_150 : ax_n := []
set_option maxRecDepth 1000000 in
theorem go_150 : ax_go an_150 [ct_36] 4000 ct_150 = true := by decide +kernel
theorem mt_150 : ax_Met ct_150 := ax_go_ok (ax_M1 ax_M0 (mt_36)) go_150
/-- yX11_best -/
def ct_151 : ax_c := (110, 5, [.inr [0], .inl (false, [(.negSucc 2147483647, .ofNat 2147483647)]), .inl (false, [(.negSucc 2147483647, .ofNat 2147483647)])], [], [(some (true, [(.negSucc 9223372036854775807, .ofNat 9223372036854775807)]), [])], [(29, some 1), (29, some 2), (30, none), (32, none), (33, none), (34, none), (35, none), (36, none), (37, none), (38, none), (39, none)])
def an_151 : ax_n := []
set_option maxRecDepth 1000000 in
theorem go_151 : ax_go an_151 [ct_31, ct_30] 4000 ct_151 = true := by decide +kernel
theorem mt_151 : ax_Met ct_151 := ax_go_ok (ax_M1 (ax_M1 ax_M0 (mt_30)) (mt_31)) go_151
/-- yX12_best -/
def ct_152 : ax_c := (192, 5, [.inr [122], .inl (false, [(.negSucc 2147483647, .ofNat 2147483647)]), .inl (false, [(.negSucc 2147483647, .ofNat 2147483647)])], [], [(some (true, [(.negSucc 9223372036854775807, .ofNat 9223372036854775807)]), [])], [(122, some 12), (122, some 18), (122, some 21), (133, none), (134, none), (135, none), (136, none), (138, none), (139, none)])
def an_152 : ax_n := []
set_option maxRecDepth 1000000 in
theorem go_152 : ax_go an_152 [ct_7, ct_9] 4000 ct_152 = true := by decide +kernel
theorem mt_152 (H : hd_all) : ax_Met ct_152 := ax_go_ok (ax_M1 (ax_M1 ax_M0 (hm_9 H)) (hm_7 H)) go_152
/-- yX11_rest -/
def ct_153 : ax_c := (111, 5, [.inr [0], .inl (false, [(.negSucc 2147483647, .ofNat 2147483647)]), .inl (false, [(.negSucc 2147483647, .ofNat 2147483647)])], [], [(some (true, [(.negSucc 9223372036854775807, .ofNat 9223372036854775807)]), [])], [(29, some 1), (29, some 2), (30, none), (32, none), (33, none), (34, none), (35, none), (36, none), (37, none), (38, none), (39, none)])
def an_153 : ax_n := []
set_option maxRecDepth 1000000 in
theorem go_153 : ax_go an_153 [ct_31, ct_30] 4000 ct_153 = true := by decide +kernel
theorem mt_153 : ax_Met ct_153 := ax_go_ok (ax_M1 (ax_M1 ax_M0 (mt_30)) (mt_31)) go_153
/-- yX12_rest -/
def ct_154 : ax_c := (193, 5, [.inr [122], .inl (false, [(.negSucc 2147483647, .ofNat 2147483647)]), .inl (false, [(.negSucc 2147483647, .ofNat 2147483647)])], [], [(some (true, [(.negSucc 9223372036854775807, .ofNat 9223372036854775807)]), [])], [(122, some 12), (122, some 18), (122, some 21), (133, none), (134, none), (135, none), (136, none), (138, none), (139, none)])
def an_154 : ax_n := []
set_option maxRecDepth 1000000 in
theorem go_154 : ax_go an_154 [ct_7, ct_9] 4000 ct_154 = true := by decide +kernel
theorem mt_154 (H : hd_all) : ax_Met ct_154 := ax_go_ok (ax_M1 (ax_M1 ax_M0 (hm_9 H)) (hm_7 H)) go_154
/-- yX11_settle -/
def ct_155 : ax_c := (112, 5, [.inr [0]], [], [(some (false, [(.negSucc 2147483647, .ofNat 2147483647)]), [])], [(2, none), (29, some 1), (29, some 2), (30, none), (32, none), (33, none), (34, none), (35, none), (36, none), (37, none), (38, none), (39, none), (71, some 0), (71, some 1), (73, some 0), (73, some 1), (74, none), (75, none), (76, none), (77, some 0), (77, some 1), (78, none), (79, none), (80, none), (81, some 0), (81, some 1), (82, none), (83, none), (84, none), (85, some 0), (85, some 1), (86, none), (87, none), (88, none), (89, some 0), (89, some 1), (90, none), (91, none), (92, none), (93, some 0), (93, some 1), (94, none), (95, none), (96, none), (98, some 0), (98, some 1), (99, none), (100, none), (101, none), (102, some 0), (102, some 1), (103, none), (104, none), (105, none), (106, some 0), (106, some 1), (107, none), (108, none), (109, none), (110, some 0), (110, some 1), (111, none), (112, none), (113, none)])
def an_155 : ax_n := [(7340055, .inl ([(.inl (1, false), [(.negSucc 2147483647, .ofNat 2147483647)]), (.inl (2, false), [(.ofNat 0, .ofNat 8)])], [], [], 1, true))]
set_option maxRecDepth 1000000 in
theorem go_155 : ax_go an_155 [ct_0, ct_31] 4000 ct_155 = true := by decide +kernel
theorem mt_155 (H : hd_all) : ax_Met ct_155 := ax_go_ok (ax_M1 (ax_M1 ax_M0 (mt_31)) (hm_0 H)) go_155
/-- yX12_settle -/
def ct_156 : ax_c := (195, 5, [.inr [122]], [], [(some (false, [(.negSucc 2147483647, .ofNat 2147483647)]), [])], [(122, some 12), (122, some 18), (122, some 21), (122, some 54), (123, none), (133, none), (134, none), (135, none), (136, none), (138, none), (139, none), (140, none), (157, none)])
def an_156 : ax_n := [(12779526, .inl ([(.inl (1, false), [(.ofNat 0, .ofNat 8)])], [], [], 0, true)), (12779606, .inl ([(.inl (1, false), [(.negSucc 2147483647, .ofNat 2147483647)]), (.inl (2, false), [(.ofNat 0, .ofNat 8)])], [], [], 1, true))]
set_option maxRecDepth 1000000 in
theorem go_156 : ax_go an_156 [ct_3, ct_7] 4000 ct_156 = true := by decide +kernel
theorem mt_156 (H : hd_all) : ax_Met ct_156 := ax_go_ok (ax_M1 (ax_M1 ax_M0 (hm_7 H)) (hm_3 H)) go_156
/-- yX11_seek -/
def ct_157 : ax_c := (113, 6, [.inr [0], .inl (false, [(.negSucc 2147483647, .ofNat 2147483647)]), .inl (false, [(.negSucc 2147483647, .ofNat 2147483647)]), .inl (false, [(.negSucc 2147483647, .ofNat 2147483647)])], [], [(some (false, [(.negSucc 2147483647, .ofNat 2147483647)]), [])], [(40, some 1), (40, some 2), (40, some 3), (41, none)])
def an_157 : ax_n := [(3538957, .inl ([(.inl (2, false), [(.ofNat 0, .ofNat 8)])], [(40, some 2), (40, some 3)], [], 0, true)), (3538967, .inl ([(.inl (3, false), [(.ofNat 0, .ofNat 16)])], [(40, some 2), (40, some 3)], [], 0, true)), (3670020, .inl ([(.inl (2, false), [(.negSucc 2147483647, .ofNat 2147483647)]), (.inl (3, false), [(.ofNat 1, .ofNat 101)])], [], [], 1, true))]
set_option maxRecDepth 1000000 in
theorem go_157 : ax_go an_157 [ct_39, ct_40] 4000 ct_157 = true := by decide +kernel
theorem mt_157 : ax_Met ct_157 := ax_go_ok (ax_M1 (ax_M1 ax_M0 (mt_40)) (mt_39)) go_157
/-- yX12_seek -/
def ct_158 : ax_c := (198, 3, [.inr [122], .inl (false, [(.negSucc 2147483647, .ofNat 2147483647)]), .inl (false, [(.negSucc 2147483647, .ofNat 2147483647)]), .inl (false, [(.negSucc 2147483647, .ofNat 2147483647)])], [], [(some (false, [(.negSucc 2147483647, .ofNat 2147483647)]), [])], [(122, some 23), (122, some 24)])
def an_158 : ax_n := [(12976173, .inl ([(.inl (4, false), [(.ofNat 0, .ofNat 8)])], [(122, some 23)], [], 0, true)), (12976185, .inl ([(.inl (5, false), [(.ofNat 0, .ofNat 16)])], [(122, some 23)], [], 0, true)), (12976292, .inl ([(.inl (4, false), [(.negSucc 2147483647, .ofNat 2147483647)]), (.inl (5, false), [(.ofNat 1, .ofNat 101)])], [], [], 1, true))]
set_option maxRecDepth 1000000 in
theorem go_158 : ax_go an_158 [ct_33, ct_16] 4000 ct_158 = true := by decide +kernel
theorem mt_158 : ax_Met ct_158 := ax_go_ok (ax_M1 (ax_M1 ax_M0 (mt_16)) (mt_33)) go_158
/-- yX11_score -/
def ct_159 : ax_c := (114, 4, [.inr [0], .inl (false, [(.negSucc 2147483647, .ofNat 2147483647)]), .inl (false, [(.negSucc 2147483647, .ofNat 2147483647)]), .inl (false, [(.negSucc 2147483647, .ofNat 2147483647)])], [], [(some (false, [(.negSucc 2147483647, .ofNat 2147483647)]), [])], [(40, some 1), (41, none)])
def an_159 : ax_n := []
set_option maxRecDepth 1000000 in
theorem go_159 : ax_go an_159 [ct_39, ct_40] 4000 ct_159 = true := by decide +kernel
theorem mt_159 : ax_Met ct_159 := ax_go_ok (ax_M1 (ax_M1 ax_M0 (mt_40)) (mt_39)) go_159
/-- yX12_score -/
def ct_160 : ax_c := (199, 2, [.inr [122], .inl (false, [(.negSucc 2147483647, .ofNat 2147483647)]), .inl (false, [(.negSucc 2147483647, .ofNat 2147483647)]), .inl (false, [(.negSucc 2147483647, .ofNat 2147483647)])], [], [(some (false, [(.negSucc 2147483647, .ofNat 2147483647)]), [])], [])
def an_160 : ax_n := []
set_option maxRecDepth 1000000 in
theorem go_160 : ax_go an_160 [ct_33] 4000 ct_160 = true := by decide +kernel
theorem mt_160 : ax_Met ct_160 := ax_go_ok (ax_M1 ax_M0 (mt_33)) go_160
/-- yX11_foretold -/
def ct_161 : ax_c := (115, 4, [.inr [0]], [], [(some (false, [(.ofNat 0, .ofNat 28)]), [])], [(40, some 4), (42, none), (43, none), (44, none)])
def an_161 : ax_n := []
set_option maxRecDepth 1000000 in
theorem go_161 : ax_go an_161 [ct_41] 4000 ct_161 = true := by decide +kernel
theorem mt_161 : ax_Met ct_161 := ax_go_ok (ax_M1 ax_M0 (mt_41)) go_161
/-- yX12_foretold -/
def ct_162 : ax_c := (201, 3, [.inr [122]], [], [(some (false, [(.negSucc 2147483647, .ofNat 2147483647)]), [])], [])
def an_162 : ax_n := [(13172740, .inl ([(.inl (1, false), [(.negSucc 2147483647, .ofNat 2147483647)]), (.inl (2, false), [(.ofNat 0, .ofNat 64)])], [], [], 1, true))]
set_option maxRecDepth 1000000 in
theorem go_162 : ax_go an_162 [ct_34] 4000 ct_162 = true := by decide +kernel
theorem mt_162 : ax_Met ct_162 := ax_go_ok (ax_M1 ax_M0 (mt_34)) go_162
/-- yX11_foretoldAt -/
def ct_163 : ax_c := (116, 4, [.inr [0], .inl (false, [(.negSucc 2147483647, .ofNat 2147483647)]), .inl (false, [(.negSucc 2147483647, .ofNat 2147483647)])], [], [(some (false, [(.negSucc 2147483647, .ofNat 2147483647)]), [])], [(40, some 4), (42, none), (43, none), (44, none)])
def an_163 : ax_n := [(2424836, .inl ([(.inl (2, false), [(.negSucc 2147483647, .ofNat 2147483647)]), (.inl (3, false), [(.ofNat 0, .ofNat 16)])], [], [], 1, true))]
set_option maxRecDepth 1000000 in
theorem go_163 : ax_go an_163 [ct_41, ct_15] 4000 ct_163 = true := by decide +kernel
theorem mt_163 : ax_Met ct_163 := ax_go_ok (ax_M1 (ax_M1 ax_M0 (mt_15)) (mt_41)) go_163
/-- yX12_foretoldAt -/
def ct_164 : ax_c := (203, 4, [.inr [122], .inl (false, [(.negSucc 2147483647, .ofNat 2147483647)]), .inl (false, [(.negSucc 2147483647, .ofNat 2147483647)])], [], [(some (false, [(.negSucc 2147483647, .ofNat 2147483647)]), [])], [])
def an_164 : ax_n := [(13303828, .inl ([(.inl (3, false), [(.ofNat 0, .ofNat 64)])], [], [], 0, true)), (13303877, .inl ([(.inl (4, false), [(.negSucc 2147483647, .ofNat 2147483647)]), (.inl (5, false), [(.ofNat 0, .ofNat 64)])], [], [], 1, true))]
set_option maxRecDepth 1000000 in
theorem go_164 : ax_go an_164 [ct_34, ct_35] 4000 ct_164 = true := by decide +kernel
theorem mt_164 : ax_Met ct_164 := ax_go_ok (ax_M1 (ax_M1 ax_M0 (mt_35)) (mt_34)) go_164
/-- yX11_feed -/
def ct_165 : ax_c := (117, 1, [.inr [0], .inl (true, [(.negSucc 9223372036854775807, .ofNat 9223372036854775807)])], [], [(some (false, [(.negSucc 2, .negSucc 2), (.ofNat 0, .ofNat 80)]), [])], [(45, some 0), (46, none)])
def an_165 : ax_n := [(4325379, .inl ([(.inl (3, false), [(.negSucc 7, .ofNat 56)])], [(45, some 0)], [], 0, false))]
set_option maxRecDepth 1000000 in
theorem go_165 : ax_go an_165 [] 4000 ct_165 = true := by decide +kernel
theorem mt_165 : ax_Met ct_165 := ax_go_ok ax_M0 go_165
/-- yX12_feed -/
def ct_166 : ax_c := (205, 0, [.inr [122], .inl (true, [(.negSucc 9223372036854775807, .ofNat 9223372036854775807)])], [], [(some (false, [(.negSucc 2, .negSucc 2), (.ofNat 8, .ofNat 80)]), [])], [(122, some 26), (141, none)])
def an_166 : ax_n := []
set_option maxRecDepth 1000000 in
theorem go_166 : ax_go an_166 [] 4000 ct_166 = true := by decide +kernel
theorem mt_166 : ax_Met ct_166 := ax_go_ok ax_M0 go_166
/-- yX11_end -/
def ct_167 : ax_c := (118, 0, [.inr [0], .inl (false, [(.negSucc 2147483647, .ofNat 2147483647)])], [], [(some (false, [(.negSucc 0, .ofNat 80)]), [])], [(45, some 0)])
def an_167 : ax_n := []
set_option maxRecDepth 1000000 in
theorem go_167 : ax_go an_167 [] 4000 ct_167 = true := by decide +kernel
theorem mt_167 : ax_Met ct_167 := ax_go_ok ax_M0 go_167
/-- yX12_end -/
def ct_168 : ax_c := (206, 1, [.inr [122], .inl (false, [(.negSucc 2147483647, .ofNat 2147483647)])], [], [(some (false, [(.negSucc 0, .ofNat 80)]), [])], [(122, some 26)])
def an_168 : ax_n := []
set_option maxRecDepth 1000000 in
theorem go_168 : ax_go an_168 [] 4000 ct_168 = true := by decide +kernel
theorem mt_168 : ax_Met ct_168 := ax_go_ok ax_M0 go_168
/-- yX11_shells -/
def ct_169 : ax_c := (119, 12, [.inr [0]], [], [(some (false, [(.negSucc 2147483647, .ofNat 2147483647)]), [])], [(45, some 0), (45, some 2), (45, some 6), (45, some 7), (45, some 8), (45, some 9), (45, some 10), (45, some 11), (45, some 12), (47, none), (48, none), (49, none), (50, some 0), (50, some 1), (50, some 7), (50, some 8), (51, none), (52, none), (54, none), (55, none), (56, none), (57, none), (58, none), (59, none), (60, none), (61, none), (62, none), (63, none)])
def an_169 : ax_n := [(17039366, .inl ([(.inl (3, false), [(.ofNat 0, .ofNat 2025)])], [], [], 0, true))]
set_option maxRecDepth 1000000 in
theorem go_169 : ax_go an_169 [ct_90, ct_99, ct_95, ct_96, ct_97, ct_98] 4000 ct_169 = true := by decide +kernel
theorem mt_169 (H : hd_all) : ax_Met ct_169 := ax_go_ok (ax_M1 (ax_M1 (ax_M1 (ax_M1 (ax_M1 (ax_M1 ax_M0 (mt_98)) (mt_97)) (mt_96)) (mt_95)) (mt_99)) (mt_90 H)) go_169
