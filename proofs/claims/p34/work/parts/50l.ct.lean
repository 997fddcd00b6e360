/-- yX12_shell -/
def ct_104 : ax_c := (211, 3, [.inr [122]], [(122, 28, [(.ofNat 0, .ofNat 0)]), (122, 38, [(.ofNat 2, .ofNat 2)])], [(none, [(122, 28, [(.ofNat 1, .ofNat 5)]), (122, 38, [(.ofNat 2, .ofNat 3)]), (122, 32, [(.ofNat 0, .ofNat 3)])]), (none, [(122, 28, [(.ofNat 0, .ofNat 0)]), (122, 38, [(.ofNat 3, .ofNat 3)]), (122, 32, [(.ofNat 0, .ofNat 0)])]), (none, [(122, 28, [(.ofNat 0, .ofNat 0)]), (122, 38, [(.ofNat 3, .ofNat 3)]), (122, 32, [(.ofNat 1, .ofNat 3)])])], [(122, some 28), (122, some 29), (122, some 30), (122, some 31), (122, some 32), (122, some 33), (122, some 38), (145, none), (146, none), (147, none)])
def an_104 : ax_n := [(13828222, .inl ([(.inl (5, false), [(.ofNat 0, .ofNat 2)])], [(122, some 28), (122, some 29)], [], 0, true))]
set_option maxRecDepth 1000000 in
theorem go_104 : ax_go an_104 [ct_100, ct_101] 4000 ct_104 = true := by decide +kernel
theorem mt_104 : ax_Met ct_104 := ax_go_ok (ax_M1 (ax_M1 ax_M0 (mt_101)) (mt_100)) go_104
/-- yX12_shell -/
def ct_105 : ax_c := (211, 3, [.inr [122]], [(122, 28, [(.ofNat 0, .ofNat 0)]), (122, 38, [(.ofNat 3, .ofNat 3)])], [(none, [(122, 28, [(.ofNat 1, .ofNat 5)]), (122, 38, [(.ofNat 3, .ofNat 4)]), (122, 32, [(.ofNat 0, .ofNat 3)])]), (none, [(122, 28, [(.ofNat 0, .ofNat 0)]), (122, 38, [(.ofNat 4, .ofNat 4)]), (122, 32, [(.ofNat 0, .ofNat 0)])]), (none, [(122, 28, [(.ofNat 0, .ofNat 0)]), (122, 38, [(.ofNat 4, .ofNat 4)]), (122, 32, [(.ofNat 1, .ofNat 3)])])], [(122, some 28), (122, some 29), (122, some 30), (122, some 31), (122, some 32), (122, some 33), (122, some 38), (145, none), (146, none), (147, none)])
def an_105 : ax_n := [(13828222, .inl ([(.inl (5, false), [(.ofNat 0, .ofNat 3)])], [(122, some 28), (122, some 29)], [], 0, true))]
set_option maxRecDepth 1000000 in
theorem go_105 : ax_go an_105 [ct_100, ct_101] 4000 ct_105 = true := by decide +kernel
theorem mt_105 : ax_Met ct_105 := ax_go_ok (ax_M1 (ax_M1 ax_M0 (mt_101)) (mt_100)) go_105
/-- yX12_shell -/
def ct_106 : ax_c := (211, 1, [.inr [122]], [(122, 28, [(.ofNat 0, .ofNat 0)]), (122, 38, [(.ofNat 4, .ofNat 4)])], [(none, [(122, 28, [(.ofNat 2, .ofNat 2), (.ofNat 5, .ofNat 5)]), (122, 38, [(.ofNat 4, .ofNat 4)]), (122, 32, [(.ofNat 0, .ofNat 3)])])], [(122, some 28), (122, some 29)])
def an_106 : ax_n := []
set_option maxRecDepth 1000000 in
theorem go_106 : ax_go an_106 [] 4000 ct_106 = true := by decide +kernel
theorem mt_106 : ax_Met ct_106 := ax_go_ok ax_M0 go_106
/-- yX4_append -/
def ct_107 : ax_c := (34, 1, [.inr [6], .inl (false, [(.ofNat 0, .ofNat 1000000)]), .inl (false, [(.ofNat 0, .ofNat 1000)]), .inl (false, [(.ofNat 0, .ofNat 999)])], [(6, 0, [(.ofNat 0, .ofNat 0)])], [(some (false, [(.ofNat 0, .ofNat 0)]), [(6, 0, [(.ofNat 1, .ofNat 1)])])], [(6, some 0), (7, none), (8, none), (9, none), (10, none), (11, none), (12, none)])
def an_107 : ax_n := []
set_option maxRecDepth 1000000 in
theorem go_107 : ax_go an_107 [] 4000 ct_107 = true := by decide +kernel
theorem mt_107 : ax_Met ct_107 := ax_go_ok ax_M0 go_107
/-- yX4_append -/
def ct_108 : ax_c := (34, 1, [.inr [6], .inl (false, [(.ofNat 0, .ofNat 1000000)]), .inl (false, [(.ofNat 0, .ofNat 1000)]), .inl (false, [(.ofNat 0, .ofNat 999)])], [(6, 0, [(.ofNat 0, .ofNat 1)])], [(some (false, [(.ofNat 0, .ofNat 1)]), [(6, 0, [(.ofNat 1, .ofNat 2)])])], [(6, some 0), (7, none), (8, none), (9, none), (10, none), (11, none), (12, none)])
def an_108 : ax_n := []
set_option maxRecDepth 1000000 in
theorem go_108 : ax_go an_108 [] 4000 ct_108 = true := by decide +kernel
theorem mt_108 : ax_Met ct_108 := ax_go_ok ax_M0 go_108
/-- yX4_append -/
def ct_109 : ax_c := (34, 1, [.inr [6], .inl (false, [(.ofNat 0, .ofNat 1000000)]), .inl (false, [(.ofNat 0, .ofNat 1000)]), .inl (false, [(.ofNat 0, .ofNat 999)])], [(6, 0, [(.ofNat 0, .ofNat 2)])], [(some (false, [(.ofNat 0, .ofNat 2)]), [(6, 0, [(.ofNat 1, .ofNat 3)])])], [(6, some 0), (7, none), (8, none), (9, none), (10, none), (11, none), (12, none)])
def an_109 : ax_n := []
set_option maxRecDepth 1000000 in
theorem go_109 : ax_go an_109 [] 4000 ct_109 = true := by decide +kernel
theorem mt_109 : ax_Met ct_109 := ax_go_ok ax_M0 go_109
/-- yX4_append -/
def ct_110 : ax_c := (34, 1, [.inr [6], .inl (false, [(.ofNat 0, .ofNat 1000000)]), .inl (false, [(.ofNat 0, .ofNat 1000)]), .inl (false, [(.ofNat 0, .ofNat 999)])], [(6, 0, [(.ofNat 0, .ofNat 3)])], [(some (false, [(.ofNat 0, .ofNat 3)]), [(6, 0, [(.ofNat 1, .ofNat 4)])])], [(6, some 0), (7, none), (8, none), (9, none), (10, none), (11, none), (12, none)])
def an_110 : ax_n := []
set_option maxRecDepth 1000000 in
theorem go_110 : ax_go an_110 [] 4000 ct_110 = true := by decide +kernel
theorem mt_110 : ax_Met ct_110 := ax_go_ok ax_M0 go_110
/-- yX4_append -/
def ct_111 : ax_c := (34, 1, [.inr [6], .inl (false, [(.ofNat 0, .ofNat 1000000)]), .inl (false, [(.ofNat 0, .ofNat 1000)]), .inl (false, [(.ofNat 0, .ofNat 999)])], [(6, 0, [(.ofNat 0, .ofNat 4)])], [(some (false, [(.ofNat 0, .ofNat 4)]), [(6, 0, [(.ofNat 1, .ofNat 5)])])], [(6, some 0), (7, none), (8, none), (9, none), (10, none), (11, none), (12, none)])
def an_111 : ax_n := []
set_option maxRecDepth 1000000 in
theorem go_111 : ax_go an_111 [] 4000 ct_111 = true := by decide +kernel
theorem mt_111 : ax_Met ct_111 := ax_go_ok ax_M0 go_111
/-- yX4_append -/
def ct_112 : ax_c := (34, 1, [.inr [6], .inl (false, [(.ofNat 0, .ofNat 1000000)]), .inl (false, [(.ofNat 0, .ofNat 1000)]), .inl (false, [(.ofNat 0, .ofNat 999)])], [(6, 0, [(.ofNat 0, .ofNat 5)])], [(some (false, [(.ofNat 0, .ofNat 5)]), [(6, 0, [(.ofNat 1, .ofNat 6)])])], [(6, some 0), (7, none), (8, none), (9, none), (10, none), (11, none), (12, none)])
def an_112 : ax_n := []
set_option maxRecDepth 1000000 in
theorem go_112 : ax_go an_112 [] 4000 ct_112 = true := by decide +kernel
theorem mt_112 : ax_Met ct_112 := ax_go_ok ax_M0 go_112
/-- yX4_append -/
def ct_113 : ax_c := (34, 1, [.inr [6], .inl (false, [(.ofNat 0, .ofNat 1000000)]), .inl (false, [(.ofNat 0, .ofNat 1000)]), .inl (false, [(.ofNat 0, .ofNat 999)])], [(6, 0, [(.ofNat 0, .ofNat 6)])], [(some (false, [(.ofNat 0, .ofNat 6)]), [(6, 0, [(.ofNat 1, .ofNat 7)])])], [(6, some 0), (7, none), (8, none), (9, none), (10, none), (11, none), (12, none)])
def an_113 : ax_n := []
set_option maxRecDepth 1000000 in
theorem go_113 : ax_go an_113 [] 4000 ct_113 = true := by decide +kernel
theorem mt_113 : ax_Met ct_113 := ax_go_ok ax_M0 go_113
/-- yX4_append -/
def ct_114 : ax_c := (34, 1, [.inr [6], .inl (false, [(.ofNat 0, .ofNat 1000000)]), .inl (false, [(.ofNat 0, .ofNat 1000)]), .inl (false, [(.ofNat 0, .ofNat 999)])], [(6, 0, [(.ofNat 0, .ofNat 7)])], [(some (false, [(.ofNat 0, .ofNat 7)]), [(6, 0, [(.ofNat 1, .ofNat 8)])])], [(6, some 0), (7, none), (8, none), (9, none), (10, none), (11, none), (12, none)])
def an_114 : ax_n := []
set_option maxRecDepth 1000000 in
theorem go_114 : ax_go an_114 [] 4000 ct_114 = true := by decide +kernel
theorem mt_114 : ax_Met ct_114 := ax_go_ok ax_M0 go_114
/-- yX4_append -/
def ct_115 : ax_c := (34, 1, [.inr [6], .inl (false, [(.ofNat 0, .ofNat 1000000)]), .inl (false, [(.ofNat 0, .ofNat 1000)]), .inl (false, [(.ofNat 0, .ofNat 999)])], [(6, 0, [(.ofNat 0, .ofNat 8)])], [(some (false, [(.ofNat 0, .ofNat 8)]), [(6, 0, [(.ofNat 1, .ofNat 9)])])], [(6, some 0), (7, none), (8, none), (9, none), (10, none), (11, none), (12, none)])
def an_115 : ax_n := []
set_option maxRecDepth 1000000 in
theorem go_115 : ax_go an_115 [] 4000 ct_115 = true := by decide +kernel
theorem mt_115 : ax_Met ct_115 := ax_go_ok ax_M0 go_115
/-- yX4_append -/
def ct_116 : ax_c := (34, 1, [.inr [6], .inl (false, [(.ofNat 0, .ofNat 1000000)]), .inl (false, [(.ofNat 0, .ofNat 1000)]), .inl (false, [(.ofNat 0, .ofNat 999)])], [(6, 0, [(.ofNat 0, .ofNat 9)])], [(some (false, [(.ofNat 0, .ofNat 9)]), [(6, 0, [(.ofNat 1, .ofNat 10)])])], [(6, some 0), (7, none), (8, none), (9, none), (10, none), (11, none), (12, none)])
def an_116 : ax_n := []
set_option maxRecDepth 1000000 in
theorem go_116 : ax_go an_116 [] 4000 ct_116 = true := by decide +kernel
theorem mt_116 : ax_Met ct_116 := ax_go_ok ax_M0 go_116
/-- yX4_append -/
def ct_117 : ax_c := (34, 1, [.inr [6], .inl (false, [(.ofNat 0, .ofNat 1000000)]), .inl (false, [(.ofNat 0, .ofNat 1000)]), .inl (false, [(.ofNat 0, .ofNat 999)])], [(6, 0, [(.ofNat 0, .ofNat 10)])], [(some (false, [(.ofNat 0, .ofNat 10)]), [(6, 0, [(.ofNat 1, .ofNat 11)])])], [(6, some 0), (7, none), (8, none), (9, none), (10, none), (11, none), (12, none)])
def an_117 : ax_n := []
set_option maxRecDepth 1000000 in
theorem go_117 : ax_go an_117 [] 4000 ct_117 = true := by decide +kernel
theorem mt_117 : ax_Met ct_117 := ax_go_ok ax_M0 go_117
/-- yX4_append -/
def ct_118 : ax_c := (34, 1, [.inr [6], .inl (false, [(.ofNat 0, .ofNat 1000000)]), .inl (false, [(.ofNat 0, .ofNat 1000)]), .inl (false, [(.ofNat 0, .ofNat 999)])], [(6, 0, [(.ofNat 0, .ofNat 11)])], [(some (false, [(.ofNat 0, .ofNat 11)]), [(6, 0, [(.ofNat 1, .ofNat 12)])])], [(6, some 0), (7, none), (8, none), (9, none), (10, none), (11, none), (12, none)])
def an_118 : ax_n := []
set_option maxRecDepth 1000000 in
theorem go_118 : ax_go an_118 [] 4000 ct_118 = true := by decide +kernel
theorem mt_118 : ax_Met ct_118 := ax_go_ok ax_M0 go_118
/-- yX4_append -/
def ct_119 : ax_c := (34, 1, [.inr [6], .inl (false, [(.ofNat 0, .ofNat 1000000)]), .inl (false, [(.ofNat 0, .ofNat 1000)]), .inl (false, [(.ofNat 0, .ofNat 999)])], [(6, 0, [(.ofNat 0, .ofNat 12)])], [(some (false, [(.ofNat 0, .ofNat 12)]), [(6, 0, [(.ofNat 1, .ofNat 13)])])], [(6, some 0), (7, none), (8, none), (9, none), (10, none), (11, none), (12, none)])
def an_119 : ax_n := []
set_option maxRecDepth 1000000 in
theorem go_119 : ax_go an_119 [] 4000 ct_119 = true := by decide +kernel
theorem mt_119 : ax_Met ct_119 := ax_go_ok ax_M0 go_119
/-- yX4_append -/
def ct_120 : ax_c := (34, 1, [.inr [6], .inl (false, [(.ofNat 0, .ofNat 1000000)]), .inl (false, [(.ofNat 0, .ofNat 1000)]), .inl (false, [(.ofNat 0, .ofNat 999)])], [(6, 0, [(.ofNat 0, .ofNat 13)])], [(some (false, [(.ofNat 0, .ofNat 13)]), [(6, 0, [(.ofNat 1, .ofNat 14)])])], [(6, some 0), (7, none), (8, none), (9, none), (10, none), (11, none), (12, none)])
def an_120 : ax_n := []
set_option maxRecDepth 1000000 in
theorem go_120 : ax_go an_120 [] 4000 ct_120 = true := by decide +kernel
theorem mt_120 : ax_Met ct_120 := ax_go_ok ax_M0 go_120
/-- yX4_append -/
def ct_121 : ax_c := (34, 1, [.inr [6], .inl (false, [(.ofNat 0, .ofNat 1000000)]), .inl (false, [(.ofNat 0, .ofNat 1000)]), .inl (false, [(.ofNat 0, .ofNat 999)])], [(6, 0, [(.ofNat 0, .ofNat 14)])], [(some (false, [(.ofNat 0, .ofNat 14)]), [(6, 0, [(.ofNat 1, .ofNat 15)])])], [(6, some 0), (7, none), (8, none), (9, none), (10, none), (11, none), (12, none)])
def an_121 : ax_n := []
set_option maxRecDepth 1000000 in
theorem go_121 : ax_go an_121 [] 4000 ct_121 = true := by decide +kernel
theorem mt_121 : ax_Met ct_121 := ax_go_ok ax_M0 go_121
/-- yX4_append -/
def ct_122 : ax_c := (34, 1, [.inr [6], .inl (false, [(.ofNat 0, .ofNat 1000000)]), .inl (false, [(.ofNat 0, .ofNat 1000)]), .inl (false, [(.ofNat 0, .ofNat 999)])], [(6, 0, [(.ofNat 0, .ofNat 15)])], [(some (false, [(.ofNat 0, .ofNat 15)]), [(6, 0, [(.ofNat 1, .ofNat 16)])])], [(6, some 0), (7, none), (8, none), (9, none), (10, none), (11, none), (12, none)])
def an_122 : ax_n := []
set_option maxRecDepth 1000000 in
theorem go_122 : ax_go an_122 [] 4000 ct_122 = true := by decide +kernel
theorem mt_122 : ax_Met ct_122 := ax_go_ok ax_M0 go_122
/-- yX11_level -/
def ct_123 : ax_c := (95, 1, [.inr [0], .inl (false, [(.negSucc 2147483647, .ofNat 2147483647)]), .inl (false, [(.negSucc 2147483647, .ofNat 2147483647)]), .inl (false, [(.negSucc 2147483647, .ofNat 2147483647)])], [], [(some (false, [(.negSucc 2, .negSucc 2), (.negSucc 0, .ofNat 7)]), [])], [(1, some 0), (2, none), (3, none), (4, none)])
def an_123 : ax_n := []
set_option maxRecDepth 1000000 in
theorem go_123 : ax_go an_123 [] 4000 ct_123 = true := by decide +kernel
theorem mt_123 : ax_Met ct_123 := ax_go_ok ax_M0 go_123
/-- yX12_level -/
def ct_124 : ax_c := (160, 1, [.inr [122], .inl (false, [(.negSucc 2147483647, .ofNat 2147483647)]), .inl (false, [(.negSucc 2147483647, .ofNat 2147483647)]), .inl (false, [(.negSucc 2147483647, .ofNat 2147483647)])], [], [(some (false, [(.negSucc 2, .negSucc 2), (.negSucc 0, .ofNat 7)]), [])], [(122, some 0), (123, none), (124, none), (125, none), (126, none)])
def an_124 : ax_n := []
set_option maxRecDepth 1000000 in
theorem go_124 : ax_go an_124 [] 4000 ct_124 = true := by decide +kernel
theorem mt_124 : ax_Met ct_124 := ax_go_ok ax_M0 go_124
/-- yX11_height -/
def ct_125 : ax_c := (96, 3, [.inr [0], .inl (false, [(.negSucc 2147483647, .ofNat 2147483647)]), .inl (false, [(.negSucc 2147483647, .ofNat 2147483647)])], [], [(some (false, [(.negSucc 0, .ofNat 1000000)]), [])], [(2, none), (71, some 0), (71, some 1), (73, some 0), (73, some 1), (74, none), (75, none), (76, none), (77, some 0), (77, some 1), (78, none), (79, none), (80, none), (81, some 0), (81, some 1), (82, none), (83, none), (84, none), (85, some 0), (85, some 1), (86, none), (87, none), (88, none), (89, some 0), (89, some 1), (90, none), (91, none), (92, none), (93, some 0), (93, some 1), (94, none), (95, none), (96, none), (98, some 0), (98, some 1), (99, none), (100, none), (101, none), (102, some 0), (102, some 1), (103, none), (104, none), (105, none), (106, some 0), (106, some 1), (107, none), (108, none), (109, none), (110, some 0), (110, some 1), (111, none), (112, none), (113, none)])
def an_125 : ax_n := []
set_option maxRecDepth 1000000 in
theorem go_125 : ax_go an_125 [ct_0] 4000 ct_125 = true := by decide +kernel
theorem mt_125 (H : hd_all) : ax_Met ct_125 := ax_go_ok (ax_M1 ax_M0 (hm_0 H)) go_125
/-- yX12_height -/
def ct_126 : ax_c := (161, 2, [.inr [122], .inl (false, [(.negSucc 2147483647, .ofNat 2147483647)]), .inl (false, [(.negSucc 2147483647, .ofNat 2147483647)])], [], [(some (false, [(.negSucc 0, .ofNat 1000000)]), [])], [(122, some 54), (123, none), (157, none)])
def an_126 : ax_n := []
set_option maxRecDepth 1000000 in
theorem go_126 : ax_go an_126 [ct_3] 4000 ct_126 = true := by decide +kernel
theorem mt_126 (H : hd_all) : ax_Met ct_126 := ax_go_ok (ax_M1 ax_M0 (hm_3 H)) go_126
/-- yX11_told -/
def ct_127 : ax_c := (97, 4, [.inr [0], .inl (false, [(.negSucc 2147483647, .ofNat 2147483647)]), .inl (false, [(.negSucc 2147483647, .ofNat 2147483647)])], [], [(some (false, [(.negSucc 2147483647, .ofNat 2147483647)]), [])], [(29, some 1), (29, some 2), (30, none), (32, none), (33, none), (34, none), (35, none), (36, none), (37, none), (38, none), (39, none)])
def an_127 : ax_n := [(2555908, .inl ([(.inl (2, false), [(.negSucc 2147483647, .ofNat 2147483647)]), (.inl (3, false), [(.ofNat 0, .ofNat 16)])], [], [], 1, true))]
set_option maxRecDepth 1000000 in
theorem go_127 : ax_go an_127 [ct_28] 4000 ct_127 = true := by decide +kernel
theorem mt_127 : ax_Met ct_127 := ax_go_ok (ax_M1 ax_M0 (mt_28)) go_127
/-- yX12_told -/
def ct_128 : ax_c := (166, 2, [.inr [122], .inl (false, [(.negSucc 2147483647, .ofNat 2147483647)]), .inl (false, [(.negSucc 2147483647, .ofNat 2147483647)])], [], [(some (false, [(.negSucc 2147483647, .ofNat 2147483647)]), [])], [(122, some 12), (133, none), (134, none), (135, none), (136, none)])
def an_128 : ax_n := [(10879007, .inl ([(.inl (3, false), [(.negSucc 2147483647, .ofNat 2147483647)]), (.inl (4, false), [(.ofNat 0, .ofNat 16)])], [], [], 1, true))]
set_option maxRecDepth 1000000 in
theorem go_128 : ax_go an_128 [ct_27] 4000 ct_128 = true := by decide +kernel
theorem mt_128 : ax_Met ct_128 := ax_go_ok (ax_M1 ax_M0 (mt_27)) go_128
/-- yX11_line -/
def ct_129 : ax_c := (98, 2, [.inr [0], .inl (false, [(.negSucc 2147483647, .ofNat 2147483647)]), .inl (false, [(.negSucc 2147483647, .ofNat 2147483647)]), .inl (false, [(.negSucc 2147483647, .ofNat 2147483647)])], [], [(some (false, [(.negSucc 2, .negSucc 2), (.negSucc 0, .ofNat 15)]), [])], [(6, some 0), (7, none), (8, none), (9, none), (10, none), (11, none), (12, none)])
def an_129 : ax_n := []
set_option maxRecDepth 1000000 in
theorem go_129 : ax_go an_129 [ct_122] 4000 ct_129 = true := by decide +kernel
theorem mt_129 : ax_Met ct_129 := ax_go_ok (ax_M1 ax_M0 (mt_122)) go_129
