/-- yX12_shift -/
def ct_198 : ax_c := (239, 5, [.inr [122]], [], [(some (false, [(.negSucc 2147483647, .ofNat 2147483647)]), [])], [(122, some 12), (122, some 18), (122, some 21), (127, none), (133, none), (134, none), (135, none), (136, none), (138, none), (139, none), (154, none), (155, none)])
def an_198 : ax_n := [(15663147, .inl ([(.inl (1, false), [(.negSucc 2147483647, .ofNat 2147483647)]), (.inl (2, false), [(.ofNat 0, .ofNat 16)])], [], [], 1, true))]
set_option maxRecDepth 1000000 in
theorem go_198 : ax_go an_198 [ct_8] 4000 ct_198 = true := by decide +kernel
theorem mt_198 (H : hd_all) : ax_Met ct_198 := ax_go_ok (ax_M1 ax_M0 (hm_8 H)) go_198
/-- yX11_keep -/
def ct_199 : ax_c := (134, 2, [.inr [0]], [], [(some (false, [(.negSucc 2, .negSucc 2), (.ofNat 0, .ofNat 3)]), [])], [(0, some 12), (73, some 0), (73, some 1), (74, none), (75, none), (76, none), (77, some 0), (77, some 1), (78, none), (79, none), (80, none), (81, some 0), (81, some 1), (82, none), (83, none), (84, none), (85, some 0), (85, some 1), (86, none), (87, none), (88, none), (89, some 0), (89, some 1), (90, none), (91, none), (92, none), (93, some 0), (93, some 1), (94, none), (95, none), (96, none), (98, some 0), (98, some 1), (99, none), (100, none), (101, none), (102, some 0), (102, some 1), (103, none), (104, none), (105, none), (106, some 0), (106, some 1), (107, none), (108, none), (109, none), (110, some 0), (110, some 1), (111, none), (112, none), (113, none)])
def an_199 : ax_n := []
set_option maxRecDepth 1000000 in
theorem go_199 : ax_go an_199 [ct_0] 4000 ct_199 = true := by decide +kernel
theorem mt_199 (H : hd_all) : ax_Met ct_199 := ax_go_ok (ax_M1 ax_M0 (hm_0 H)) go_199
/-- yX12_keep -/
def ct_200 : ax_c := (244, 1, [.inr [122]], [], [(some (false, [(.negSucc 2, .negSucc 2), (.ofNat 0, .ofNat 3)]), [])], [(122, some 52), (156, none)])
def an_200 : ax_n := [(15990795, .inr 222052)]
set_option maxRecDepth 1000000 in
theorem go_200 : ax_go an_200 [ct_4] 4000 ct_200 = true := by decide +kernel
theorem mt_200 (H : hd_all) : ax_Met ct_200 := ax_go_ok (ax_M1 ax_M0 (hm_4 H)) go_200
/-- yX11_compare -/
def ct_201 : ax_c := (135, 2, [.inr [0], .inl (false, [(.negSucc 2147483647, .ofNat 2147483647)]), .inl (false, [(.negSucc 2147483647, .ofNat 2147483647)])], [], [(some (false, [(.negSucc 2147483647, .ofNat 2147483647)]), [])], [])
def an_201 : ax_n := [(5177348, .inl ([(.inl (2, false), [(.negSucc 2147483647, .ofNat 2147483647)]), (.inl (3, false), [(.ofNat 0, .ofNat 8)])], [], [], 1, true)), (5242884, .inl ([(.inl (2, false), [(.ofNat 0, .ofNat 1000000)]), (.inl (3, false), [(.ofNat 0, .ofNat 8)])], [], [], 1, true)), (5308420, .inl ([(.inl (2, false), [(.negSucc 2147483647, .ofNat 2147483647)]), (.inl (3, false), [(.ofNat 0, .ofNat 16)])], [], [], 1, true))]
set_option maxRecDepth 1000000 in
theorem go_201 : ax_go an_201 [] 4000 ct_201 = true := by decide +kernel
theorem mt_201 : ax_Met ct_201 := ax_go_ok ax_M0 go_201
