/-- yX2_fillShell -/
def ct_98 : ax_c := (14, 3, [.inr [50], .inl (false, [(.negSucc 0, .ofNat 99)]), .inl (false, [(.ofNat 0, .ofNat 12)])], [(50, 8, [(.ofNat 0, .ofNat 108)])], [(none, [(50, 8, [(.ofNat 0, .ofNat 144)])])], [(50, some 7), (50, some 8), (51, none), (52, none), (54, none), (55, none), (56, none), (57, none), (58, none), (59, none), (60, none), (61, none), (62, none)])
def an_98 : ax_n := [(917537, .inr 1), (917542, .inr 2), (17039366, .inl ([(.inl (3, false), [(.ofNat 0, .ofNat 2025)])], [], [], 0, true))]
set_option maxRecDepth 1000000 in
theorem go_98 : ax_go an_98 [ct_91, ct_92, ct_94] 4000 ct_98 = true := by decide +kernel
theorem mt_98 : ax_Met ct_98 := ax_go_ok (ax_M1 (ax_M1 (ax_M1 ax_M0 (mt_94)) (mt_92)) (mt_91)) go_98
/-- yX2_finish -/
def ct_99 : ax_c := (19, 2, [.inr [50], .inl (false, [(.ofNat 0, .ofNat 4)])], [], [(none, [])], [(50, some 0), (50, some 1), (63, none)])
def an_99 : ax_n := [(1245201, .inl ([(.inl (2, false), [(.ofNat 0, .ofNat 13)])], [], [], 0, true)), (1245209, .inl ([(.inl (3, false), [(.ofNat 0, .ofNat 41)])], [], [], 0, true))]
set_option maxRecDepth 1000000 in
theorem go_99 : ax_go an_99 [] 4000 ct_99 = true := by decide +kernel
theorem mt_99 : ax_Met ct_99 := ax_go_ok ax_M0 go_99
/-- yX12_next -/
def ct_100 : ax_c := (209, 1, [.inr [122]], [(122, 28, [(.ofNat 0, .ofNat 5)]), (122, 30, [(.ofNat 0, .ofNat 80)])], [(none, [(122, 28, [(.ofNat 0, .ofNat 0)]), (122, 32, [(.ofNat 0, .ofNat 0)]), (122, 33, [(.negSucc 2147483647, .ofNat 2147483647)])]), (none, [(122, 28, [(.ofNat 0, .ofNat 0)]), (122, 32, [(.ofNat 2, .ofNat 2)]), (122, 33, [(.ofNat 0, .ofNat 3)])]), (none, [(122, 28, [(.ofNat 1, .ofNat 5)]), (122, 32, [(.ofNat 0, .ofNat 3)]), (122, 33, [(.negSucc 2147483647, .ofNat 2147483647)])]), (none, [(122, 28, [(.ofNat 0, .ofNat 0)]), (122, 32, [(.ofNat 1, .ofNat 1)]), (122, 33, [(.negSucc 2147483647, .ofNat 2147483647)])]), (none, [(122, 28, [(.ofNat 1, .ofNat 1)]), (122, 32, [(.ofNat 1, .ofNat 1)]), (122, 33, [(.negSucc 2147483647, .ofNat 2147483647)])]), (none, [(122, 28, [(.ofNat 0, .ofNat 0)]), (122, 32, [(.ofNat 3, .ofNat 3)]), (122, 33, [(.negSucc 2147483647, .ofNat 2147483647)])])], [(122, some 28), (122, some 29), (122, some 30), (122, some 31), (122, some 32), (122, some 33)])
def an_100 : ax_n := [(13697032, .inl ([(.inr (122, 30), [(.ofNat 0, .ofNat 80)])], [(122, some 30)], [], 0, true)), (13697214, .inl ([(.inr (122, 30), [(.ofNat 0, .ofNat 80)])], [(122, some 30), (122, some 33)], [], 0, true))]
set_option maxRecDepth 1000000 in
theorem go_100 : ax_go an_100 [] 4000 ct_100 = true := by decide +kernel
theorem mt_100 : ax_Met ct_100 := ax_go_ok ax_M0 go_100
/-- yX12_filledSoFar -/
def ct_101 : ax_c := (210, 0, [.inr [122]], [], [(some (false, [(.negSucc 2147483647, .ofNat 2147483647)]), [])], [])
def an_101 : ax_n := [(13762564, .inl ([(.inl (1, false), [(.negSucc 2147483647, .ofNat 2147483647)]), (.inl (2, false), [(.ofNat 0, .ofNat 4)])], [], [], 1, true))]
set_option maxRecDepth 1000000 in
theorem go_101 : ax_go an_101 [] 4000 ct_101 = true := by decide +kernel
theorem mt_101 : ax_Met ct_101 := ax_go_ok ax_M0 go_101
