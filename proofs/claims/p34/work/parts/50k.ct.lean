/-- yX12_shell -/
def ct_102 : ax_c := (211, 3, [.inr [122]], [(122, 28, [(.ofNat 0, .ofNat 0)]), (122, 38, [(.ofNat 0, .ofNat 0)])], [(none, [(122, 28, [(.ofNat 1, .ofNat 5)]), (122, 38, [(.ofNat 0, .ofNat 1)]), (122, 32, [(.ofNat 0, .ofNat 3)])]), (none, [(122, 28, [(.ofNat 0, .ofNat 0)]), (122, 38, [(.ofNat 1, .ofNat 1)]), (122, 32, [(.ofNat 0, .ofNat 0)])]), (none, [(122, 28, [(.ofNat 0, .ofNat 0)]), (122, 38, [(.ofNat 1, .ofNat 1)]), (122, 32, [(.ofNat 1, .ofNat 3)])])], [(122, some 28), (122, some 29), (122, some 30), (122, some 31), (122, some 32), (122, some 33), (122, some 38), (145, none), (146, none), (147, none)])
def an_102 : ax_n := [(13828222, .inl ([(.inl (5, false), [(.ofNat 0, .ofNat 0)])], [], [], 0, true))]
set_option maxRecDepth 1000000 in
theorem go_102 : ax_go an_102 [ct_100, ct_101] 4000 ct_102 = true := by decide +kernel
theorem mt_102 : ax_Met ct_102 := ax_go_ok (ax_M1 (ax_M1 ax_M0 (mt_101)) (mt_100)) go_102
/-- yX12_shell -/
def ct_103 : ax_c := (211, 3, [.inr [122]], [(122, 28, [(.ofNat 0, .ofNat 0)]), (122, 38, [(.ofNat 1, .ofNat 1)])], [(none, [(122, 28, [(.ofNat 1, .ofNat 5)]), (122, 38, [(.ofNat 1, .ofNat 2)]), (122, 32, [(.ofNat 0, .ofNat 3)])]), (none, [(122, 28, [(.ofNat 0, .ofNat 0)]), (122, 38, [(.ofNat 2, .ofNat 2)]), (122, 32, [(.ofNat 0, .ofNat 0)])]), (none, [(122, 28, [(.ofNat 0, .ofNat 0)]), (122, 38, [(.ofNat 2, .ofNat 2)]), (122, 32, [(.ofNat 1, .ofNat 3)])])], [(122, some 28), (122, some 29), (122, some 30), (122, some 31), (122, some 32), (122, some 33), (122, some 38), (145, none), (146, none), (147, none)])
def an_103 : ax_n := [(13828222, .inl ([(.inl (5, false), [(.ofNat 0, .ofNat 1)])], [(122, some 28), (122, some 29)], [], 0, true))]
set_option maxRecDepth 1000000 in
theorem go_103 : ax_go an_103 [ct_100, ct_101] 4000 ct_103 = true := by decide +kernel
theorem mt_103 : ax_Met ct_103 := ax_go_ok (ax_M1 (ax_M1 ax_M0 (mt_101)) (mt_100)) go_103
