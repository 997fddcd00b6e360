/-- yX8_readAll -/
def ct_90 : ax_c := (67, 11, [.inr [45]], [], [(some (false, [(.ofNat 0, .ofNat 1)]), [])], [(45, some 2), (45, some 6), (45, some 7), (45, some 8), (45, some 9), (45, some 10), (45, some 11), (45, some 12), (47, none), (48, none), (49, none)])
def an_90 : ax_n := [(4390944, .inl ([(.inl (1, false), [(.ofNat 0, .ofNat 1)]), (.inl (2, false), [(.ofNat 0, .ofNat 5)])], [(45, some 2), (45, some 6), (45, some 10), (45, some 12)], [], 1, true))]
set_option maxRecDepth 1000000 in
theorem go_90 : ax_go an_90 [ct_10, ct_89] 4000 ct_90 = true := by decide +kernel
theorem mt_90 (H : hd_all) : ax_Met ct_90 := ax_go_ok (ax_M1 (ax_M1 ax_M0 (mt_89 H)) (hm_10 H)) go_90
/-- yX2_countHalves -/
def ct_91 : ax_c := (15, 1, [.inr [50], .inl (false, [(.ofNat 0, .ofNat 3)])], [], [(none, [])], [(54, none), (55, none), (56, none), (57, none), (58, none), (59, none), (60, none), (61, none)])
def an_91 : ax_n := [(983082, .inr 2), (983042, .inl ([(.inl (2, false), [(.ofNat 0, .ofNat 8)])], [], [], 0, true)), (983077, .inl ([(.inl (2, false), [(.negSucc 2, .ofNat 4)])], [], [], 0, true)), (983085, .inl ([(.inl (3, false), [(.ofNat 0, .ofNat 7)])], [], [], 0, false)), (17039366, .inl ([(.inl (3, false), [(.ofNat 0, .ofNat 13)])], [], [], 0, true))]
set_option maxRecDepth 1000000 in
theorem go_91 : ax_go an_91 [] 4000 ct_91 = true := by decide +kernel
theorem mt_91 : ax_Met ct_91 := ax_go_ok ax_M0 go_91
/-- yX2_pairHalves -/
def ct_92 : ax_c := (16, 1, [.inr [50], .inl (false, [(.ofNat 0, .ofNat 7)]), .inl (false, [(.ofNat 0, .ofNat 7)])], [], [(none, [])], [(62, none)])
def an_92 : ax_n := [(1048586, .inl ([(.inl (3, false), [(.ofNat 0, .ofNat 13)])], [], [], 0, true)), (1048595, .inl ([(.inl (4, false), [(.ofNat 0, .ofNat 13)])], [], [], 0, true)), (17039366, .inl ([(.inl (3, false), [(.ofNat 0, .ofNat 25)])], [], [], 0, true))]
set_option maxRecDepth 1000000 in
theorem go_92 : ax_go an_92 [] 4000 ct_92 = true := by decide +kernel
theorem mt_92 : ax_Met ct_92 := ax_go_ok ax_M0 go_92
/-- yX2_addPairs -/
def ct_93 : ax_c := (18, 1, [.inr [50], .inl (true, [(.negSucc 9223372036854775807, .ofNat 9223372036854775807)]), .inl (false, [(.negSucc 39, .ofNat 40)]), .inl (false, [(.negSucc 23, .ofNat 24)])], [], [(none, [])], [(52, none)])
def an_93 : ax_n := [(1179651, .inl ([(.inl (5, false), [(.ofNat 0, .ofNat 25)])], [], [], 0, true))]
set_option maxRecDepth 1000000 in
theorem go_93 : ax_go an_93 [] 4000 ct_93 = true := by decide +kernel
theorem mt_93 : ax_Met ct_93 := ax_go_ok ax_M0 go_93
/-- yX2_spreadPairs -/
def ct_94 : ax_c := (17, 2, [.inr [50], .inl (false, [(.negSucc 11, .ofNat 12)])], [(50, 8, [(.ofNat 0, .ofNat 108)])], [(none, [])], [(52, none)])
def an_94 : ax_n := [(1114125, .inl ([(.inl (3, false), [(.negSucc 39, .ofNat 41)])], [], [], 0, true)), (1114137, .inl ([(.inl (4, false), [(.negSucc 11, .ofNat 14)])], [], [], 0, true))]
set_option maxRecDepth 1000000 in
theorem go_94 : ax_go an_94 [ct_93] 4000 ct_94 = true := by decide +kernel
theorem mt_94 : ax_Met ct_94 := ax_go_ok (ax_M1 ax_M0 (mt_93)) go_94
