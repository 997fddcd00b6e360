/-- yX12_comes -/
def ct_77 : ax_c := (230, 0, [.inr [122], .inl (false, [(.negSucc 2147483647, .ofNat 2147483647)]), .inl (false, [(.ofNat 0, .ofNat 1)]), .inl (false, [(.negSucc 2147483647, .ofNat 2147483647)])], [(122, 43, [(.ofNat 0, .ofNat 31)])], [(none, [(122, 43, [(.ofNat 1, .ofNat 32)])])], [(122, some 43), (149, none), (150, none), (151, none)])
def an_77 : ax_n := [(15073283, .inl ([(.inl (4, false), [(.ofNat 0, .ofNat 31)]), (.inr (122, 43), [(.ofNat 0, .ofNat 31)])], [(122, some 43)], [(0, 1, .ofNat 1, .ofNat 1, .ofNat 0)], 0, true)), (15073380, .inl ([(.inl (5, false), [(.ofNat 0, .ofNat 31)])], [(149, none), (150, none)], [], 0, false))]
set_option maxRecDepth 1000000 in
theorem go_77 : ax_go an_77 [] 4000 ct_77 = true := by decide +kernel
theorem mt_77 : ax_Met ct_77 := ax_go_ok ax_M0 go_77
/-- yX12_comes -/
def ct_78 : ax_c := (230, 0, [.inr [122], .inl (false, [(.negSucc 2147483647, .ofNat 2147483647)]), .inl (false, [(.ofNat 0, .ofNat 1)]), .inl (false, [(.negSucc 2147483647, .ofNat 2147483647)])], [(122, 43, [(.ofNat 0, .ofNat 32)])], [(none, [(122, 43, [(.ofNat 1, .ofNat 33)])])], [(122, some 43), (149, none), (150, none), (151, none)])
def an_78 : ax_n := [(15073283, .inl ([(.inl (4, false), [(.ofNat 0, .ofNat 32)]), (.inr (122, 43), [(.ofNat 0, .ofNat 32)])], [(122, some 43)], [(0, 1, .ofNat 1, .ofNat 1, .ofNat 0)], 0, true)), (15073380, .inl ([(.inl (5, false), [(.ofNat 0, .ofNat 32)])], [(149, none), (150, none)], [], 0, false))]
set_option maxRecDepth 1000000 in
theorem go_78 : ax_go an_78 [] 4000 ct_78 = true := by decide +kernel
theorem mt_78 : ax_Met ct_78 := ax_go_ok ax_M0 go_78
/-- yX12_comes -/
def ct_79 : ax_c := (230, 0, [.inr [122], .inl (false, [(.negSucc 2147483647, .ofNat 2147483647)]), .inl (false, [(.ofNat 0, .ofNat 1)]), .inl (false, [(.negSucc 2147483647, .ofNat 2147483647)])], [(122, 43, [(.ofNat 0, .ofNat 33)])], [(none, [(122, 43, [(.ofNat 1, .ofNat 34)])])], [(122, some 43), (149, none), (150, none), (151, none)])
def an_79 : ax_n := [(15073283, .inl ([(.inl (4, false), [(.ofNat 0, .ofNat 33)]), (.inr (122, 43), [(.ofNat 0, .ofNat 33)])], [(122, some 43)], [(0, 1, .ofNat 1, .ofNat 1, .ofNat 0)], 0, true)), (15073380, .inl ([(.inl (5, false), [(.ofNat 0, .ofNat 33)])], [(149, none), (150, none)], [], 0, false))]
set_option maxRecDepth 1000000 in
theorem go_79 : ax_go an_79 [] 4000 ct_79 = true := by decide +kernel
theorem mt_79 : ax_Met ct_79 := ax_go_ok ax_M0 go_79
/-- yX12_comes -/
def ct_80 : ax_c := (230, 0, [.inr [122], .inl (false, [(.negSucc 2147483647, .ofNat 2147483647)]), .inl (false, [(.ofNat 0, .ofNat 1)]), .inl (false, [(.negSucc 2147483647, .ofNat 2147483647)])], [(122, 43, [(.ofNat 0, .ofNat 34)])], [(none, [(122, 43, [(.ofNat 1, .ofNat 35)])])], [(122, some 43), (149, none), (150, none), (151, none)])
def an_80 : ax_n := [(15073283, .inl ([(.inl (4, false), [(.ofNat 0, .ofNat 34)]), (.inr (122, 43), [(.ofNat 0, .ofNat 34)])], [(122, some 43)], [(0, 1, .ofNat 1, .ofNat 1, .ofNat 0)], 0, true)), (15073380, .inl ([(.inl (5, false), [(.ofNat 0, .ofNat 34)])], [(149, none), (150, none)], [], 0, false))]
set_option maxRecDepth 1000000 in
theorem go_80 : ax_go an_80 [] 4000 ct_80 = true := by decide +kernel
theorem mt_80 : ax_Met ct_80 := ax_go_ok ax_M0 go_80
/-- yX12_comes -/
def ct_81 : ax_c := (230, 0, [.inr [122], .inl (false, [(.negSucc 2147483647, .ofNat 2147483647)]), .inl (false, [(.ofNat 0, .ofNat 1)]), .inl (false, [(.negSucc 2147483647, .ofNat 2147483647)])], [(122, 43, [(.ofNat 0, .ofNat 35)])], [(none, [(122, 43, [(.ofNat 1, .ofNat 36)])])], [(122, some 43), (149, none), (150, none), (151, none)])
def an_81 : ax_n := [(15073283, .inl ([(.inl (4, false), [(.ofNat 0, .ofNat 35)]), (.inr (122, 43), [(.ofNat 0, .ofNat 35)])], [(122, some 43)], [(0, 1, .ofNat 1, .ofNat 1, .ofNat 0)], 0, true)), (15073380, .inl ([(.inl (5, false), [(.ofNat 0, .ofNat 35)])], [(149, none), (150, none)], [], 0, false))]
set_option maxRecDepth 1000000 in
theorem go_81 : ax_go an_81 [] 4000 ct_81 = true := by decide +kernel
theorem mt_81 : ax_Met ct_81 := ax_go_ok ax_M0 go_81
/-- yX12_comes -/
def ct_82 : ax_c := (230, 0, [.inr [122], .inl (false, [(.negSucc 2147483647, .ofNat 2147483647)]), .inl (false, [(.ofNat 0, .ofNat 1)]), .inl (false, [(.negSucc 2147483647, .ofNat 2147483647)])], [(122, 43, [(.ofNat 0, .ofNat 36)])], [(none, [(122, 43, [(.ofNat 1, .ofNat 37)])])], [(122, some 43), (149, none), (150, none), (151, none)])
def an_82 : ax_n := [(15073283, .inl ([(.inl (4, false), [(.ofNat 0, .ofNat 36)]), (.inr (122, 43), [(.ofNat 0, .ofNat 36)])], [(122, some 43)], [(0, 1, .ofNat 1, .ofNat 1, .ofNat 0)], 0, true)), (15073380, .inl ([(.inl (5, false), [(.ofNat 0, .ofNat 36)])], [(149, none), (150, none)], [], 0, false))]
set_option maxRecDepth 1000000 in
theorem go_82 : ax_go an_82 [] 4000 ct_82 = true := by decide +kernel
theorem mt_82 : ax_Met ct_82 := ax_go_ok ax_M0 go_82
/-- yX12_comes -/
def ct_83 : ax_c := (230, 0, [.inr [122], .inl (false, [(.negSucc 2147483647, .ofNat 2147483647)]), .inl (false, [(.ofNat 0, .ofNat 1)]), .inl (false, [(.negSucc 2147483647, .ofNat 2147483647)])], [(122, 43, [(.ofNat 0, .ofNat 37)])], [(none, [(122, 43, [(.ofNat 1, .ofNat 38)])])], [(122, some 43), (149, none), (150, none), (151, none)])
def an_83 : ax_n := [(15073283, .inl ([(.inl (4, false), [(.ofNat 0, .ofNat 37)]), (.inr (122, 43), [(.ofNat 0, .ofNat 37)])], [(122, some 43)], [(0, 1, .ofNat 1, .ofNat 1, .ofNat 0)], 0, true)), (15073380, .inl ([(.inl (5, false), [(.ofNat 0, .ofNat 37)])], [(149, none), (150, none)], [], 0, false))]
set_option maxRecDepth 1000000 in
theorem go_83 : ax_go an_83 [] 4000 ct_83 = true := by decide +kernel
theorem mt_83 : ax_Met ct_83 := ax_go_ok ax_M0 go_83
/-- yX12_comes -/
def ct_84 : ax_c := (230, 0, [.inr [122], .inl (false, [(.negSucc 2147483647, .ofNat 2147483647)]), .inl (false, [(.ofNat 0, .ofNat 1)]), .inl (false, [(.negSucc 2147483647, .ofNat 2147483647)])], [(122, 43, [(.ofNat 0, .ofNat 38)])], [(none, [(122, 43, [(.ofNat 1, .ofNat 39)])])], [(122, some 43), (149, none), (150, none), (151, none)])
def an_84 : ax_n := [(15073283, .inl ([(.inl (4, false), [(.ofNat 0, .ofNat 38)]), (.inr (122, 43), [(.ofNat 0, .ofNat 38)])], [(122, some 43)], [(0, 1, .ofNat 1, .ofNat 1, .ofNat 0)], 0, true)), (15073380, .inl ([(.inl (5, false), [(.ofNat 0, .ofNat 38)])], [(149, none), (150, none)], [], 0, false))]
set_option maxRecDepth 1000000 in
theorem go_84 : ax_go an_84 [] 4000 ct_84 = true := by decide +kernel
theorem mt_84 : ax_Met ct_84 := ax_go_ok ax_M0 go_84
/-- yX12_comes -/
def ct_85 : ax_c := (230, 0, [.inr [122], .inl (false, [(.negSucc 2147483647, .ofNat 2147483647)]), .inl (false, [(.ofNat 0, .ofNat 1)]), .inl (false, [(.negSucc 2147483647, .ofNat 2147483647)])], [(122, 43, [(.ofNat 0, .ofNat 39)])], [(none, [(122, 43, [(.ofNat 1, .ofNat 40)])])], [(122, some 43), (149, none), (150, none), (151, none)])
def an_85 : ax_n := [(15073283, .inl ([(.inl (4, false), [(.ofNat 0, .ofNat 39)]), (.inr (122, 43), [(.ofNat 0, .ofNat 39)])], [(122, some 43)], [(0, 1, .ofNat 1, .ofNat 1, .ofNat 0)], 0, true)), (15073380, .inl ([(.inl (5, false), [(.ofNat 0, .ofNat 39)])], [(149, none), (150, none)], [], 0, false))]
set_option maxRecDepth 1000000 in
theorem go_85 : ax_go an_85 [] 4000 ct_85 = true := by decide +kernel
theorem mt_85 : ax_Met ct_85 := ax_go_ok ax_M0 go_85
/-- yX12_strengthOf -/
def ct_86 : ax_c := (229, 0, [.inl (false, [(.ofNat 0, .ofNat 9)]), .inl (false, [(.ofNat 0, .ofNat 1)]), .inl (false, [(.negSucc 8, .ofNat 9)]), .inl (false, [(.negSucc 8, .ofNat 9)])], [], [(some (false, [(.negSucc 2147483647, .ofNat 2147483647)]), [])], [])
def an_86 : ax_n := []
set_option maxRecDepth 1000000 in
theorem go_86 : ax_go an_86 [] 4000 ct_86 = true := by decide +kernel
theorem mt_86 : ax_Met ct_86 := ax_go_ok ax_M0 go_86
/-- yX8_isTold -/
def ct_88 : ax_c := (70, 0, [.inr [45], .inl (false, [(.negSucc 2147483647, .ofNat 2147483647)]), .inl (false, [(.negSucc 2147483647, .ofNat 2147483647)])], [], [(some (false, [(.ofNat 0, .ofNat 1)]), [])], [])
def an_88 : ax_n := [(4587522, .inl ([(.inl (3, false), [(.ofNat 0, .ofNat 4)])], [], [], 0, true))]
set_option maxRecDepth 1000000 in
theorem go_88 : ax_go an_88 [] 4000 ct_88 = true := by decide +kernel
theorem mt_88 : ax_Met ct_88 := ax_go_ok ax_M0 go_88
/-- yX8_readShell -/
def ct_89 : ax_c := (68, 10, [.inr [45]], [], [(some (false, [(.ofNat 0, .ofNat 1)]), [])], [(45, some 2), (45, some 6), (45, some 7), (45, some 8), (45, some 9), (45, some 10), (45, some 11), (45, some 12), (47, none), (48, none), (49, none)])
def an_89 : ax_n := []
set_option maxRecDepth 1000000 in
theorem go_89 : ax_go an_89 [ct_10, ct_88] 4000 ct_89 = true := by decide +kernel
theorem mt_89 (H : hd_all) : ax_Met ct_89 := ax_go_ok (ax_M1 (ax_M1 ax_M0 (mt_88)) (hm_10 H)) go_89
