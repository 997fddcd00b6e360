/-- yX12_comes -/
def ct_67 : ax_c := (230, 0, [.inr [122], .inl (false, [(.negSucc 2147483647, .ofNat 2147483647)]), .inl (false, [(.ofNat 0, .ofNat 1)]), .inl (false, [(.negSucc 2147483647, .ofNat 2147483647)])], [(122, 43, [(.ofNat 0, .ofNat 21)])], [(none, [(122, 43, [(.ofNat 1, .ofNat 22)])])], [(122, some 43), (149, none), (150, none), (151, none)])
def an_67 : ax_n := [(15073283, .inl ([(.inl (4, false), [(.ofNat 0, .ofNat 21)]), (.inr (122, 43), [(.ofNat 0, .ofNat 21)])], [(122, some 43)], [(0, 1, .ofNat 1, .ofNat 1, .ofNat 0)], 0, true)), (15073380, .inl ([(.inl (5, false), [(.ofNat 0, .ofNat 21)])], [(149, none), (150, none)], [], 0, false))]
set_option maxRecDepth 1000000 in
theorem go_67 : ax_go an_67 [] 4000 ct_67 = true := by decide +kernel
theorem mt_67 : ax_Met ct_67 := ax_go_ok ax_M0 go_67
/-- yX12_comes -/
def ct_68 : ax_c := (230, 0, [.inr [122], .inl (false, [(.negSucc 2147483647, .ofNat 2147483647)]), .inl (false, [(.ofNat 0, .ofNat 1)]), .inl (false, [(.negSucc 2147483647, .ofNat 2147483647)])], [(122, 43, [(.ofNat 0, .ofNat 22)])], [(none, [(122, 43, [(.ofNat 1, .ofNat 23)])])], [(122, some 43), (149, none), (150, none), (151, none)])
def an_68 : ax_n := [(15073283, .inl ([(.inl (4, false), [(.ofNat 0, .ofNat 22)]), (.inr (122, 43), [(.ofNat 0, .ofNat 22)])], [(122, some 43)], [(0, 1, .ofNat 1, .ofNat 1, .ofNat 0)], 0, true)), (15073380, .inl ([(.inl (5, false), [(.ofNat 0, .ofNat 22)])], [(149, none), (150, none)], [], 0, false))]
set_option maxRecDepth 1000000 in
theorem go_68 : ax_go an_68 [] 4000 ct_68 = true := by decide +kernel
theorem mt_68 : ax_Met ct_68 := ax_go_ok ax_M0 go_68
/-- yX12_comes -/
def ct_69 : ax_c := (230, 0, [.inr [122], .inl (false, [(.negSucc 2147483647, .ofNat 2147483647)]), .inl (false, [(.ofNat 0, .ofNat 1)]), .inl (false, [(.negSucc 2147483647, .ofNat 2147483647)])], [(122, 43, [(.ofNat 0, .ofNat 23)])], [(none, [(122, 43, [(.ofNat 1, .ofNat 24)])])], [(122, some 43), (149, none), (150, none), (151, none)])
def an_69 : ax_n := [(15073283, .inl ([(.inl (4, false), [(.ofNat 0, .ofNat 23)]), (.inr (122, 43), [(.ofNat 0, .ofNat 23)])], [(122, some 43)], [(0, 1, .ofNat 1, .ofNat 1, .ofNat 0)], 0, true)), (15073380, .inl ([(.inl (5, false), [(.ofNat 0, .ofNat 23)])], [(149, none), (150, none)], [], 0, false))]
set_option maxRecDepth 1000000 in
theorem go_69 : ax_go an_69 [] 4000 ct_69 = true := by decide +kernel
theorem mt_69 : ax_Met ct_69 := ax_go_ok ax_M0 go_69
/-- yX12_comes -/
def ct_70 : ax_c := (230, 0, [.inr [122], .inl (false, [(.negSucc 2147483647, .ofNat 2147483647)]), .inl (false, [(.ofNat 0, .ofNat 1)]), .inl (false, [(.negSucc 2147483647, .ofNat 2147483647)])], [(122, 43, [(.ofNat 0, .ofNat 24)])], [(none, [(122, 43, [(.ofNat 1, .ofNat 25)])])], [(122, some 43), (149, none), (150, none), (151, none)])
def an_70 : ax_n := [(15073283, .inl ([(.inl (4, false), [(.ofNat 0, .ofNat 24)]), (.inr (122, 43), [(.ofNat 0, .ofNat 24)])], [(122, some 43)], [(0, 1, .ofNat 1, .ofNat 1, .ofNat 0)], 0, true)), (15073380, .inl ([(.inl (5, false), [(.ofNat 0, .ofNat 24)])], [(149, none), (150, none)], [], 0, false))]
set_option maxRecDepth 1000000 in
theorem go_70 : ax_go an_70 [] 4000 ct_70 = true := by decide +kernel
theorem mt_70 : ax_Met ct_70 := ax_go_ok ax_M0 go_70
/-- yX12_comes -/
def ct_71 : ax_c := (230, 0, [.inr [122], .inl (false, [(.negSucc 2147483647, .ofNat 2147483647)]), .inl (false, [(.ofNat 0, .ofNat 1)]), .inl (false, [(.negSucc 2147483647, .ofNat 2147483647)])], [(122, 43, [(.ofNat 0, .ofNat 25)])], [(none, [(122, 43, [(.ofNat 1, .ofNat 26)])])], [(122, some 43), (149, none), (150, none), (151, none)])
def an_71 : ax_n := [(15073283, .inl ([(.inl (4, false), [(.ofNat 0, .ofNat 25)]), (.inr (122, 43), [(.ofNat 0, .ofNat 25)])], [(122, some 43)], [(0, 1, .ofNat 1, .ofNat 1, .ofNat 0)], 0, true)), (15073380, .inl ([(.inl (5, false), [(.ofNat 0, .ofNat 25)])], [(149, none), (150, none)], [], 0, false))]
set_option maxRecDepth 1000000 in
theorem go_71 : ax_go an_71 [] 4000 ct_71 = true := by decide +kernel
theorem mt_71 : ax_Met ct_71 := ax_go_ok ax_M0 go_71
/-- yX12_comes -/
def ct_72 : ax_c := (230, 0, [.inr [122], .inl (false, [(.negSucc 2147483647, .ofNat 2147483647)]), .inl (false, [(.ofNat 0, .ofNat 1)]), .inl (false, [(.negSucc 2147483647, .ofNat 2147483647)])], [(122, 43, [(.ofNat 0, .ofNat 26)])], [(none, [(122, 43, [(.ofNat 1, .ofNat 27)])])], [(122, some 43), (149, none), (150, none), (151, none)])
def an_72 : ax_n := [(15073283, .inl ([(.inl (4, false), [(.ofNat 0, .ofNat 26)]), (.inr (122, 43), [(.ofNat 0, .ofNat 26)])], [(122, some 43)], [(0, 1, .ofNat 1, .ofNat 1, .ofNat 0)], 0, true)), (15073380, .inl ([(.inl (5, false), [(.ofNat 0, .ofNat 26)])], [(149, none), (150, none)], [], 0, false))]
set_option maxRecDepth 1000000 in
theorem go_72 : ax_go an_72 [] 4000 ct_72 = true := by decide +kernel
theorem mt_72 : ax_Met ct_72 := ax_go_ok ax_M0 go_72
/-- yX12_comes -/
def ct_73 : ax_c := (230, 0, [.inr [122], .inl (false, [(.negSucc 2147483647, .ofNat 2147483647)]), .inl (false, [(.ofNat 0, .ofNat 1)]), .inl (false, [(.negSucc 2147483647, .ofNat 2147483647)])], [(122, 43, [(.ofNat 0, .ofNat 27)])], [(none, [(122, 43, [(.ofNat 1, .ofNat 28)])])], [(122, some 43), (149, none), (150, none), (151, none)])
def an_73 : ax_n := [(15073283, .inl ([(.inl (4, false), [(.ofNat 0, .ofNat 27)]), (.inr (122, 43), [(.ofNat 0, .ofNat 27)])], [(122, some 43)], [(0, 1, .ofNat 1, .ofNat 1, .ofNat 0)], 0, true)), (15073380, .inl ([(.inl (5, false), [(.ofNat 0, .ofNat 27)])], [(149, none), (150, none)], [], 0, false))]
set_option maxRecDepth 1000000 in
theorem go_73 : ax_go an_73 [] 4000 ct_73 = true := by decide +kernel
theorem mt_73 : ax_Met ct_73 := ax_go_ok ax_M0 go_73
/-- yX12_comes -/
def ct_74 : ax_c := (230, 0, [.inr [122], .inl (false, [(.negSucc 2147483647, .ofNat 2147483647)]), .inl (false, [(.ofNat 0, .ofNat 1)]), .inl (false, [(.negSucc 2147483647, .ofNat 2147483647)])], [(122, 43, [(.ofNat 0, .ofNat 28)])], [(none, [(122, 43, [(.ofNat 1, .ofNat 29)])])], [(122, some 43), (149, none), (150, none), (151, none)])
def an_74 : ax_n := [(15073283, .inl ([(.inl (4, false), [(.ofNat 0, .ofNat 28)]), (.inr (122, 43), [(.ofNat 0, .ofNat 28)])], [(122, some 43)], [(0, 1, .ofNat 1, .ofNat 1, .ofNat 0)], 0, true)), (15073380, .inl ([(.inl (5, false), [(.ofNat 0, .ofNat 28)])], [(149, none), (150, none)], [], 0, false))]
set_option maxRecDepth 1000000 in
theorem go_74 : ax_go an_74 [] 4000 ct_74 = true := by decide +kernel
theorem mt_74 : ax_Met ct_74 := ax_go_ok ax_M0 go_74
/-- yX12_comes -/
def ct_75 : ax_c := (230, 0, [.inr [122], .inl (false, [(.negSucc 2147483647, .ofNat 2147483647)]), .inl (false, [(.ofNat 0, .ofNat 1)]), .inl (false, [(.negSucc 2147483647, .ofNat 2147483647)])], [(122, 43, [(.ofNat 0, .ofNat 29)])], [(none, [(122, 43, [(.ofNat 1, .ofNat 30)])])], [(122, some 43), (149, none), (150, none), (151, none)])
def an_75 : ax_n := [(15073283, .inl ([(.inl (4, false), [(.ofNat 0, .ofNat 29)]), (.inr (122, 43), [(.ofNat 0, .ofNat 29)])], [(122, some 43)], [(0, 1, .ofNat 1, .ofNat 1, .ofNat 0)], 0, true)), (15073380, .inl ([(.inl (5, false), [(.ofNat 0, .ofNat 29)])], [(149, none), (150, none)], [], 0, false))]
set_option maxRecDepth 1000000 in
theorem go_75 : ax_go an_75 [] 4000 ct_75 = true := by decide +kernel
theorem mt_75 : ax_Met ct_75 := ax_go_ok ax_M0 go_75
/-- yX12_comes -/
def ct_76 : ax_c := (230, 0, [.inr [122], .inl (false, [(.negSucc 2147483647, .ofNat 2147483647)]), .inl (false, [(.ofNat 0, .ofNat 1)]), .inl (false, [(.negSucc 2147483647, .ofNat 2147483647)])], [(122, 43, [(.ofNat 0, .ofNat 30)])], [(none, [(122, 43, [(.ofNat 1, .ofNat 31)])])], [(122, some 43), (149, none), (150, none), (151, none)])
def an_76 : ax_n := [(15073283, .inl ([(.inl (4, false), [(.ofNat 0, .ofNat 30)]), (.inr (122, 43), [(.ofNat 0, .ofNat 30)])], [(122, some 43)], [(0, 1, .ofNat 1, .ofNat 1, .ofNat 0)], 0, true)), (15073380, .inl ([(.inl (5, false), [(.ofNat 0, .ofNat 30)])], [(149, none), (150, none)], [], 0, false))]
set_option maxRecDepth 1000000 in
theorem go_76 : ax_go an_76 [] 4000 ct_76 = true := by decide +kernel
theorem mt_76 : ax_Met ct_76 := ax_go_ok ax_M0 go_76
