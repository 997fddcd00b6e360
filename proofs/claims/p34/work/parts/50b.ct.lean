/-- yX12_comes -/
def ct_47 : ax_c := (230, 0, [.inr [122], .inl (false, [(.negSucc 2147483647, .ofNat 2147483647)]), .inl (false, [(.ofNat 0, .ofNat 1)]), .inl (false, [(.negSucc 2147483647, .ofNat 2147483647)])], [(122, 43, [(.ofNat 0, .ofNat 1)])], [(none, [(122, 43, [(.ofNat 1, .ofNat 2)])])], [(122, some 43), (149, none), (150, none), (151, none)])
def an_47 : ax_n := [(15073283, .inl ([(.inl (4, false), [(.ofNat 0, .ofNat 1)]), (.inr (122, 43), [(.ofNat 0, .ofNat 1)])], [(122, some 43)], [(0, 1, .ofNat 1, .ofNat 1, .ofNat 0)], 0, true)), (15073380, .inl ([(.inl (5, false), [(.ofNat 0, .ofNat 1)])], [], [], 0, false))]
set_option maxRecDepth 1000000 in
theorem go_47 : ax_go an_47 [] 4000 ct_47 = true := by decide +kernel
theorem mt_47 : ax_Met ct_47 := ax_go_ok ax_M0 go_47
/-- yX12_comes -/
def ct_48 : ax_c := (230, 0, [.inr [122], .inl (false, [(.negSucc 2147483647, .ofNat 2147483647)]), .inl (false, [(.ofNat 0, .ofNat 1)]), .inl (false, [(.negSucc 2147483647, .ofNat 2147483647)])], [(122, 43, [(.ofNat 0, .ofNat 2)])], [(none, [(122, 43, [(.ofNat 1, .ofNat 3)])])], [(122, some 43), (149, none), (150, none), (151, none)])
def an_48 : ax_n := [(15073283, .inl ([(.inl (4, false), [(.ofNat 0, .ofNat 2)]), (.inr (122, 43), [(.ofNat 0, .ofNat 2)])], [(122, some 43)], [(0, 1, .ofNat 1, .ofNat 1, .ofNat 0)], 0, true)), (15073380, .inl ([(.inl (5, false), [(.ofNat 0, .ofNat 2)])], [(149, none), (150, none)], [], 0, false))]
set_option maxRecDepth 1000000 in
theorem go_48 : ax_go an_48 [] 4000 ct_48 = true := by decide +kernel
theorem mt_48 : ax_Met ct_48 := ax_go_ok ax_M0 go_48
/-- yX12_comes -/
def ct_49 : ax_c := (230, 0, [.inr [122], .inl (false, [(.negSucc 2147483647, .ofNat 2147483647)]), .inl (false, [(.ofNat 0, .ofNat 1)]), .inl (false, [(.negSucc 2147483647, .ofNat 2147483647)])], [(122, 43, [(.ofNat 0, .ofNat 3)])], [(none, [(122, 43, [(.ofNat 1, .ofNat 4)])])], [(122, some 43), (149, none), (150, none), (151, none)])
def an_49 : ax_n := [(15073283, .inl ([(.inl (4, false), [(.ofNat 0, .ofNat 3)]), (.inr (122, 43), [(.ofNat 0, .ofNat 3)])], [(122, some 43)], [(0, 1, .ofNat 1, .ofNat 1, .ofNat 0)], 0, true)), (15073380, .inl ([(.inl (5, false), [(.ofNat 0, .ofNat 3)])], [(149, none), (150, none)], [], 0, false))]
set_option maxRecDepth 1000000 in
theorem go_49 : ax_go an_49 [] 4000 ct_49 = true := by decide +kernel
theorem mt_49 : ax_Met ct_49 := ax_go_ok ax_M0 go_49
/-- yX12_comes -/
def ct_50 : ax_c := (230, 0, [.inr [122], .inl (false, [(.negSucc 2147483647, .ofNat 2147483647)]), .inl (false, [(.ofNat 0, .ofNat 1)]), .inl (false, [(.negSucc 2147483647, .ofNat 2147483647)])], [(122, 43, [(.ofNat 0, .ofNat 4)])], [(none, [(122, 43, [(.ofNat 1, .ofNat 5)])])], [(122, some 43), (149, none), (150, none), (151, none)])
def an_50 : ax_n := [(15073283, .inl ([(.inl (4, false), [(.ofNat 0, .ofNat 4)]), (.inr (122, 43), [(.ofNat 0, .ofNat 4)])], [(122, some 43)], [(0, 1, .ofNat 1, .ofNat 1, .ofNat 0)], 0, true)), (15073380, .inl ([(.inl (5, false), [(.ofNat 0, .ofNat 4)])], [(149, none), (150, none)], [], 0, false))]
set_option maxRecDepth 1000000 in
theorem go_50 : ax_go an_50 [] 4000 ct_50 = true := by decide +kernel
theorem mt_50 : ax_Met ct_50 := ax_go_ok ax_M0 go_50
/-- yX12_comes -/
def ct_51 : ax_c := (230, 0, [.inr [122], .inl (false, [(.negSucc 2147483647, .ofNat 2147483647)]), .inl (false, [(.ofNat 0, .ofNat 1)]), .inl (false, [(.negSucc 2147483647, .ofNat 2147483647)])], [(122, 43, [(.ofNat 0, .ofNat 5)])], [(none, [(122, 43, [(.ofNat 1, .ofNat 6)])])], [(122, some 43), (149, none), (150, none), (151, none)])
def an_51 : ax_n := [(15073283, .inl ([(.inl (4, false), [(.ofNat 0, .ofNat 5)]), (.inr (122, 43), [(.ofNat 0, .ofNat 5)])], [(122, some 43)], [(0, 1, .ofNat 1, .ofNat 1, .ofNat 0)], 0, true)), (15073380, .inl ([(.inl (5, false), [(.ofNat 0, .ofNat 5)])], [(149, none), (150, none)], [], 0, false))]
set_option maxRecDepth 1000000 in
theorem go_51 : ax_go an_51 [] 4000 ct_51 = true := by decide +kernel
theorem mt_51 : ax_Met ct_51 := ax_go_ok ax_M0 go_51
/-- yX12_comes -/
def ct_52 : ax_c := (230, 0, [.inr [122], .inl (false, [(.negSucc 2147483647, .ofNat 2147483647)]), .inl (false, [(.ofNat 0, .ofNat 1)]), .inl (false, [(.negSucc 2147483647, .ofNat 2147483647)])], [(122, 43, [(.ofNat 0, .ofNat 6)])], [(none, [(122, 43, [(.ofNat 1, .ofNat 7)])])], [(122, some 43), (149, none), (150, none), (151, none)])
def an_52 : ax_n := [(15073283, .inl ([(.inl (4, false), [(.ofNat 0, .ofNat 6)]), (.inr (122, 43), [(.ofNat 0, .ofNat 6)])], [(122, some 43)], [(0, 1, .ofNat 1, .ofNat 1, .ofNat 0)], 0, true)), (15073380, .inl ([(.inl (5, false), [(.ofNat 0, .ofNat 6)])], [(149, none), (150, none)], [], 0, false))]
set_option maxRecDepth 1000000 in
theorem go_52 : ax_go an_52 [] 4000 ct_52 = true := by decide +kernel
theorem mt_52 : ax_Met ct_52 := ax_go_ok ax_M0 go_52
/-- yX12_comes -/
def ct_53 : ax_c := (230, 0, [.inr [122], .inl (false, [(.negSucc 2147483647, .ofNat 2147483647)]), .inl (false, [(.ofNat 0, .ofNat 1)]), .inl (false, [(.negSucc 2147483647, .ofNat 2147483647)])], [(122, 43, [(.ofNat 0, .ofNat 7)])], [(none, [(122, 43, [(.ofNat 1, .ofNat 8)])])], [(122, some 43), (149, none), (150, none), (151, none)])
def an_53 : ax_n := [(15073283, .inl ([(.inl (4, false), [(.ofNat 0, .ofNat 7)]), (.inr (122, 43), [(.ofNat 0, .ofNat 7)])], [(122, some 43)], [(0, 1, .ofNat 1, .ofNat 1, .ofNat 0)], 0, true)), (15073380, .inl ([(.inl (5, false), [(.ofNat 0, .ofNat 7)])], [(149, none), (150, none)], [], 0, false))]
set_option maxRecDepth 1000000 in
theorem go_53 : ax_go an_53 [] 4000 ct_53 = true := by decide +kernel
theorem mt_53 : ax_Met ct_53 := ax_go_ok ax_M0 go_53
/-- yX12_comes -/
def ct_54 : ax_c := (230, 0, [.inr [122], .inl (false, [(.negSucc 2147483647, .ofNat 2147483647)]), .inl (false, [(.ofNat 0, .ofNat 1)]), .inl (false, [(.negSucc 2147483647, .ofNat 2147483647)])], [(122, 43, [(.ofNat 0, .ofNat 8)])], [(none, [(122, 43, [(.ofNat 1, .ofNat 9)])])], [(122, some 43), (149, none), (150, none), (151, none)])
def an_54 : ax_n := [(15073283, .inl ([(.inl (4, false), [(.ofNat 0, .ofNat 8)]), (.inr (122, 43), [(.ofNat 0, .ofNat 8)])], [(122, some 43)], [(0, 1, .ofNat 1, .ofNat 1, .ofNat 0)], 0, true)), (15073380, .inl ([(.inl (5, false), [(.ofNat 0, .ofNat 8)])], [(149, none), (150, none)], [], 0, false))]
set_option maxRecDepth 1000000 in
theorem go_54 : ax_go an_54 [] 4000 ct_54 = true := by decide +kernel
theorem mt_54 : ax_Met ct_54 := ax_go_ok ax_M0 go_54
/-- yX12_comes -/
def ct_55 : ax_c := (230, 0, [.inr [122], .inl (false, [(.negSucc 2147483647, .ofNat 2147483647)]), .inl (false, [(.ofNat 0, .ofNat 1)]), .inl (false, [(.negSucc 2147483647, .ofNat 2147483647)])], [(122, 43, [(.ofNat 0, .ofNat 9)])], [(none, [(122, 43, [(.ofNat 1, .ofNat 10)])])], [(122, some 43), (149, none), (150, none), (151, none)])
def an_55 : ax_n := [(15073283, .inl ([(.inl (4, false), [(.ofNat 0, .ofNat 9)]), (.inr (122, 43), [(.ofNat 0, .ofNat 9)])], [(122, some 43)], [(0, 1, .ofNat 1, .ofNat 1, .ofNat 0)], 0, true)), (15073380, .inl ([(.inl (5, false), [(.ofNat 0, .ofNat 9)])], [(149, none), (150, none)], [], 0, false))]
set_option maxRecDepth 1000000 in
theorem go_55 : ax_go an_55 [] 4000 ct_55 = true := by decide +kernel
theorem mt_55 : ax_Met ct_55 := ax_go_ok ax_M0 go_55
/-- yX12_comes -/
def ct_56 : ax_c := (230, 0, [.inr [122], .inl (false, [(.negSucc 2147483647, .ofNat 2147483647)]), .inl (false, [(.ofNat 0, .ofNat 1)]), .inl (false, [(.negSucc 2147483647, .ofNat 2147483647)])], [(122, 43, [(.ofNat 0, .ofNat 10)])], [(none, [(122, 43, [(.ofNat 1, .ofNat 11)])])], [(122, some 43), (149, none), (150, none), (151, none)])
def an_56 : ax_n := [(15073283, .inl ([(.inl (4, false), [(.ofNat 0, .ofNat 10)]), (.inr (122, 43), [(.ofNat 0, .ofNat 10)])], [(122, some 43)], [(0, 1, .ofNat 1, .ofNat 1, .ofNat 0)], 0, true)), (15073380, .inl ([(.inl (5, false), [(.ofNat 0, .ofNat 10)])], [(149, none), (150, none)], [], 0, false))]
set_option maxRecDepth 1000000 in
theorem go_56 : ax_go an_56 [] 4000 ct_56 = true := by decide +kernel
theorem mt_56 : ax_Met ct_56 := ax_go_ok ax_M0 go_56
