/-- yX12_comes -/
def ct_57 : ax_c := (230, 0, [.inr [122], .inl (false, [(.negSucc 2147483647, .ofNat 2147483647)]), .inl (false, [(.ofNat 0, .ofNat 1)]), .inl (false, [(.negSucc 2147483647, .ofNat 2147483647)])], [(122, 43, [(.ofNat 0, .ofNat 11)])], [(none, [(122, 43, [(.ofNat 1, .ofNat 12)])])], [(122, some 43), (149, none), (150, none), (151, none)])
def an_57 : ax_n := [(15073283, .inl ([(.inl (4, false), [(.ofNat 0, .ofNat 11)]), (.inr (122, 43), [(.ofNat 0, .ofNat 11)])], [(122, some 43)], [(0, 1, .ofNat 1, .ofNat 1, .ofNat 0)], 0, true)), (15073380, .inl ([(.inl (5, false), [(.ofNat 0, .ofNat 11)])], [(149, none), (150, none)], [], 0, false))]
set_option maxRecDepth 1000000 in
theorem go_57 : ax_go an_57 [] 4000 ct_57 = true := by decide +kernel
theorem mt_57 : ax_Met ct_57 := ax_go_ok ax_M0 go_57
/-- yX12_comes -/
def ct_58 : ax_c := (230, 0, [.inr [122], .inl (false, [(.negSucc 2147483647, .ofNat 2147483647)]), .inl (false, [(.ofNat 0, .ofNat 1)]), .inl (false, [(.negSucc 2147483647, .ofNat 2147483647)])], [(122, 43, [(.ofNat 0, .ofNat 12)])], [(none, [(122, 43, [(.ofNat 1, .ofNat 13)])])], [(122, some 43), (149, none), (150, none), (151, none)])
def an_58 : ax_n := [(15073283, .inl ([(.inl (4, false), [(.ofNat 0, .ofNat 12)]), (.inr (122, 43), [(.ofNat 0, .ofNat 12)])], [(122, some 43)], [(0, 1, .ofNat 1, .ofNat 1, .ofNat 0)], 0, true)), (15073380, .inl ([(.inl (5, false), [(.ofNat 0, .ofNat 12)])], [(149, none), (150, none)], [], 0, false))]
set_option maxRecDepth 1000000 in
theorem go_58 : ax_go an_58 [] 4000 ct_58 = true := by decide +kernel
theorem mt_58 : ax_Met ct_58 := ax_go_ok ax_M0 go_58
/-- yX12_comes -/
def ct_59 : ax_c := (230, 0, [.inr [122], .inl (false, [(.negSucc 2147483647, .ofNat 2147483647)]), .inl (false, [(.ofNat 0, .ofNat 1)]), .inl (false, [(.negSucc 2147483647, .ofNat 2147483647)])], [(122, 43, [(.ofNat 0, .ofNat 13)])], [(none, [(122, 43, [(.ofNat 1, .ofNat 14)])])], [(122, some 43), (149, none), (150, none), (151, none)])
def an_59 : ax_n := [(15073283, .inl ([(.inl (4, false), [(.ofNat 0, .ofNat 13)]), (.inr (122, 43), [(.ofNat 0, .ofNat 13)])], [(122, some 43)], [(0, 1, .ofNat 1, .ofNat 1, .ofNat 0)], 0, true)), (15073380, .inl ([(.inl (5, false), [(.ofNat 0, .ofNat 13)])], [(149, none), (150, none)], [], 0, false))]
set_option maxRecDepth 1000000 in
theorem go_59 : ax_go an_59 [] 4000 ct_59 = true := by decide +kernel
theorem mt_59 : ax_Met ct_59 := ax_go_ok ax_M0 go_59
/-- yX12_comes -/
def ct_60 : ax_c := (230, 0, [.inr [122], .inl (false, [(.negSucc 2147483647, .ofNat 2147483647)]), .inl (false, [(.ofNat 0, .ofNat 1)]), .inl (false, [(.negSucc 2147483647, .ofNat 2147483647)])], [(122, 43, [(.ofNat 0, .ofNat 14)])], [(none, [(122, 43, [(.ofNat 1, .ofNat 15)])])], [(122, some 43), (149, none), (150, none), (151, none)])
def an_60 : ax_n := [(15073283, .inl ([(.inl (4, false), [(.ofNat 0, .ofNat 14)]), (.inr (122, 43), [(.ofNat 0, .ofNat 14)])], [(122, some 43)], [(0, 1, .ofNat 1, .ofNat 1, .ofNat 0)], 0, true)), (15073380, .inl ([(.inl (5, false), [(.ofNat 0, .ofNat 14)])], [(149, none), (150, none)], [], 0, false))]
set_option maxRecDepth 1000000 in
theorem go_60 : ax_go an_60 [] 4000 ct_60 = true := by decide +kernel
theorem mt_60 : ax_Met ct_60 := ax_go_ok ax_M0 go_60
/-- yX12_comes -/
def ct_61 : ax_c := (230, 0, [.inr [122], .inl (false, [(.negSucc 2147483647, .ofNat 2147483647)]), .inl (false, [(.ofNat 0, .ofNat 1)]), .inl (false, [(.negSucc 2147483647, .ofNat 2147483647)])], [(122, 43, [(.ofNat 0, .ofNat 15)])], [(none, [(122, 43, [(.ofNat 1, .ofNat 16)])])], [(122, some 43), (149, none), (150, none), (151, none)])
def an_61 : ax_n := [(15073283, .inl ([(.inl (4, false), [(.ofNat 0, .ofNat 15)]), (.inr (122, 43), [(.ofNat 0, .ofNat 15)])], [(122, some 43)], [(0, 1, .ofNat 1, .ofNat 1, .ofNat 0)], 0, true)), (15073380, .inl ([(.inl (5, false), [(.ofNat 0, .ofNat 15)])], [(149, none), (150, none)], [], 0, false))]
set_option maxRecDepth 1000000 in
theorem go_61 : ax_go an_61 [] 4000 ct_61 = true := by decide +kernel
theorem mt_61 : ax_Met ct_61 := ax_go_ok ax_M0 go_61
/-- yX12_comes -/
def ct_62 : ax_c := (230, 0, [.inr [122], .inl (false, [(.negSucc 2147483647, .ofNat 2147483647)]), .inl (false, [(.ofNat 0, .ofNat 1)]), .inl (false, [(.negSucc 2147483647, .ofNat 2147483647)])], [(122, 43, [(.ofNat 0, .ofNat 16)])], [(none, [(122, 43, [(.ofNat 1, .ofNat 17)])])], [(122, some 43), (149, none), (150, none), (151, none)])
def an_62 : ax_n := [(15073283, .inl ([(.inl (4, false), [(.ofNat 0, .ofNat 16)]), (.inr (122, 43), [(.ofNat 0, .ofNat 16)])], [(122, some 43)], [(0, 1, .ofNat 1, .ofNat 1, .ofNat 0)], 0, true)), (15073380, .inl ([(.inl (5, false), [(.ofNat 0, .ofNat 16)])], [(149, none), (150, none)], [], 0, false))]
set_option maxRecDepth 1000000 in
theorem go_62 : ax_go an_62 [] 4000 ct_62 = true := by decide +kernel
theorem mt_62 : ax_Met ct_62 := ax_go_ok ax_M0 go_62
/-- yX12_comes -/
def ct_63 : ax_c := (230, 0, [.inr [122], .inl (false, [(.negSucc 2147483647, .ofNat 2147483647)]), .inl (false, [(.ofNat 0, .ofNat 1)]), .inl (false, [(.negSucc 2147483647, .ofNat 2147483647)])], [(122, 43, [(.ofNat 0, .ofNat 17)])], [(none, [(122, 43, [(.ofNat 1, .ofNat 18)])])], [(122, some 43), (149, none), (150, none), (151, none)])
def an_63 : ax_n := [(15073283, .inl ([(.inl (4, false), [(.ofNat 0, .ofNat 17)]), (.inr (122, 43), [(.ofNat 0, .ofNat 17)])], [(122, some 43)], [(0, 1, .ofNat 1, .ofNat 1, .ofNat 0)], 0, true)), (15073380, .inl ([(.inl (5, false), [(.ofNat 0, .ofNat 17)])], [(149, none), (150, none)], [], 0, false))]
set_option maxRecDepth 1000000 in
theorem go_63 : ax_go an_63 [] 4000 ct_63 = true := by decide +kernel
theorem mt_63 : ax_Met ct_63 := ax_go_ok ax_M0 go_63
/-- yX12_comes -/
def ct_64 : ax_c := (230, 0, [.inr [122], .inl (false, [(.negSucc 2147483647, .ofNat 2147483647)]), .inl (false, [(.ofNat 0, .ofNat 1)]), .inl (false, [(.negSucc 2147483647, .ofNat 2147483647)])], [(122, 43, [(.ofNat 0, .ofNat 18)])], [(none, [(122, 43, [(.ofNat 1, .ofNat 19)])])], [(122, some 43), (149, none), (150, none), (151, none)])
def an_64 : ax_n := [(15073283, .inl ([(.inl (4, false), [(.ofNat 0, .ofNat 18)]), (.inr (122, 43), [(.ofNat 0, .ofNat 18)])], [(122, some 43)], [(0, 1, .ofNat 1, .ofNat 1, .ofNat 0)], 0, true)), (15073380, .inl ([(.inl (5, false), [(.ofNat 0, .ofNat 18)])], [(149, none), (150, none)], [], 0, false))]
set_option maxRecDepth 1000000 in
theorem go_64 : ax_go an_64 [] 4000 ct_64 = true := by decide +kernel
theorem mt_64 : ax_Met ct_64 := ax_go_ok ax_M0 go_64
/-- yX12_comes -/
def ct_65 : ax_c := (230, 0, [.inr [122], .inl (false, [(.negSucc 2147483647, .ofNat 2147483647)]), .inl (false, [(.ofNat 0, .ofNat 1)]), .inl (false, [(.negSucc 2147483647, .ofNat 2147483647)])], [(122, 43, [(.ofNat 0, .ofNat 19)])], [(none, [(122, 43, [(.ofNat 1, .ofNat 20)])])], [(122, some 43), (149, none), (150, none), (151, none)])
def an_65 : ax_n := [(15073283, .inl ([(.inl (4, false), [(.ofNat 0, .ofNat 19)]), (.inr (122, 43), [(.ofNat 0, .ofNat 19)])], [(122, some 43)], [(0, 1, .ofNat 1, .ofNat 1, .ofNat 0)], 0, true)), (15073380, .inl ([(.inl (5, false), [(.ofNat 0, .ofNat 19)])], [(149, none), (150, none)], [], 0, false))]
set_option maxRecDepth 1000000 in
theorem go_65 : ax_go an_65 [] 4000 ct_65 = true := by decide +kernel
theorem mt_65 : ax_Met ct_65 := ax_go_ok ax_M0 go_65
/-- yX12_comes -/
def ct_66 : ax_c := (230, 0, [.inr [122], .inl (false, [(.negSucc 2147483647, .ofNat 2147483647)]), .inl (false, [(.ofNat 0, .ofNat 1)]), .inl (false, [(.negSucc 2147483647, .ofNat 2147483647)])], [(122, 43, [(.ofNat 0, .ofNat 20)])], [(none, [(122, 43, [(.ofNat 1, .ofNat 21)])])], [(122, some 43), (149, none), (150, none), (151, none)])
def an_66 : ax_n := [(15073283, .inl ([(.inl (4, false), [(.ofNat 0, .ofNat 20)]), (.inr (122, 43), [(.ofNat 0, .ofNat 20)])], [(122, some 43)], [(0, 1, .ofNat 1, .ofNat 1, .ofNat 0)], 0, true)), (15073380, .inl ([(.inl (5, false), [(.ofNat 0, .ofNat 20)])], [(149, none), (150, none)], [], 0, false))]
set_option maxRecDepth 1000000 in
theorem go_66 : ax_go an_66 [] 4000 ct_66 = true := by decide +kernel
theorem mt_66 : ax_Met ct_66 := ax_go_ok ax_M0 go_66
