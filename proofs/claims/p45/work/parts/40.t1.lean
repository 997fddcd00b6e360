/-- yX11_isHeight -/
def ct_0 : ax_c := (142, 0, [.inl (false, [(-2147483648, 2147483647)])], [], [(some (false, [(0, 1)]), [])], [])
def an_0 : ax_n := []
set_option maxRecDepth 1000000 in
theorem go_0 : ax_go an_0 [] 100000 ct_0 = true := by decide +kernel
theorem mt_0 : ax_Met ct_0 := ax_go_ok ax_M0 go_0
/-- yX11_isSideAndSpin -/
def ct_1 : ax_c := (143, 0, [.inl (false, [(-2147483648, 2147483647)]), .inl (false, [(-2147483648, 2147483647)])], [], [(some (false, [(0, 1)]), [])], [])
def an_1 : ax_n := []
set_option maxRecDepth 1000000 in
theorem go_1 : ax_go an_1 [] 100000 ct_1 = true := by decide +kernel
theorem mt_1 : ax_Met ct_1 := ax_go_ok ax_M0 go_1
/-- yX12_level -/
def ct_2 : ax_c := (160, 1, [.inr [122], .inl (false, [(-2147483648, 2147483647)]), .inl (false, [(-2147483648, 2147483647)]), .inl (false, [(-2147483648, 2147483647)])], [], [(some (false, [(-3, -3), (-1, 7)]), [])], [(122, some 0), (123, none), (124, none), (125, none), (126, none)])
def an_2 : ax_n := []
set_option maxRecDepth 1000000 in
theorem go_2 : ax_go an_2 [] 100000 ct_2 = true := by decide +kernel
theorem mt_2 : ax_Met ct_2 := ax_go_ok ax_M0 go_2
/-- yX11_about -/
def ct_3 : ax_c := (100, 1, [.inr [0], .inl (false, [(-2147483648, 2147483647)]), .inl (false, [(-2147483648, 2147483647)])], [], [(some (false, [(-4, -4), (-1, 1000000)]), [])], [])
def an_3 : ax_n := []
set_option maxRecDepth 1000000 in
theorem go_3 : ax_go an_3 [] 100000 ct_3 = true := by decide +kernel
theorem mt_3 : ax_Met ct_3 := ax_go_ok ax_M0 go_3
/-- yX12_about -/
def ct_4 : ax_c := (169, 2, [.inr [122], .inl (false, [(-2147483648, 2147483647)]), .inl (false, [(-2147483648, 2147483647)])], [], [(some (false, [(-4, -4), (-1, 1000000)]), [])], [])
def an_4 : ax_n := []
set_option maxRecDepth 1000000 in
theorem go_4 : ax_go an_4 [] 100000 ct_4 = true := by decide +kernel
theorem mt_4 : ax_Met ct_4 := ax_go_ok ax_M0 go_4
/-- yX11_isInMeeting -/
def ct_5 : ax_c := (148, 0, [.inr [0], .inl (false, [(-2147483648, 2147483647)])], [], [(some (false, [(0, 1)]), [])], [])
def an_5 : ax_n := [(9699330, .inl ([(.inl (2, false), [(0, 12)])], [], [], 0, true))]
set_option maxRecDepth 1000000 in
theorem go_5 : ax_go an_5 [] 100000 ct_5 = true := by decide +kernel
theorem mt_5 : ax_Met ct_5 := ax_go_ok ax_M0 go_5
/-- yX12_isMet -/
def ct_6 : ax_c := (234, 0, [.inr [122], .inl (false, [(-2147483648, 2147483647)])], [], [(some (false, [(0, 1)]), [])], [])
def an_6 : ax_n := [(15335428, .inl ([(.inl (2, false), [(0, 1)]), (.inl (3, false), [(0, 12)])], [], [], 1, true))]
set_option maxRecDepth 1000000 in
theorem go_6 : ax_go an_6 [] 100000 ct_6 = true := by decide +kernel
theorem mt_6 : ax_Met ct_6 := ax_go_ok ax_M0 go_6
/-- yX11_plate -/
def ct_7 : ax_c := (130, 1, [.inr [0], .inl (false, [(-2147483648, 2147483647)]), .inl (false, [(-2147483648, 2147483647)])], [], [(some (false, [(-2, 3)]), [])], [(10, none)])
def an_7 : ax_n := []
set_option maxRecDepth 1000000 in
theorem go_7 : ax_go an_7 [ct_5] 100000 ct_7 = true := by decide +kernel
theorem mt_7 : ax_Met ct_7 := ax_go_ok (ax_M1 ax_M0 mt_5) go_7
/-- yX12_fits -/
def ct_8 : ax_c := (175, 3, [.inr [122], .inl (false, [(-2147483648, 2147483647)])], [], [(some (false, [(-2147483648, 2147483647)]), [])], [])
def an_8 : ax_n := [(11468814, .inl ([(.inl (2, false), [(-2147483648, 2147483647)]), (.inl (3, false), [(0, 8)])], [], [], 1, true)), (11468825, .inl ([(.inl (2, false), [(-2147483648, 2147483647)]), (.inl (4, false), [(0, 8)])], [], [], 1, true))]
set_option maxRecDepth 1000000 in
theorem go_8 : ax_go an_8 [] 100000 ct_8 = true := by decide +kernel
theorem mt_8 : ax_Met ct_8 := ax_go_ok ax_M0 go_8
