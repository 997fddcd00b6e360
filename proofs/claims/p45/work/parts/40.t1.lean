/-- yX12_compare -/
def ct_9 : ax_c := (245, 1, [.inr [122], .inl (false, [(.negSucc 2147483647, .ofNat 2147483647)]), .inl (false, [(.negSucc 2147483647, .ofNat 2147483647)])], [], [(some (false, [(.negSucc 2147483647, .ofNat 2147483647)]), [])], [])
def an_9 : ax_n := [(16056465, .inl ([(.inl (4, false), [(.negSucc 2147483647, .ofNat 2147483647)]), (.inl (5, false), [(.ofNat 0, .ofNat 2000000)]), (.inl (9, false), [(.ofNat 0, .ofNat 8)])], [], [], 2, true)), (16056586, .inl ([(.inl (6, false), [(.negSucc 2147483647, .ofNat 2147483647)]), (.inl (9, false), [(.ofNat 0, .ofNat 16)])], [], [], 1, true))]
set_option maxRecDepth 1000000 in
theorem go_9 : ax_go an_9 [] 3000 ct_9 = true := by decide +kernel
theorem mt_9 : ax_Met ct_9 := ax_go_ok ax_M0 go_9
