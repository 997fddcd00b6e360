/-- yX12_fault -/
def ct_9 : ax_c := (215, 0, [.inr [122]], [], [(some (false, [(.negSucc 2147483647, .ofNat 2147483647)]), [])], [])
def an_9 : ax_n := []
set_option maxRecDepth 1000000 in
theorem go_9 : ((List.range 1).all fun k => ax_go an_9 [] (3000 + k) ct_9) = true := by decide +kernel

