/-- yX8_readToken -/
def ct_274 : ax_c := (73, 8, [.inr [45]], [(45, 9, [(.ofNat 0, .ofNat 80)])], [(some (false, [(.ofNat 1, .ofNat 1)]), [(45, 10, [(.ofNat 0, .ofNat 0)])]), (some (false, [(.ofNat 1, .ofNat 1)]), [(45, 10, [(.ofNat 1, .ofNat 1)]), (45, 12, [(.ofNat 0, .ofNat 99)])]), (some (false, [(.ofNat 1, .ofNat 1)]), [(45, 10, [(.ofNat 2, .ofNat 2)]), (45, 12, [(.ofNat 0, .ofNat 3)])]), (some (false, [(.ofNat 1, .ofNat 1)]), [(45, 10, [(.ofNat 3, .ofNat 3)])]), (some (false, [(.ofNat 0, .ofNat 0)]), [])], [(45, some 7), (45, some 8), (45, some 9), (45, some 10), (45, some 11), (45, some 12)])
def an_274 : ax_n := [(4784128, .inl ([(.inr (45, 9), [(.ofNat 0, .ofNat 80)])], [(45, some 9)], [], 0, true))]
set_option maxRecDepth 1000000 in
theorem go_274 : ax_go an_274 [] 4000 ct_274 = true := by decide +kernel
theorem mt_274 : ax_Met ct_274 := ax_go_ok ax_M0 go_274
theorem hp_10 : ax_Met ct_10 := by
  intro d S As hd hP hp _
  refine mt_274 d S As hd hP hp ?_
  intro q hq
  rcases List.mem_cons.mp hq with rfl | hq
  · obtain ⟨-, v, hv⟩ := ax_isF_ok (c := 45) (k := 9) hP.1 rfl
    exact ⟨v, hv, hP.1.2.2.2 45 9 v (by decide) hv⟩
  · exact absurd hq List.not_mem_nil
