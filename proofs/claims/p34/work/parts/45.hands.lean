/-! ===== contracts by hand: what they say ===== -/
/-- yX9_copyFrom (by hand) -/
def ct_0 : ax_c := (77, 1, [.inr [73, 77, 81, 85, 89, 93, 98, 102, 106, 110], .inr [1], .inr [6]], [], [(none, [])], [(73, some 0), (73, some 1), (74, none), (75, none), (76, none), (77, some 0), (77, some 1), (78, none), (79, none), (80, none), (81, some 0), (81, some 1), (82, none), (83, none), (84, none), (85, some 0), (85, some 1), (86, none), (87, none), (88, none), (89, some 0), (89, some 1), (90, none), (91, none), (92, none), (93, some 0), (93, some 1), (94, none), (95, none), (96, none), (98, some 0), (98, some 1), (99, none), (100, none), (101, none), (102, some 0), (102, some 1), (103, none), (104, none), (105, none), (106, some 0), (106, some 1), (107, none), (108, none), (109, none), (110, some 0), (110, some 1), (111, none), (112, none), (113, none)])
/-- yX9_copyTo (by hand) -/
def ct_1 : ax_c := (78, 1, [.inr [73, 77, 81, 85, 89, 93, 98, 102, 106, 110], .inr [1], .inr [6]], [], [(none, [])], [(2, none), (11, none), (12, none)])
/-- yX5_fewestOut (by hand) -/
def ct_2 : ax_c := (44, 17, [.inr [13], .inr [6]], [], [(some (false, [(.negSucc 2147483647, .ofNat 2147483647)]), [])], [(13, some 2), (13, some 3), (13, some 4), (15, none), (16, none), (17, none), (18, none), (19, none), (20, none), (21, none), (22, none), (23, none), (24, none), (25, none), (26, none), (27, none), (28, none)])
/-- yX12_record (by hand) -/
def ct_3 : ax_c := (242, 1, [.inr [122]], [], [(none, [])], [(122, some 54), (157, none)])
/-- yX12_put (by hand) -/
def ct_4 : ax_c := (240, 0, [.inr [122], .inr [156], .inl (false, [(.ofNat 0, .ofNat 0), (.ofNat 50, .ofNat 50), (.ofNat 100, .ofNat 100), (.ofNat 150, .ofNat 150)])], [], [(none, [])], [(156, none)])
/-- yX12_get (by hand) -/
def ct_5 : ax_c := (241, 0, [.inr [122], .inr [156], .inl (false, [(.ofNat 0, .ofNat 0), (.ofNat 50, .ofNat 50), (.ofNat 100, .ofNat 100), (.ofNat 150, .ofNat 150)])], [], [(some (false, [(.negSucc 2147483647, .ofNat 2147483647)]), [])], [(123, none), (130, none), (131, none)])
/-- yX12_get (by hand) -/
def ct_6 : ax_c := (241, 0, [.inr [122], .inr [157], .inl (false, [(.ofNat 0, .ofNat 0), (.ofNat 50, .ofNat 50), (.ofNat 100, .ofNat 100), (.ofNat 150, .ofNat 150), (.ofNat 200, .ofNat 200), (.ofNat 250, .ofNat 250)])], [], [(some (false, [(.negSucc 2147483647, .ofNat 2147483647)]), [])], [(123, none), (130, none), (131, none)])
/-- yX12_solve (by hand) -/
def ct_7 : ax_c := (189, 4, [.inr [122], .inl (false, [(.ofNat 0, .ofNat 7)])], [], [(none, [(122, 21, [(.ofNat 1, .ofNat 9223372036854775807)])])], [(122, some 12), (122, some 18), (122, some 21), (133, none), (134, none), (135, none), (136, none), (138, none), (139, none)])
/-- yX12_solvePlates (by hand) -/
def ct_8 : ax_c := (237, 4, [.inr [122], .inl (false, [(.ofNat 0, .ofNat 3)])], [], [(none, [(122, 21, [(.ofNat 1, .ofNat 9223372036854775807)])])], [(122, some 12), (122, some 18), (122, some 21), (133, none), (134, none), (135, none), (136, none), (138, none), (139, none)])
/-- yX12_lowest (by hand) -/
def ct_9 : ax_c := (191, 0, [.inl (true, [(.negSucc 9223372036854775807, .ofNat 9223372036854775807)]), .inl (true, [(.ofNat 1, .ofNat 9223372036854775807)]), .inl (false, [(.ofNat 0, .ofNat 1)])], [], [(some (true, [(.negSucc 9223372036854775807, .ofNat 9223372036854775807)]), [])], [])
/-- yX8_readToken (by hand) -/
def ct_10 : ax_c := (73, 8, [.inr [45]], [], [(some (false, [(.ofNat 1, .ofNat 1)]), [(45, 10, [(.ofNat 0, .ofNat 0)])]), (some (false, [(.ofNat 1, .ofNat 1)]), [(45, 10, [(.ofNat 1, .ofNat 1)]), (45, 12, [(.ofNat 0, .ofNat 99)])]), (some (false, [(.ofNat 1, .ofNat 1)]), [(45, 10, [(.ofNat 2, .ofNat 2)]), (45, 12, [(.ofNat 0, .ofNat 3)])]), (some (false, [(.ofNat 1, .ofNat 1)]), [(45, 10, [(.ofNat 3, .ofNat 3)])]), (some (false, [(.ofNat 0, .ofNat 0)]), [])], [(45, some 7), (45, some 8), (45, some 9), (45, some 10), (45, some 11), (45, some 12)])
/-- yX11_giveAll (by hand) -/
def ct_11 : ax_c := (106, 6, [.inr [0]], [], [(some (false, [(.negSucc 2147483647, .ofNat 2147483647)]), [])], [(11, none), (12, none), (71, some 0), (71, some 1), (73, some 0), (73, some 1), (74, none), (75, none), (76, none), (77, some 0), (77, some 1), (78, none), (79, none), (80, none), (81, some 0), (81, some 1), (82, none), (83, none), (84, none), (85, some 0), (85, some 1), (86, none), (87, none), (88, none), (89, some 0), (89, some 1), (90, none), (91, none), (92, none), (93, some 0), (93, some 1), (94, none), (95, none), (96, none), (98, some 0), (98, some 1), (99, none), (100, none), (101, none), (102, some 0), (102, some 1), (103, none), (104, none), (105, none), (106, some 0), (106, some 1), (107, none), (108, none), (109, none), (110, some 0), (110, some 1), (111, none), (112, none), (113, none)])
/-- yX12_giveAll (by hand) -/
def ct_12 : ax_c := (180, 6, [.inr [122]], [], [(some (false, [(.negSucc 2147483647, .ofNat 2147483647)]), [])], [(122, some 54), (130, none), (131, none), (157, none)])
/-- yX12_layPattern (by hand) -/
def ct_87 : ax_c := (231, 3, [.inr [122], .inl (false, [(.ofNat 0, .ofNat 7)]), .inl (false, [(.ofNat 0, .ofNat 7)])], [], [(none, [])], [(122, some 43), (149, none), (150, none), (151, none)])
/-- all contracts that are made by hand -/
def hd_all : Prop := ∀ c ∈ ([ct_0, ct_1, ct_2, ct_3, ct_4, ct_5, ct_6, ct_7, ct_8, ct_9, ct_10, ct_11, ct_12, ct_87] : List ax_c), ax_Met c
theorem hm_0 (H : hd_all) : ax_Met ct_0 := H _ List.mem_cons_self
theorem hm_1 (H : hd_all) : ax_Met ct_1 := H _ (List.mem_cons_of_mem _ List.mem_cons_self)
theorem hm_2 (H : hd_all) : ax_Met ct_2 := H _ (List.mem_cons_of_mem _ (List.mem_cons_of_mem _ List.mem_cons_self))
theorem hm_3 (H : hd_all) : ax_Met ct_3 := H _ (List.mem_cons_of_mem _ (List.mem_cons_of_mem _ (List.mem_cons_of_mem _ List.mem_cons_self)))
theorem hm_4 (H : hd_all) : ax_Met ct_4 := H _ (List.mem_cons_of_mem _ (List.mem_cons_of_mem _ (List.mem_cons_of_mem _ (List.mem_cons_of_mem _ List.mem_cons_self))))
theorem hm_5 (H : hd_all) : ax_Met ct_5 := H _ (List.mem_cons_of_mem _ (List.mem_cons_of_mem _ (List.mem_cons_of_mem _ (List.mem_cons_of_mem _ (List.mem_cons_of_mem _ List.mem_cons_self)))))
theorem hm_6 (H : hd_all) : ax_Met ct_6 := H _ (List.mem_cons_of_mem _ (List.mem_cons_of_mem _ (List.mem_cons_of_mem _ (List.mem_cons_of_mem _ (List.mem_cons_of_mem _ (List.mem_cons_of_mem _ List.mem_cons_self))))))
theorem hm_7 (H : hd_all) : ax_Met ct_7 := H _ (List.mem_cons_of_mem _ (List.mem_cons_of_mem _ (List.mem_cons_of_mem _ (List.mem_cons_of_mem _ (List.mem_cons_of_mem _ (List.mem_cons_of_mem _ (List.mem_cons_of_mem _ List.mem_cons_self)))))))
theorem hm_8 (H : hd_all) : ax_Met ct_8 := H _ (List.mem_cons_of_mem _ (List.mem_cons_of_mem _ (List.mem_cons_of_mem _ (List.mem_cons_of_mem _ (List.mem_cons_of_mem _ (List.mem_cons_of_mem _ (List.mem_cons_of_mem _ (List.mem_cons_of_mem _ List.mem_cons_self))))))))
theorem hm_9 (H : hd_all) : ax_Met ct_9 := H _ (List.mem_cons_of_mem _ (List.mem_cons_of_mem _ (List.mem_cons_of_mem _ (List.mem_cons_of_mem _ (List.mem_cons_of_mem _ (List.mem_cons_of_mem _ (List.mem_cons_of_mem _ (List.mem_cons_of_mem _ (List.mem_cons_of_mem _ List.mem_cons_self)))))))))
theorem hm_10 (H : hd_all) : ax_Met ct_10 := H _ (List.mem_cons_of_mem _ (List.mem_cons_of_mem _ (List.mem_cons_of_mem _ (List.mem_cons_of_mem _ (List.mem_cons_of_mem _ (List.mem_cons_of_mem _ (List.mem_cons_of_mem _ (List.mem_cons_of_mem _ (List.mem_cons_of_mem _ (List.mem_cons_of_mem _ List.mem_cons_self))))))))))
theorem hm_11 (H : hd_all) : ax_Met ct_11 := H _ (List.mem_cons_of_mem _ (List.mem_cons_of_mem _ (List.mem_cons_of_mem _ (List.mem_cons_of_mem _ (List.mem_cons_of_mem _ (List.mem_cons_of_mem _ (List.mem_cons_of_mem _ (List.mem_cons_of_mem _ (List.mem_cons_of_mem _ (List.mem_cons_of_mem _ (List.mem_cons_of_mem _ List.mem_cons_self)))))))))))
theorem hm_12 (H : hd_all) : ax_Met ct_12 := H _ (List.mem_cons_of_mem _ (List.mem_cons_of_mem _ (List.mem_cons_of_mem _ (List.mem_cons_of_mem _ (List.mem_cons_of_mem _ (List.mem_cons_of_mem _ (List.mem_cons_of_mem _ (List.mem_cons_of_mem _ (List.mem_cons_of_mem _ (List.mem_cons_of_mem _ (List.mem_cons_of_mem _ (List.mem_cons_of_mem _ List.mem_cons_self))))))))))))
theorem hm_87 (H : hd_all) : ax_Met ct_87 := H _ (List.mem_cons_of_mem _ (List.mem_cons_of_mem _ (List.mem_cons_of_mem _ (List.mem_cons_of_mem _ (List.mem_cons_of_mem _ (List.mem_cons_of_mem _ (List.mem_cons_of_mem _ (List.mem_cons_of_mem _ (List.mem_cons_of_mem _ (List.mem_cons_of_mem _ (List.mem_cons_of_mem _ (List.mem_cons_of_mem _ (List.mem_cons_of_mem _ List.mem_cons_self)))))))))))))
