/-! ===== feed, end, shells by the tape's length ===== -/
/-- yX11_shells -/
def ct_300 : ax_c := (119, 12, [.inr [0]], [], [(some (false, [(.negSucc 2147483647, .ofNat 2147483647)]), [(45, 0, [(.ofNat 0, .ofNat 0)])])], [(45, some 0), (45, some 2), (45, some 6), (45, some 7), (45, some 8), (45, some 9), (45, some 10), (45, some 11), (45, some 12), (47, none), (48, none), (49, none), (50, some 0), (50, some 1), (50, some 7), (50, some 8), (51, none), (52, none), (54, none), (55, none), (56, none), (57, none), (58, none), (59, none), (60, none), (61, none), (62, none), (63, none)])
def an_300 : ax_n := [(17039366, .inl ([(.inl (3, false), [(.ofNat 0, .ofNat 2025)])], [], [], 0, true))]
set_option maxRecDepth 1000000 in
theorem go_300 : ax_go an_300 [ct_90, ct_99, ct_95, ct_96, ct_97, ct_98] 4000 ct_300 = true := by decide +kernel
theorem mt_300 (H : hd_all) : ax_Met ct_300 := ax_go_ok (ax_M1 (ax_M1 (ax_M1 (ax_M1 (ax_M1 (ax_M1 ax_M0 (mt_98)) (mt_97)) (mt_96)) (mt_95)) (mt_99)) (mt_90 H)) go_300
/-- yX12_shells -/
def ct_301 : ax_c := (214, 4, [.inr [122]], [], [(some (false, [(.negSucc 2147483647, .ofNat 2147483647)]), [(122, 26, [(.ofNat 0, .ofNat 0)])])], [(122, some 26), (122, some 27), (122, some 28), (122, some 29), (122, some 30), (122, some 31), (122, some 32), (122, some 33), (122, some 34), (122, some 38), (142, none), (143, none), (144, none), (145, none), (146, none), (147, none)])
def an_301 : ax_n := [(13959172, .inl ([(.inl (1, false), [(.negSucc 2147483647, .ofNat 2147483647)]), (.inl (2, false), [(.ofNat 0, .ofNat 4)])], [], [], 1, true)), (14024789, .inl ([(.inl (1, false), [(.ofNat 0, .ofNat 4)])], [], [], 0, true))]
set_option maxRecDepth 1000000 in
theorem go_301 : ax_go an_301 [ct_100, ct_102, ct_103, ct_104, ct_105, ct_106] 4000 ct_301 = true := by decide +kernel
theorem mt_301 : ax_Met ct_301 := ax_go_ok (ax_M1 (ax_M1 (ax_M1 (ax_M1 (ax_M1 (ax_M1 ax_M0 (mt_106)) (mt_105)) (mt_104)) (mt_103)) (mt_102)) (mt_100)) go_301
def fd_x (b : Nat) : ax_c := (117, 1, [.inr [0], .inl (true, [(.negSucc 9223372036854775807, .ofNat 9223372036854775807)])], [(45, 0, [(.ofNat b, .ofNat b)])], [(some (false, [(.ofNat (b + 8), .ofNat (b + 8))]), [(45, 0, [(.ofNat (b + 8), .ofNat (b + 8))])])], [(45, some 0), (46, none)])
def ff_x : ax_c := (117, 0, [.inr [0], .inl (true, [(.negSucc 9223372036854775807, .ofNat 9223372036854775807)])], [(45, 0, [(.ofNat 73, .ofNat 80)])], [(some (false, [(.negSucc 2, .negSucc 2)]), [])], [])
def e1_x : ax_c := (118, 0, [.inr [0], .inl (false, [(.negSucc 2147483647, .negSucc 0), (.ofNat 81, .ofNat 2147483647)])], [], [(some (false, [(.negSucc 0, .negSucc 0)]), [])], [])
def e2_x (b : Nat) : ax_c := (118, 0, [.inr [0], .inl (false, [(.ofNat (b + 1), .ofNat (b + 1))])], [(45, 0, [(.ofNat 0, .ofNat b)])], [(some (false, [(.negSucc 0, .negSucc 0)]), [])], [])
def e3_x (b : Nat) : ax_c := (118, 0, [.inr [0], .inl (false, [(.ofNat b, .ofNat b)])], [(45, 0, [(.ofNat b, .ofNat 80)])], [(some (false, [(.ofNat b, .ofNat 80)]), [(45, 0, [(.ofNat b, .ofNat b)])])], [(45, some 0)])
def e4_x (b : Nat) : ax_c := (118, 0, [.inr [0], .inl (false, [(.ofNat 0, .ofNat b)])], [(45, 0, [(.ofNat b, .ofNat b)])], [(some (false, [(.ofNat b, .ofNat b)]), [])], [(45, some 0)])
set_option maxRecDepth 1000000 in
theorem g_fd_x : ((List.range 73).all fun b => ax_go [] [] 4000 (fd_x b)) = true := by decide +kernel
theorem m_fd_x {b : Nat} (h : b < 73) : ax_Met (fd_x b) := ax_go_ok ax_M0 (List.all_eq_true.mp g_fd_x b (List.mem_range.mpr h))
set_option maxRecDepth 1000000 in
theorem g_e2_x : ((List.range 80).all fun b => ax_go [] [] 4000 (e2_x b)) = true := by decide +kernel
theorem m_e2_x {b : Nat} (h : b < 80) : ax_Met (e2_x b) := ax_go_ok ax_M0 (List.all_eq_true.mp g_e2_x b (List.mem_range.mpr h))
set_option maxRecDepth 1000000 in
theorem g_e3_x : ((List.range 81).all fun b => ax_go [] [] 4000 (e3_x b)) = true := by decide +kernel
theorem m_e3_x {b : Nat} (h : b < 81) : ax_Met (e3_x b) := ax_go_ok ax_M0 (List.all_eq_true.mp g_e3_x b (List.mem_range.mpr h))
set_option maxRecDepth 1000000 in
theorem g_e4_x : ((List.range 81).all fun b => ax_go [] [] 4000 (e4_x b)) = true := by decide +kernel
theorem m_e4_x {b : Nat} (h : b < 81) : ax_Met (e4_x b) := ax_go_ok ax_M0 (List.all_eq_true.mp g_e4_x b (List.mem_range.mpr h))
set_option maxRecDepth 1000000 in
theorem g_ff_x : ax_go [] [] 4000 ff_x = true := by decide +kernel
theorem m_ff_x : ax_Met ff_x := ax_go_ok ax_M0 g_ff_x
set_option maxRecDepth 1000000 in
theorem g_e1_x : ax_go [] [] 4000 e1_x = true := by decide +kernel
theorem m_e1_x : ax_Met e1_x := ax_go_ok ax_M0 g_e1_x
def fd_m (b : Nat) : ax_c := (205, 0, [.inr [122], .inl (true, [(.negSucc 9223372036854775807, .ofNat 9223372036854775807)])], [(122, 26, [(.ofNat b, .ofNat b)])], [(some (false, [(.ofNat (b + 8), .ofNat (b + 8))]), [(122, 26, [(.ofNat (b + 8), .ofNat (b + 8))])])], [(122, some 26), (141, none)])
def ff_m : ax_c := (205, 0, [.inr [122], .inl (true, [(.negSucc 9223372036854775807, .ofNat 9223372036854775807)])], [(122, 26, [(.ofNat 73, .ofNat 80)])], [(some (false, [(.negSucc 2, .negSucc 2)]), [])], [])
def e1_m : ax_c := (206, 1, [.inr [122], .inl (false, [(.negSucc 2147483647, .negSucc 0), (.ofNat 81, .ofNat 2147483647)])], [], [(some (false, [(.negSucc 0, .negSucc 0)]), [])], [])
def e2_m (b : Nat) : ax_c := (206, 1, [.inr [122], .inl (false, [(.ofNat (b + 1), .ofNat (b + 1))])], [(122, 26, [(.ofNat 0, .ofNat b)])], [(some (false, [(.negSucc 0, .negSucc 0)]), [])], [])
def e3_m (b : Nat) : ax_c := (206, 1, [.inr [122], .inl (false, [(.ofNat b, .ofNat b)])], [(122, 26, [(.ofNat b, .ofNat 80)])], [(some (false, [(.ofNat b, .ofNat 80)]), [(122, 26, [(.ofNat b, .ofNat b)])])], [(122, some 26)])
def e4_m (b : Nat) : ax_c := (206, 1, [.inr [122], .inl (false, [(.ofNat 0, .ofNat b)])], [(122, 26, [(.ofNat b, .ofNat b)])], [(some (false, [(.ofNat b, .ofNat b)]), [])], [(122, some 26)])
set_option maxRecDepth 1000000 in
theorem g_fd_m : ((List.range 73).all fun b => ax_go [] [] 4000 (fd_m b)) = true := by decide +kernel
theorem m_fd_m {b : Nat} (h : b < 73) : ax_Met (fd_m b) := ax_go_ok ax_M0 (List.all_eq_true.mp g_fd_m b (List.mem_range.mpr h))
set_option maxRecDepth 1000000 in
theorem g_e2_m : ((List.range 80).all fun b => ax_go [] [] 4000 (e2_m b)) = true := by decide +kernel
theorem m_e2_m {b : Nat} (h : b < 80) : ax_Met (e2_m b) := ax_go_ok ax_M0 (List.all_eq_true.mp g_e2_m b (List.mem_range.mpr h))
set_option maxRecDepth 1000000 in
theorem g_e3_m : ((List.range 81).all fun b => ax_go [] [] 4000 (e3_m b)) = true := by decide +kernel
theorem m_e3_m {b : Nat} (h : b < 81) : ax_Met (e3_m b) := ax_go_ok ax_M0 (List.all_eq_true.mp g_e3_m b (List.mem_range.mpr h))
set_option maxRecDepth 1000000 in
theorem g_e4_m : ((List.range 81).all fun b => ax_go [] [] 4000 (e4_m b)) = true := by decide +kernel
theorem m_e4_m {b : Nat} (h : b < 81) : ax_Met (e4_m b) := ax_go_ok ax_M0 (List.all_eq_true.mp g_e4_m b (List.mem_range.mpr h))
set_option maxRecDepth 1000000 in
theorem g_ff_m : ax_go [] [] 4000 ff_m = true := by decide +kernel
theorem m_ff_m : ax_Met ff_m := ax_go_ok ax_M0 g_ff_m
set_option maxRecDepth 1000000 in
theorem g_e1_m : ax_go [] [] 4000 e1_m = true := by decide +kernel
theorem m_e1_m : ax_Met e1_m := ax_go_ok ax_M0 g_e1_m
