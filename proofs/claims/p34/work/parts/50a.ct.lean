/-- yX3_isStepTo -/
def ct_13 : ax_c := (28, 1, [.inr [1], .inl (false, [(.ofNat 0, .ofNat 7)]), .inl (false, [(.ofNat 0, .ofNat 1)]), .inl (false, [(.ofNat 0, .ofNat 9)])], [], [(some (false, [(.ofNat 0, .ofNat 1)]), [])], [])
def an_13 : ax_n := []
set_option maxRecDepth 1000000 in
theorem go_13 : ax_go an_13 [] 4000 ct_13 = true := by decide +kernel
theorem mt_13 : ax_Met ct_13 := ax_go_ok ax_M0 go_13
/-- yX3_isStep -/
def ct_14 : ax_c := (27, 2, [.inr [1], .inl (false, [(.ofNat 0, .ofNat 7)]), .inl (false, [(.ofNat 0, .ofNat 7)])], [], [(some (false, [(.ofNat 0, .ofNat 1)]), [])], [])
def an_14 : ax_n := []
set_option maxRecDepth 1000000 in
theorem go_14 : ax_go an_14 [ct_13] 4000 ct_14 = true := by decide +kernel
theorem mt_14 : ax_Met ct_14 := ax_go_ok (ax_M1 ax_M0 (mt_13)) go_14
/-- yX4_isNear -/
def ct_15 : ax_c := (36, 1, [.inr [6], .inl (false, [(.ofNat 0, .ofNat 15)]), .inl (false, [(.negSucc 1999999, .ofNat 2000000)])], [], [(some (false, [(.ofNat 0, .ofNat 1)]), [])], [])
def an_15 : ax_n := []
set_option maxRecDepth 1000000 in
theorem go_15 : ax_go an_15 [] 4000 ct_15 = true := by decide +kernel
theorem mt_15 : ax_Met ct_15 := ax_go_ok ax_M0 go_15
/-- yX12_goesWith -/
def ct_16 : ax_c := (170, 0, [.inr [122], .inl (false, [(.ofNat 0, .ofNat 1)]), .inl (false, [(.ofNat 0, .ofNat 9)]), .inl (false, [(.ofNat 0, .ofNat 7)])], [], [(some (false, [(.ofNat 0, .ofNat 1)]), [])], [])
def an_16 : ax_n := []
set_option maxRecDepth 1000000 in
theorem go_16 : ax_go an_16 [] 4000 ct_16 = true := by decide +kernel
theorem mt_16 : ax_Met ct_16 := ax_go_ok ax_M0 go_16
/-- yX12_isAllowed -/
def ct_17 : ax_c := (171, 1, [.inr [122], .inl (false, [(.ofNat 0, .ofNat 7)]), .inl (false, [(.ofNat 0, .ofNat 7)])], [], [(some (false, [(.ofNat 0, .ofNat 1)]), [])], [])
def an_17 : ax_n := []
set_option maxRecDepth 1000000 in
theorem go_17 : ax_go an_17 [ct_16] 4000 ct_17 = true := by decide +kernel
theorem mt_17 : ax_Met ct_17 := ax_go_ok (ax_M1 ax_M0 (mt_16)) go_17
/-- yX12_isNear -/
def ct_18 : ax_c := (173, 0, [.inl (false, [(.negSucc 2999999, .ofNat 3000000)]), .inl (false, [(.ofNat 0, .ofNat 1000000)]), .inl (false, [(.ofNat 0, .ofNat 1000)])], [], [(some (false, [(.ofNat 0, .ofNat 1)]), [])], [])
def an_18 : ax_n := []
set_option maxRecDepth 1000000 in
theorem go_18 : ax_go an_18 [] 4000 ct_18 = true := by decide +kernel
theorem mt_18 : ax_Met ct_18 := ax_go_ok ax_M0 go_18
/-- yX12_isFit -/
def ct_19 : ax_c := (174, 2, [.inr [122], .inl (false, [(.ofNat 0, .ofNat 15)]), .inl (false, [(.ofNat 0, .ofNat 7)]), .inl (false, [(.ofNat 0, .ofNat 7)])], [], [(some (false, [(.ofNat 0, .ofNat 1)]), [])], [])
def an_19 : ax_n := []
set_option maxRecDepth 1000000 in
theorem go_19 : ax_go an_19 [ct_17, ct_18] 4000 ct_19 = true := by decide +kernel
theorem mt_19 : ax_Met ct_19 := ax_go_ok (ax_M1 (ax_M1 ax_M0 (mt_18)) (mt_17)) go_19
/-- yX12_fitAt -/
def ct_20 : ax_c := (176, 3, [.inr [122], .inl (false, [(.ofNat 0, .ofNat 15)]), .inl (false, [(.negSucc 2147483647, .ofNat 2147483647)])], [], [(some (false, [(.negSucc 3, .negSucc 3), (.ofNat 0, .ofNat 63)]), [])], [])
def an_20 : ax_n := [(11534341, .inl ([(.inl (3, false), [(.negSucc 2147483647, .ofNat 2147483647)]), (.inl (4, false), [(.ofNat 0, .ofNat 8)])], [], [], 1, true)), (11534353, .inl ([(.inl (3, false), [(.negSucc 2147483647, .ofNat 2147483647)]), (.inl (5, false), [(.ofNat 0, .ofNat 8)])], [], [], 1, true))]
set_option maxRecDepth 1000000 in
theorem go_20 : ax_go an_20 [ct_19] 4000 ct_20 = true := by decide +kernel
theorem mt_20 : ax_Met ct_20 := ax_go_ok (ax_M1 ax_M0 (mt_19)) go_20
/-- yX11_isFit -/
def ct_21 : ax_c := (149, 3, [.inr [0], .inl (false, [(.ofNat 0, .ofNat 15)]), .inl (false, [(.ofNat 0, .ofNat 7)]), .inl (false, [(.ofNat 0, .ofNat 7)])], [], [(some (false, [(.ofNat 0, .ofNat 1)]), [])], [])
def an_21 : ax_n := []
set_option maxRecDepth 1000000 in
theorem go_21 : ax_go an_21 [ct_14, ct_15] 4000 ct_21 = true := by decide +kernel
theorem mt_21 : ax_Met ct_21 := ax_go_ok (ax_M1 (ax_M1 ax_M0 (mt_15)) (mt_14)) go_21
/-- yX11_countFits -/
def ct_22 : ax_c := (150, 4, [.inr [0], .inl (false, [(.ofNat 0, .ofNat 15)])], [], [(some (false, [(.negSucc 2147483647, .ofNat 2147483647)]), [])], [])
def an_22 : ax_n := [(9830404, .inl ([(.inl (2, false), [(.negSucc 2147483647, .ofNat 2147483647)]), (.inl (3, false), [(.ofNat 0, .ofNat 8)])], [], [], 1, true)), (9830418, .inl ([(.inl (2, false), [(.negSucc 2147483647, .ofNat 2147483647)]), (.inl (4, false), [(.ofNat 0, .ofNat 8)])], [], [], 1, true))]
set_option maxRecDepth 1000000 in
theorem go_22 : ax_go an_22 [ct_21] 4000 ct_22 = true := by decide +kernel
theorem mt_22 : ax_Met ct_22 := ax_go_ok (ax_M1 ax_M0 (mt_21)) go_22
/-- yX11_stepThatFits -/
def ct_23 : ax_c := (151, 4, [.inr [0], .inl (false, [(.ofNat 0, .ofNat 15)]), .inl (false, [(.negSucc 2147483647, .ofNat 2147483647)])], [], [(some (false, [(.negSucc 3, .negSucc 3), (.ofNat 0, .ofNat 63)]), [])], [])
def an_23 : ax_n := [(9895941, .inl ([(.inl (3, false), [(.negSucc 2147483647, .ofNat 2147483647)]), (.inl (4, false), [(.ofNat 0, .ofNat 8)])], [], [], 1, true)), (9895956, .inl ([(.inl (3, false), [(.negSucc 2147483647, .ofNat 2147483647)]), (.inl (5, false), [(.ofNat 0, .ofNat 8)])], [], [], 1, true))]
set_option maxRecDepth 1000000 in
theorem go_23 : ax_go an_23 [ct_21] 4000 ct_23 = true := by decide +kernel
theorem mt_23 : ax_Met ct_23 := ax_go_ok (ax_M1 ax_M0 (mt_21)) go_23
/-- yX11_isInMeeting -/
def ct_24 : ax_c := (148, 0, [.inr [0], .inl (false, [(.negSucc 2147483647, .ofNat 2147483647)])], [], [(some (false, [(.ofNat 0, .ofNat 1)]), [])], [])
def an_24 : ax_n := [(9699330, .inl ([(.inl (2, false), [(.ofNat 0, .ofNat 12)])], [], [], 0, true))]
set_option maxRecDepth 1000000 in
theorem go_24 : ax_go an_24 [] 4000 ct_24 = true := by decide +kernel
theorem mt_24 : ax_Met ct_24 := ax_go_ok ax_M0 go_24
/-- yX12_isMet -/
def ct_25 : ax_c := (234, 0, [.inr [122], .inl (false, [(.negSucc 2147483647, .ofNat 2147483647)])], [], [(some (false, [(.ofNat 0, .ofNat 1)]), [])], [])
def an_25 : ax_n := [(15335428, .inl ([(.inl (2, false), [(.ofNat 0, .ofNat 1)]), (.inl (3, false), [(.ofNat 0, .ofNat 12)])], [], [], 1, true))]
set_option maxRecDepth 1000000 in
theorem go_25 : ax_go an_25 [] 4000 ct_25 = true := by decide +kernel
theorem mt_25 : ax_Met ct_25 := ax_go_ok ax_M0 go_25
/-- yX12_hang -/
def ct_26 : ax_c := (164, 0, [.inr [122], .inl (false, [(.ofNat 0, .ofNat 8)])], [], [(none, [])], [(136, none)])
def an_26 : ax_n := [(10747906, .inl ([(.inl (2, false), [(.ofNat 0, .ofNat 8)])], [], [], 0, true)), (10747926, .inl ([(.inl (2, false), [(.ofNat 0, .ofNat 16)])], [], [], 0, true)), (10747976, .inl ([(.inl (6, false), [(.ofNat 0, .ofNat 8)])], [(136, none)], [], 0, true))]
set_option maxRecDepth 1000000 in
theorem go_26 : ax_go an_26 [] 4000 ct_26 = true := by decide +kernel
theorem mt_26 : ax_Met ct_26 := ax_go_ok ax_M0 go_26
/-- yX12_layParts -/
def ct_27 : ax_c := (165, 1, [.inr [122]], [], [(none, [])], [(122, some 12), (133, none), (134, none), (135, none), (136, none)])
def an_27 : ax_n := [(10813447, .inl ([(.inl (1, false), [(.ofNat 0, .ofNat 16)]), (.inr (122, 12), [(.ofNat 0, .ofNat 16)])], [(122, some 12)], [(1, 0, .ofNat 1, .ofNat 1, .ofNat 0)], 0, true))]
set_option maxRecDepth 1000000 in
theorem go_27 : ax_go an_27 [ct_26] 4000 ct_27 = true := by decide +kernel
theorem mt_27 : ax_Met ct_27 := ax_go_ok (ax_M1 ax_M0 (mt_26)) go_27
/-- yX11_tieHeights -/
def ct_28 : ax_c := (152, 3, [.inr [0]], [], [(none, [])], [(29, some 1), (29, some 2), (30, none), (32, none), (33, none), (34, none), (35, none), (36, none), (37, none), (38, none), (39, none)])
def an_28 : ax_n := [(5439500, .inl ([(.inl (2, false), [(.ofNat 0, .ofNat 8)])], [], [], 0, true)), (5570576, .inl ([(.inl (5, false), [(.ofNat 0, .ofNat 8)])], [(30, none)], [], 0, true)), (9961488, .inl ([(.inl (1, false), [(.ofNat 0, .ofNat 16)])], [], [], 0, true)), (17039366, .inl ([(.inl (3, false), [(.ofNat 0, .ofNat 9)])], [], [], 0, true))]
set_option maxRecDepth 1000000 in
theorem go_28 : ax_go an_28 [] 4000 ct_28 = true := by decide +kernel
theorem mt_28 : ax_Met ct_28 := ax_go_ok ax_M0 go_28
/-- yX10_solve -/
def ct_29 : ax_c := (88, 2, [.inr [29]], [], [(none, [])], [(29, some 1), (32, none), (33, none), (34, none), (35, none), (36, none), (37, none), (38, none), (39, none)])
def an_29 : ax_n := [(5767176, .inl ([(.inl (1, true), [(.negSucc 9223372036854775807, .ofNat 9223372036854775807)]), (.inl (3, false), [(.ofNat 0, .ofNat 8)])], [], [], 1, true)), (5767211, .inl ([(.inl (6, false), [(.ofNat 0, .ofNat 8)])], [], [], 0, true)), (5832706, .inl ([(.inl (1, false), [(.ofNat 0, .ofNat 8)])], [], [], 0, true)), (5898270, .inl ([(.inl (9, false), [(.ofNat 0, .ofNat 9)])], [], [], 0, true)), (17039366, .inl ([(.inl (3, false), [(.ofNat 0, .ofNat 9)])], [], [], 0, true))]
set_option maxRecDepth 1000000 in
theorem go_29 : ax_go an_29 [] 4000 ct_29 = true := by decide +kernel
theorem mt_29 : ax_Met ct_29 := ax_go_ok ax_M0 go_29
/-- yX10_inLowestTerms -/
def ct_30 : ax_c := (91, 1, [.inr [29], .inl (true, [(.negSucc 9223372036854775807, .ofNat 9223372036854775807)]), .inl (false, [(.ofNat 0, .ofNat 1)])], [], [(some (true, [(.negSucc 9223372036854775807, .ofNat 9223372036854775807)]), [])], [])
def an_30 : ax_n := [(6029315, .inl ([(.inl (0, true), [(.negSucc 9223372036854775807, .ofNat 9223372036854775807)]), (.inl (2, true), [(.negSucc 9223372036854775807, .ofNat 9223372036854775807)]), (.inl (4, false), [(.ofNat 0, .ofNat 128)])], [], [], 2, true))]
set_option maxRecDepth 1000000 in
theorem go_30 : ax_go an_30 [] 4000 ct_30 = true := by decide +kernel
theorem mt_30 : ax_Met ct_30 := ax_go_ok ax_M0 go_30
/-- yX11_solveHeights -/
def ct_31 : ax_c := (153, 4, [.inr [0]], [], [(none, [])], [(29, some 1), (29, some 2), (30, none), (32, none), (33, none), (34, none), (35, none), (36, none), (37, none), (38, none), (39, none)])
def an_31 : ax_n := []
set_option maxRecDepth 1000000 in
theorem go_31 : ax_go an_31 [ct_28, ct_29] 4000 ct_31 = true := by decide +kernel
theorem mt_31 : ax_Met ct_31 := ax_go_ok (ax_M1 (ax_M1 ax_M0 (mt_29)) (mt_28)) go_31
/-- yX11_solveOffsets -/
def ct_32 : ax_c := (154, 3, [.inr [0]], [], [(none, [])], [(29, some 1), (29, some 2), (30, none), (32, none), (33, none), (34, none), (35, none), (36, none), (37, none), (38, none), (39, none)])
def an_32 : ax_n := [(5439500, .inl ([(.inl (2, false), [(.ofNat 0, .ofNat 4)])], [], [], 0, true)), (5570576, .inl ([(.inl (5, false), [(.ofNat 0, .ofNat 4)])], [(30, none)], [], 0, true)), (10092554, .inl ([(.inl (1, false), [(.ofNat 0, .ofNat 12)])], [], [], 0, true)), (17039366, .inl ([(.inl (3, false), [(.ofNat 0, .ofNat 9)])], [], [], 0, true))]
set_option maxRecDepth 1000000 in
theorem go_32 : ax_go an_32 [ct_29] 4000 ct_32 = true := by decide +kernel
theorem mt_32 : ax_Met ct_32 := ax_go_ok (ax_M1 ax_M0 (mt_29)) go_32
/-- yX12_scoreOf -/
def ct_33 : ax_c := (196, 1, [.inr [122], .inl (false, [(.ofNat 0, .ofNat 1)]), .inl (false, [(.ofNat 0, .ofNat 9)]), .inl (false, [(.ofNat 0, .ofNat 2000000)])], [], [(some (false, [(.negSucc 2147483647, .ofNat 2147483647)]), [])], [])
def an_33 : ax_n := [(12845062, .inl ([(.inl (4, false), [(.negSucc 2147483647, .ofNat 2147483647)]), (.inl (5, false), [(.ofNat 0, .ofNat 16)])], [], [], 1, true)), (12845077, .inl ([(.inl (6, false), [(.ofNat 0, .ofNat 1)]), (.inl (7, false), [(.ofNat 0, .ofNat 8)])], [], [], 1, true))]
set_option maxRecDepth 1000000 in
theorem go_33 : ax_go an_33 [ct_16, ct_18] 4000 ct_33 = true := by decide +kernel
theorem mt_33 : ax_Met ct_33 := ax_go_ok (ax_M1 (ax_M1 ax_M0 (mt_18)) (mt_16)) go_33
/-- yX12_isForetold -/
def ct_34 : ax_c := (200, 2, [.inr [122], .inl (false, [(.ofNat 0, .ofNat 7)]), .inl (false, [(.ofNat 0, .ofNat 7)])], [], [(some (false, [(.ofNat 0, .ofNat 1)]), [])], [])
def an_34 : ax_n := [(13107233, .inl ([(.inl (3, false), [(.ofNat 0, .ofNat 1)]), (.inl (4, false), [(.ofNat 0, .ofNat 16)])], [], [], 1, true))]
set_option maxRecDepth 1000000 in
theorem go_34 : ax_go an_34 [ct_17] 4000 ct_34 = true := by decide +kernel
theorem mt_34 : ax_Met ct_34 := ax_go_ok (ax_M1 ax_M0 (mt_17)) go_34
/-- yX12_toldOf -/
def ct_35 : ax_c := (204, 3, [.inr [122], .inl (false, [(.ofNat 0, .ofNat 63)]), .inl (false, [(.ofNat 0, .ofNat 3)])], [], [(some (false, [(.negSucc 2147483647, .ofNat 2147483647)]), [])], [])
def an_35 : ax_n := [(13369349, .inl ([(.inl (3, false), [(.negSucc 2147483647, .ofNat 2147483647)]), (.inl (4, false), [(.ofNat 0, .ofNat 16)])], [], [], 1, true))]
set_option maxRecDepth 1000000 in
theorem go_35 : ax_go an_35 [ct_19] 4000 ct_35 = true := by decide +kernel
theorem mt_35 : ax_Met ct_35 := ax_go_ok (ax_M1 ax_M0 (mt_19)) go_35
/-- yX12_layNet -/
def ct_36 : ax_c := (182, 1, [.inr [122], .inl (false, [(.negSucc 2147483647, .ofNat 2147483647)])], [], [(some (false, [(.ofNat 0, .ofNat 1)]), [])], [(137, none)])
def an_36 : ax_n := [(11927554, .inl ([(.inl (2, false), [(.ofNat 0, .ofNat 64)])], [], [], 0, true)), (11927587, .inl ([(.inl (2, false), [(.ofNat 0, .ofNat 16)])], [], [], 0, true)), (11927677, .inl ([(.inl (2, false), [(.ofNat 0, .ofNat 8)])], [], [], 0, true)), (11927687, .inl ([(.inl (3, false), [(.ofNat 0, .ofNat 8)])], [], [], 0, true)), (11927698, .inl ([(.inl (4, false), [(.ofNat 0, .ofNat 8)])], [], [], 0, true)), (11927809, .inl ([(.inl (2, false), [(.ofNat 0, .ofNat 1)]), (.inl (3, false), [(.ofNat 0, .ofNat 8)])], [], [], 1, true))]
set_option maxRecDepth 1000000 in
theorem go_36 : ax_go an_36 [] 4000 ct_36 = true := by decide +kernel
theorem mt_36 : ax_Met ct_36 := ax_go_ok ax_M0 go_36
/-- yX12_sizeOf -/
def ct_37 : ax_c := (185, 0, [.inl (false, [(.negSucc 2147483647, .ofNat 2147483647)])], [], [(some (false, [(.negSucc 2147483647, .ofNat 2147483647)]), [])], [])
def an_37 : ax_n := [(12124164, .inl ([(.inl (1, false), [(.negSucc 2147483647, .ofNat 2147483647)]), (.inl (2, false), [(.ofNat 0, .ofNat 16)])], [], [], 1, true))]
set_option maxRecDepth 1000000 in
theorem go_37 : ax_go an_37 [] 4000 ct_37 = true := by decide +kernel
theorem mt_37 : ax_Met ct_37 := ax_go_ok ax_M0 go_37
/-- yX12_givenMany -/
def ct_38 : ax_c := (184, 1, [.inr [122]], [], [(some (false, [(.negSucc 2147483647, .ofNat 2147483647)]), [])], [])
def an_38 : ax_n := [(12058628, .inl ([(.inl (1, false), [(.negSucc 2147483647, .ofNat 2147483647)]), (.inl (2, false), [(.ofNat 0, .ofNat 16)])], [], [], 1, true))]
set_option maxRecDepth 1000000 in
theorem go_38 : ax_go an_38 [] 4000 ct_38 = true := by decide +kernel
theorem mt_38 : ax_Met ct_38 := ax_go_ok ax_M0 go_38
/-- yX6_findPartners -/
def ct_39 : ax_c := (51, 2, [.inr [40], .inr [1], .inl (false, [(.ofNat 0, .ofNat 1)]), .inl (false, [(.ofNat 0, .ofNat 9)])], [], [(none, [])], [(40, some 1), (41, none)])
def an_39 : ax_n := [(3342344, .inl ([(.inl (4, false), [(.ofNat 0, .ofNat 8)]), (.inr (40, 1), [(.ofNat 0, .ofNat 8)])], [(40, some 1)], [(1, 0, .ofNat 1, .ofNat 1, .ofNat 0)], 0, true))]
set_option maxRecDepth 1000000 in
theorem go_39 : ax_go an_39 [ct_13] 4000 ct_39 = true := by decide +kernel
theorem mt_39 : ax_Met ct_39 := ax_go_ok (ax_M1 ax_M0 (mt_13)) go_39
/-- yX6_scoreAt -/
def ct_40 : ax_c := (52, 3, [.inr [40], .inr [6], .inl (false, [(.ofNat 0, .ofNat 2000000)])], [], [(some (false, [(.negSucc 2147483647, .ofNat 2147483647)]), [])], [])
def an_40 : ax_n := [(3407877, .inl ([(.inl (3, false), [(.negSucc 2147483647, .ofNat 2147483647)]), (.inl (4, false), [(.ofNat 0, .ofNat 16)])], [], [], 1, true)), (3473411, .inl ([(.inl (4, false), [(.ofNat 0, .ofNat 8)])], [], [], 0, true))]
set_option maxRecDepth 1000000 in
theorem go_40 : ax_go an_40 [ct_15] 4000 ct_40 = true := by decide +kernel
theorem mt_40 : ax_Met ct_40 := ax_go_ok (ax_M1 ax_M0 (mt_15)) go_40
/-- yX6_foresee -/
def ct_41 : ax_c := (57, 3, [.inr [40], .inr [1], .inr [6]], [], [(none, [])], [(40, some 4), (42, none), (43, none), (44, none)])
def an_41 : ax_n := [(2621442, .inl ([(.inl (3, false), [(.ofNat 0, .ofNat 16)])], [], [], 0, true)), (3735559, .inl ([(.inl (3, false), [(.ofNat 0, .ofNat 8)])], [(40, some 4)], [], 0, true)), (3735570, .inl ([(.inl (4, false), [(.ofNat 0, .ofNat 8)])], [(40, some 4)], [], 0, true)), (3801104, .inl ([(.inl (4, false), [(.ofNat 0, .ofNat 27)])], [], [], 0, false))]
set_option maxRecDepth 1000000 in
theorem go_41 : ax_go an_41 [ct_14] 4000 ct_41 = true := by decide +kernel
theorem mt_41 : ax_Met ct_41 := ax_go_ok (ax_M1 ax_M0 (mt_14)) go_41
/-- yX5_canClose -/
def ct_42 : ax_c := (42, 2, [.inr [13], .inr [6]], [], [(some (false, [(.ofNat 0, .ofNat 1)]), [])], [(15, none)])
def an_42 : ax_n := [(2752518, .inl ([(.inl (2, false), [(.ofNat 0, .ofNat 16)])], [], [], 0, true)), (3014669, .inl ([(.inl (1, false), [(.ofNat 0, .ofNat 8)])], [], [], 0, true)), (3211280, .inl ([(.inl (4, false), [(.ofNat 0, .ofNat 8)])], [(15, none)], [], 0, true)), (3211308, .inl ([(.inl (6, false), [(.ofNat 0, .ofNat 8)])], [(15, none)], [], 0, true)), (17104901, .inl ([(.inl (2, false), [(.ofNat 0, .ofNat 64)])], [], [], 0, true))]
set_option maxRecDepth 1000000 in
theorem go_42 : ax_go an_42 [] 4000 ct_42 = true := by decide +kernel
theorem mt_42 : ax_Met ct_42 := ax_go_ok ax_M0 go_42
/-- yX1_merge -/
def ct_43 : ax_c := (7, 1, [.inr [64], .inl (false, [(.negSucc 2147483647, .ofNat 2147483647)]), .inl (false, [(.ofNat 0, .ofNat 1)]), .inl (false, [(.negSucc 2147483647, .ofNat 2147483647)])], [(64, 0, [(.ofNat 0, .ofNat 30)])], [(none, [])], [(64, some 0), (65, none), (66, none), (67, none)])
def an_43 : ax_n := [(458760, .inl ([(.inl (4, false), [(.ofNat 0, .ofNat 30)]), (.inr (64, 0), [(.ofNat 0, .ofNat 30)])], [(64, some 0)], [(0, 1, .ofNat 1, .ofNat 1, .ofNat 0)], 0, true)), (458845, .inl ([(.inl (5, false), [(.ofNat 0, .ofNat 29)])], [(65, none), (66, none)], [], 0, false))]
set_option maxRecDepth 1000000 in
theorem go_43 : ax_go an_43 [] 4000 ct_43 = true := by decide +kernel
theorem mt_43 : ax_Met ct_43 := ax_go_ok ax_M0 go_43
/-- yX1_build -/
def ct_44 : ax_c := (5, 2, [.inr [64], .inr [1], .inl (false, [(.ofNat 0, .ofNat 7)]), .inl (false, [(.ofNat 0, .ofNat 7)])], [], [(none, [])], [(64, some 0), (65, none), (66, none), (67, none)])
def an_44 : ax_n := [(327706, .inl ([(.inl (6, false), [(.negSucc 8, .ofNat 11)])], [(64, some 0)], [], 0, true)), (327719, .inl ([(.inl (7, false), [(.negSucc 10, .ofNat 13)])], [(64, some 0)], [], 0, true))]
set_option maxRecDepth 1000000 in
theorem go_44 : ax_go an_44 [ct_43] 4000 ct_44 = true := by decide +kernel
theorem mt_44 : ax_Met ct_44 := ax_go_ok (ax_M1 ax_M0 (mt_43)) go_44
/-- yX1_isLike -/
def ct_45 : ax_c := (11, 1, [.inr [64], .inr [114, 116, 118, 120], .inl (false, [(.negSucc 2147483647, .ofNat 2147483647)]), .inl (false, [(.ofNat 1, .ofNat 20)]), .inl (false, [(.ofNat 0, .ofNat 1000)])], [], [(some (false, [(.ofNat 0, .ofNat 1)]), [])], [])
def an_45 : ax_n := [(720904, .inr 3), (720918, .inl ([(.inl (5, false), [(.ofNat 0, .ofNat 20)])], [], [], 0, true))]
set_option maxRecDepth 1000000 in
theorem go_45 : ax_go an_45 [] 4000 ct_45 = true := by decide +kernel
theorem mt_45 : ax_Met ct_45 := ax_go_ok ax_M0 go_45
/-- yX12_comes -/
def ct_46 : ax_c := (230, 0, [.inr [122], .inl (false, [(.negSucc 2147483647, .ofNat 2147483647)]), .inl (false, [(.ofNat 0, .ofNat 1)]), .inl (false, [(.negSucc 2147483647, .ofNat 2147483647)])], [(122, 43, [(.ofNat 0, .ofNat 0)])], [(none, [(122, 43, [(.ofNat 1, .ofNat 1)])])], [(122, some 43), (149, none), (150, none), (151, none)])
def an_46 : ax_n := [(15073283, .inl ([(.inl (4, false), [(.ofNat 0, .ofNat 0)]), (.inr (122, 43), [(.ofNat 0, .ofNat 0)])], [(122, some 43)], [(0, 1, .ofNat 1, .ofNat 1, .ofNat 0)], 0, true)), (15073380, .inl ([(.inl (5, false), [(.ofNat 0, .ofNat 0)])], [], [], 0, true))]
set_option maxRecDepth 1000000 in
theorem go_46 : ax_go an_46 [] 4000 ct_46 = true := by decide +kernel
theorem mt_46 : ax_Met ct_46 := ax_go_ok ax_M0 go_46
