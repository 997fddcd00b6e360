/-- yX2_fillShell -/
def ct_95 : ax_c := (14, 3, [.inr [50], .inl (false, [(.negSucc 0, .ofNat 99)]), .inl (false, [(.ofNat 0, .ofNat 12)])], [(50, 8, [(.ofNat 0, .ofNat 0)])], [(none, [(50, 8, [(.ofNat 0, .ofNat 12), (.ofNat 14, .ofNat 16), (.ofNat 18, .ofNat 18), (.ofNat 20, .ofNat 22), (.ofNat 24, .ofNat 24), (.ofNat 27, .ofNat 27), (.ofNat 30, .ofNat 30), (.ofNat 33, .ofNat 33), (.ofNat 36, .ofNat 36)])])], [(50, some 7), (50, some 8), (51, none), (52, none), (54, none), (55, none), (56, none), (57, none), (58, none), (59, none), (60, none), (61, none), (62, none)])
def an_95 : ax_n := [(917537, .inr 1), (917542, .inr 2), (17039366, .inl ([(.inl (3, false), [(.ofNat 0, .ofNat 2025)])], [], [], 0, true))]
set_option maxRecDepth 1000000 in
theorem go_95 : ax_go an_95 [ct_91, ct_92, ct_94] 4000 ct_95 = true := by decide +kernel
theorem mt_95 : ax_Met ct_95 := ax_go_ok (ax_M1 (ax_M1 (ax_M1 ax_M0 (mt_94)) (mt_92)) (mt_91)) go_95
