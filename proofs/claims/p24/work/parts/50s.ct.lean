/-- yX11_scan -/
def ct_212 : ax_c := (140, 2, [.inr [0], .inl (false, [(.ofNat 0, .ofNat 0)]), .inl (false, [(.negSucc 2147483647, .ofNat 2147483647)]), .inl (false, [(.negSucc 2147483647, .ofNat 2147483647)]), .inl (false, [(.negSucc 2147483647, .ofNat 2147483647)])], [], [(some (false, [(.negSucc 22, .negSucc 22), (.negSucc 20, .negSucc 20), (.negSucc 12, .negSucc 10), (.negSucc 0, .ofNat 16)]), [])], [(6, some 0), (7, none), (8, none), (9, none), (10, none), (11, none), (12, none)])
def an_212 : ax_n := [(9175068, .inr 1)]
set_option maxRecDepth 1000000 in
theorem go_212 : ax_go an_212 [ct_107, ct_108, ct_109, ct_110, ct_111, ct_112, ct_113, ct_114, ct_115, ct_116, ct_117, ct_118, ct_119, ct_120, ct_121, ct_122] 4000 ct_212 = true := by decide +kernel
theorem mt_212 : ax_Met ct_212 := ax_go_ok (ax_M1 (ax_M1 (ax_M1 (ax_M1 (ax_M1 (ax_M1 (ax_M1 (ax_M1 (ax_M1 (ax_M1 (ax_M1 (ax_M1 (ax_M1 (ax_M1 (ax_M1 (ax_M1 ax_M0 (mt_122)) (mt_121)) (mt_120)) (mt_119)) (mt_118)) (mt_117)) (mt_116)) (mt_115)) (mt_114)) (mt_113)) (mt_112)) (mt_111)) (mt_110)) (mt_109)) (mt_108)) (mt_107)) go_212
