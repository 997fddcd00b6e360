/-! ===== keep, by how many versions there are ===== -/
/-- yX11_keep -/
def ct_300 : ax_c := (134, 2, [.inr [0]], [(0, 12, [(.ofNat 0, .ofNat 0)])], [(some (false, [(.ofNat 0, .ofNat 0)]), [(0, 12, [(.ofNat 1, .ofNat 1)])])], [(0, some 12), (73, some 0), (73, some 1), (74, none), (75, none), (76, none), (77, some 0), (77, some 1), (78, none), (79, none), (80, none), (81, some 0), (81, some 1), (82, none), (83, none), (84, none), (85, some 0), (85, some 1), (86, none), (87, none), (88, none), (89, some 0), (89, some 1), (90, none), (91, none), (92, none), (93, some 0), (93, some 1), (94, none), (95, none), (96, none), (98, some 0), (98, some 1), (99, none), (100, none), (101, none), (102, some 0), (102, some 1), (103, none), (104, none), (105, none), (106, some 0), (106, some 1), (107, none), (108, none), (109, none), (110, some 0), (110, some 1), (111, none), (112, none), (113, none)])
def an_300 : ax_n := []
set_option maxRecDepth 1000000 in
theorem go_300 : ax_go an_300 [ct_0] 4000 ct_300 = true := by decide +kernel
theorem mt_300 (H : hd_all) : ax_Met ct_300 := ax_go_ok (ax_M1 ax_M0 (hm_0 H)) go_300
/-- yX11_keep -/
def ct_301 : ax_c := (134, 2, [.inr [0]], [(0, 12, [(.ofNat 1, .ofNat 1)])], [(some (false, [(.ofNat 1, .ofNat 1)]), [(0, 12, [(.ofNat 2, .ofNat 2)])])], [(0, some 12), (73, some 0), (73, some 1), (74, none), (75, none), (76, none), (77, some 0), (77, some 1), (78, none), (79, none), (80, none), (81, some 0), (81, some 1), (82, none), (83, none), (84, none), (85, some 0), (85, some 1), (86, none), (87, none), (88, none), (89, some 0), (89, some 1), (90, none), (91, none), (92, none), (93, some 0), (93, some 1), (94, none), (95, none), (96, none), (98, some 0), (98, some 1), (99, none), (100, none), (101, none), (102, some 0), (102, some 1), (103, none), (104, none), (105, none), (106, some 0), (106, some 1), (107, none), (108, none), (109, none), (110, some 0), (110, some 1), (111, none), (112, none), (113, none)])
def an_301 : ax_n := []
set_option maxRecDepth 1000000 in
theorem go_301 : ax_go an_301 [ct_0] 4000 ct_301 = true := by decide +kernel
theorem mt_301 (H : hd_all) : ax_Met ct_301 := ax_go_ok (ax_M1 ax_M0 (hm_0 H)) go_301
/-- yX11_keep -/
def ct_302 : ax_c := (134, 2, [.inr [0]], [(0, 12, [(.ofNat 2, .ofNat 2)])], [(some (false, [(.ofNat 2, .ofNat 2)]), [(0, 12, [(.ofNat 3, .ofNat 3)])])], [(0, some 12), (73, some 0), (73, some 1), (74, none), (75, none), (76, none), (77, some 0), (77, some 1), (78, none), (79, none), (80, none), (81, some 0), (81, some 1), (82, none), (83, none), (84, none), (85, some 0), (85, some 1), (86, none), (87, none), (88, none), (89, some 0), (89, some 1), (90, none), (91, none), (92, none), (93, some 0), (93, some 1), (94, none), (95, none), (96, none), (98, some 0), (98, some 1), (99, none), (100, none), (101, none), (102, some 0), (102, some 1), (103, none), (104, none), (105, none), (106, some 0), (106, some 1), (107, none), (108, none), (109, none), (110, some 0), (110, some 1), (111, none), (112, none), (113, none)])
def an_302 : ax_n := []
set_option maxRecDepth 1000000 in
theorem go_302 : ax_go an_302 [ct_0] 4000 ct_302 = true := by decide +kernel
theorem mt_302 (H : hd_all) : ax_Met ct_302 := ax_go_ok (ax_M1 ax_M0 (hm_0 H)) go_302
/-- yX11_keep -/
def ct_303 : ax_c := (134, 2, [.inr [0]], [(0, 12, [(.ofNat 3, .ofNat 3)])], [(some (false, [(.ofNat 3, .ofNat 3)]), [(0, 12, [(.ofNat 4, .ofNat 4)])])], [(0, some 12), (73, some 0), (73, some 1), (74, none), (75, none), (76, none), (77, some 0), (77, some 1), (78, none), (79, none), (80, none), (81, some 0), (81, some 1), (82, none), (83, none), (84, none), (85, some 0), (85, some 1), (86, none), (87, none), (88, none), (89, some 0), (89, some 1), (90, none), (91, none), (92, none), (93, some 0), (93, some 1), (94, none), (95, none), (96, none), (98, some 0), (98, some 1), (99, none), (100, none), (101, none), (102, some 0), (102, some 1), (103, none), (104, none), (105, none), (106, some 0), (106, some 1), (107, none), (108, none), (109, none), (110, some 0), (110, some 1), (111, none), (112, none), (113, none)])
def an_303 : ax_n := []
set_option maxRecDepth 1000000 in
theorem go_303 : ax_go an_303 [ct_0] 4000 ct_303 = true := by decide +kernel
theorem mt_303 (H : hd_all) : ax_Met ct_303 := ax_go_ok (ax_M1 ax_M0 (hm_0 H)) go_303
/-- yX11_keep -/
def ct_304 : ax_c := (134, 0, [.inr [0]], [(0, 12, [(.ofNat 4, .ofNat 4)])], [(some (false, [(.negSucc 2, .negSucc 2)]), [(0, 12, [(.ofNat 4, .ofNat 4)])])], [])
def an_304 : ax_n := []
set_option maxRecDepth 1000000 in
theorem go_304 : ax_go an_304 [] 4000 ct_304 = true := by decide +kernel
theorem mt_304 : ax_Met ct_304 := ax_go_ok ax_M0 go_304
/-- yX12_keep -/
def ct_305 : ax_c := (244, 1, [.inr [122]], [(122, 52, [(.ofNat 0, .ofNat 0)])], [(some (false, [(.ofNat 0, .ofNat 0)]), [(122, 52, [(.ofNat 1, .ofNat 1)])])], [(122, some 52), (156, none)])
def an_305 : ax_n := [(15990795, .inr 222052)]
set_option maxRecDepth 1000000 in
theorem go_305 : ax_go an_305 [ct_4] 4000 ct_305 = true := by decide +kernel
theorem mt_305 (H : hd_all) : ax_Met ct_305 := ax_go_ok (ax_M1 ax_M0 (hm_4 H)) go_305
/-- yX12_keep -/
def ct_306 : ax_c := (244, 1, [.inr [122]], [(122, 52, [(.ofNat 1, .ofNat 1)])], [(some (false, [(.ofNat 1, .ofNat 1)]), [(122, 52, [(.ofNat 2, .ofNat 2)])])], [(122, some 52), (156, none)])
def an_306 : ax_n := [(15990795, .inr 222052)]
set_option maxRecDepth 1000000 in
theorem go_306 : ax_go an_306 [ct_4] 4000 ct_306 = true := by decide +kernel
theorem mt_306 (H : hd_all) : ax_Met ct_306 := ax_go_ok (ax_M1 ax_M0 (hm_4 H)) go_306
/-- yX12_keep -/
def ct_307 : ax_c := (244, 1, [.inr [122]], [(122, 52, [(.ofNat 2, .ofNat 2)])], [(some (false, [(.ofNat 2, .ofNat 2)]), [(122, 52, [(.ofNat 3, .ofNat 3)])])], [(122, some 52), (156, none)])
def an_307 : ax_n := [(15990795, .inr 222052)]
set_option maxRecDepth 1000000 in
theorem go_307 : ax_go an_307 [ct_4] 4000 ct_307 = true := by decide +kernel
theorem mt_307 (H : hd_all) : ax_Met ct_307 := ax_go_ok (ax_M1 ax_M0 (hm_4 H)) go_307
/-- yX12_keep -/
def ct_308 : ax_c := (244, 1, [.inr [122]], [(122, 52, [(.ofNat 3, .ofNat 3)])], [(some (false, [(.ofNat 3, .ofNat 3)]), [(122, 52, [(.ofNat 4, .ofNat 4)])])], [(122, some 52), (156, none)])
def an_308 : ax_n := [(15990795, .inr 222052)]
set_option maxRecDepth 1000000 in
theorem go_308 : ax_go an_308 [ct_4] 4000 ct_308 = true := by decide +kernel
theorem mt_308 (H : hd_all) : ax_Met ct_308 := ax_go_ok (ax_M1 ax_M0 (hm_4 H)) go_308
/-- yX12_keep -/
def ct_309 : ax_c := (244, 0, [.inr [122]], [(122, 52, [(.ofNat 4, .ofNat 4)])], [(some (false, [(.negSucc 2, .negSucc 2)]), [(122, 52, [(.ofNat 4, .ofNat 4)])])], [])
def an_309 : ax_n := []
set_option maxRecDepth 1000000 in
theorem go_309 : ax_go an_309 [] 4000 ct_309 = true := by decide +kernel
theorem mt_309 : ax_Met ct_309 := ax_go_ok ax_M0 go_309
