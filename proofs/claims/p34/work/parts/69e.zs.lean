/-! ===== shells, by its contract ===== -/
/-- yX11_shells -/
def ct_300 : ax_c := (119, 12, [.inr [0]], [], [(some (false, [(.negSucc 2147483647, .ofNat 2147483647)]), [(45, 0, [(.ofNat 0, .ofNat 0)])])], [(45, some 0), (45, some 2), (45, some 6), (45, some 7), (45, some 8), (45, some 9), (45, some 10), (45, some 11), (45, some 12), (47, none), (48, none), (49, none), (50, some 0), (50, some 1), (50, some 7), (50, some 8), (51, none), (52, none), (54, none), (55, none), (56, none), (57, none), (58, none), (59, none), (60, none), (61, none), (62, none), (63, none)])
def an_300 : ax_n := [(17039366, .inl ([(.inl (3, false), [(.ofNat 0, .ofNat 2025)])], [], [], 0, true))]
set_option maxRecDepth 1000000 in
theorem go_300 : ax_go an_300 [ct_90, ct_99, ct_95, ct_96, ct_97, ct_98] 4000 ct_300 = true := by decide +kernel
set_option maxRecDepth 100000 in
theorem mt_300 (H : hd_all) : ax_Met ct_300 := ax_go_ok (ax_M1 (ax_M1 (ax_M1 (ax_M1 (ax_M1 (ax_M1 ax_M0 (mt_98)) (mt_97)) (mt_96)) (mt_95)) (mt_99)) (mt_90 H)) go_300
/-- yX12_shells -/
def ct_301 : ax_c := (214, 4, [.inr [122]], [], [(some (false, [(.negSucc 2147483647, .ofNat 2147483647)]), [(122, 26, [(.ofNat 0, .ofNat 0)])])], [(122, some 26), (122, some 27), (122, some 28), (122, some 29), (122, some 30), (122, some 31), (122, some 32), (122, some 33), (122, some 34), (122, some 38), (142, none), (143, none), (144, none), (145, none), (146, none), (147, none)])
def an_301 : ax_n := [(13959172, .inl ([(.inl (1, false), [(.negSucc 2147483647, .ofNat 2147483647)]), (.inl (2, false), [(.ofNat 0, .ofNat 4)])], [], [], 1, true)), (14024789, .inl ([(.inl (1, false), [(.ofNat 0, .ofNat 4)])], [], [], 0, true))]
set_option maxRecDepth 1000000 in
theorem go_301 : ax_go an_301 [ct_100, ct_102, ct_103, ct_104, ct_105, ct_106] 4000 ct_301 = true := by decide +kernel
set_option maxRecDepth 100000 in
theorem mt_301 : ax_Met ct_301 := ax_go_ok (ax_M1 (ax_M1 (ax_M1 (ax_M1 (ax_M1 (ax_M1 ax_M0 (mt_106)) (mt_105)) (mt_104)) (mt_103)) (mt_102)) (mt_100)) go_301
set_option maxRecDepth 100000 in
theorem zs_i {W : List (Nat × Option Nat)} {S S' : am_S} {v : Option Value} {s : ax_s} {c k : Nat} {r : Int} (h : ax_Q [(some (false, s), [(c, k, [(r, r)])])] W S (v, S')) : ∃ z : Int32, v = some (.int z) ∧ ax_P0 none S' ∧ ax_fm W S S' ∧ rd S' c k = r := by
  obtain ⟨hP, hf, a, ha, hans, hfl⟩ := h
  have ha : a = (some (false, s), [(c, k, [(r, r)])]) := by simpa using ha
  subst ha
  obtain ⟨w, hw, z, rfl, hz⟩ := hans
  refine ⟨z, hw, hP, hf, ?_⟩
  obtain ⟨u, hu, hi⟩ := hfl _ List.mem_cons_self
  have := iv1 hi
  rw [rd_of hu]
  omega
def zs_cs : List Nat := [10, 132, 68, 69, 152, 153, 114, 115, 116, 117, 118, 119, 120, 121, 158, 159, 160, 3, 4, 5, 124, 125, 126]
set_option maxRecDepth 100000 in
theorem px_zs (H : hd_all) {S : am_S} (hP : ax_P0 none S) : am_V none 19 119 0 (lv_args 0 [.ref 0]) [] S (fun r => ∃ z : Int32, r.1 = some (.int z) ∧ ax_P0 none r.2 ∧ sx_P S r.2) := by
  refine am_Vq (mt_300 H 19 S [.ref 0] (by decide) hP ⟨⟨_, List.mem_cons_self, rfl⟩, trivial⟩ (fun q hq => absurd hq List.not_mem_nil)) ?_
  rintro ⟨w, S'⟩ hr
  obtain ⟨z, hv, h1, h2, h3⟩ := zs_i hr
  have hfree : rl_free1 zs_cs ([(6, 0), (0, 10), (122, 5), (122, 47), (1, 0), (122, 0), (122, 26)] : List (Nat × Nat)) ct_300.2.2.2.2.2 = true := by decide +kernel
  refine ⟨z, hv, h1, fun c i hc => ?_, rl_kf h2 hfree (p := (122, 26)) (by decide), h3⟩
  rcases hc with hc | hc
  · exact rl_d h2 hfree (by decide) (by decide) c i hc
  · exact rl_l h2 hfree (by decide) (by decide) c i hc
set_option maxRecDepth 100000 in
theorem pm_zs (H : hd_all) {S : am_S} (hP : ax_P0 none S) : am_V none 19 214 0 (lv_args 0 [.ref 122]) [] S (fun r => ∃ z : Int32, r.1 = some (.int z) ∧ ax_P0 none r.2 ∧ sm_P S r.2) := by
  refine am_Vq (mt_301 19 S [.ref 122] (by decide) hP ⟨⟨_, List.mem_cons_self, rfl⟩, trivial⟩ (fun q hq => absurd hq List.not_mem_nil)) ?_
  rintro ⟨w, S'⟩ hr
  obtain ⟨z, hv, h1, h2, h3⟩ := zs_i hr
  have hfree : rl_free1 zs_cs ([(6, 0), (0, 10), (122, 5), (122, 47), (1, 0), (122, 0), (45, 0)] : List (Nat × Nat)) ct_301.2.2.2.2.2 = true := by decide +kernel
  refine ⟨z, hv, h1, fun c i hc => ?_, rl_kf h2 hfree (p := (45, 0)) (by decide), h3⟩
  rcases hc with hc | hc
  · exact rl_d h2 hfree (by decide) (by decide) c i hc
  · exact rl_l h2 hfree (by decide) (by decide) c i hc
