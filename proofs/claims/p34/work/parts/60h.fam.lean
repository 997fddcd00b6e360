/-- yX12_fitAt -/
def ct_229 : ax_c := (176, 0, [.inr [122], .inl (false, [(.ofNat 0, .ofNat 15)]), .inl (false, [(.ofNat 0, .ofNat 0)])], [(122, 0, [(.ofNat 0, .ofNat 0)])], [(some (false, [(.negSucc 3, .negSucc 3)]), [])], [])
def an_229 : ax_n := []
set_option maxRecDepth 1000000 in
theorem go_229 : ax_go an_229 [] 4000 ct_229 = true := by decide +kernel
set_option maxRecDepth 100000 in
theorem mt_229 : ax_Met ct_229 := ax_go_ok ax_M0 go_229
/-- yX12_fitAt -/
def ct_230 : ax_c := (176, 3, [.inr [122], .inl (false, [(.ofNat 0, .ofNat 15)]), .inl (false, [(.ofNat 0, .ofNat 0)])], [(122, 0, [(.ofNat 1, .ofNat 1)])], [(some (false, [(.negSucc 3, .negSucc 3), (.ofNat 0, .ofNat 0)]), [])], [])
def an_230 : ax_n := []
set_option maxRecDepth 1000000 in
theorem go_230 : ax_go an_230 [ct_19] 4000 ct_230 = true := by decide +kernel
set_option maxRecDepth 100000 in
theorem mt_230 : ax_Met ct_230 := ax_go_ok (ax_M1 ax_M0 (mt_19)) go_230
/-- yX12_fitAt -/
def ct_231 : ax_c := (176, 3, [.inr [122], .inl (false, [(.ofNat 0, .ofNat 15)]), .inl (false, [(.ofNat 0, .ofNat 0)])], [(122, 0, [(.ofNat 2, .ofNat 2)])], [(some (false, [(.negSucc 3, .negSucc 3), (.ofNat 0, .ofNat 1), (.ofNat 8, .ofNat 9)]), [])], [])
def an_231 : ax_n := []
set_option maxRecDepth 1000000 in
theorem go_231 : ax_go an_231 [ct_19] 4000 ct_231 = true := by decide +kernel
set_option maxRecDepth 100000 in
theorem mt_231 : ax_Met ct_231 := ax_go_ok (ax_M1 ax_M0 (mt_19)) go_231
/-- yX12_fitAt -/
def ct_232 : ax_c := (176, 3, [.inr [122], .inl (false, [(.ofNat 0, .ofNat 15)]), .inl (false, [(.ofNat 0, .ofNat 0)])], [(122, 0, [(.ofNat 3, .ofNat 3)])], [(some (false, [(.negSucc 3, .negSucc 3), (.ofNat 0, .ofNat 2), (.ofNat 8, .ofNat 10), (.ofNat 16, .ofNat 18)]), [])], [])
def an_232 : ax_n := []
set_option maxRecDepth 1000000 in
theorem go_232 : ax_go an_232 [ct_19] 4000 ct_232 = true := by decide +kernel
set_option maxRecDepth 100000 in
theorem mt_232 : ax_Met ct_232 := ax_go_ok (ax_M1 ax_M0 (mt_19)) go_232
/-- yX12_fitAt -/
def ct_233 : ax_c := (176, 3, [.inr [122], .inl (false, [(.ofNat 0, .ofNat 15)]), .inl (false, [(.ofNat 0, .ofNat 0)])], [(122, 0, [(.ofNat 4, .ofNat 4)])], [(some (false, [(.negSucc 3, .negSucc 3), (.ofNat 0, .ofNat 3), (.ofNat 8, .ofNat 11), (.ofNat 16, .ofNat 19), (.ofNat 24, .ofNat 27)]), [])], [])
def an_233 : ax_n := []
set_option maxRecDepth 1000000 in
theorem go_233 : ax_go an_233 [ct_19] 4000 ct_233 = true := by decide +kernel
set_option maxRecDepth 100000 in
theorem mt_233 : ax_Met ct_233 := ax_go_ok (ax_M1 ax_M0 (mt_19)) go_233
/-- yX12_fitAt -/
def ct_234 : ax_c := (176, 3, [.inr [122], .inl (false, [(.ofNat 0, .ofNat 15)]), .inl (false, [(.ofNat 0, .ofNat 0)])], [(122, 0, [(.ofNat 5, .ofNat 5)])], [(some (false, [(.negSucc 3, .negSucc 3), (.ofNat 0, .ofNat 4), (.ofNat 8, .ofNat 12), (.ofNat 16, .ofNat 20), (.ofNat 24, .ofNat 28), (.ofNat 32, .ofNat 36)]), [])], [])
def an_234 : ax_n := []
set_option maxRecDepth 1000000 in
theorem go_234 : ax_go an_234 [ct_19] 4000 ct_234 = true := by decide +kernel
set_option maxRecDepth 100000 in
theorem mt_234 : ax_Met ct_234 := ax_go_ok (ax_M1 ax_M0 (mt_19)) go_234
/-- yX12_fitAt -/
def ct_235 : ax_c := (176, 3, [.inr [122], .inl (false, [(.ofNat 0, .ofNat 15)]), .inl (false, [(.ofNat 0, .ofNat 0)])], [(122, 0, [(.ofNat 6, .ofNat 6)])], [(some (false, [(.negSucc 3, .negSucc 3), (.ofNat 0, .ofNat 5), (.ofNat 8, .ofNat 13), (.ofNat 16, .ofNat 21), (.ofNat 24, .ofNat 29), (.ofNat 32, .ofNat 37), (.ofNat 40, .ofNat 45)]), [])], [])
def an_235 : ax_n := []
set_option maxRecDepth 1000000 in
theorem go_235 : ax_go an_235 [ct_19] 4000 ct_235 = true := by decide +kernel
set_option maxRecDepth 100000 in
theorem mt_235 : ax_Met ct_235 := ax_go_ok (ax_M1 ax_M0 (mt_19)) go_235
/-- yX12_fitAt -/
def ct_236 : ax_c := (176, 3, [.inr [122], .inl (false, [(.ofNat 0, .ofNat 15)]), .inl (false, [(.ofNat 0, .ofNat 0)])], [(122, 0, [(.ofNat 7, .ofNat 7)])], [(some (false, [(.negSucc 3, .negSucc 3), (.ofNat 0, .ofNat 6), (.ofNat 8, .ofNat 14), (.ofNat 16, .ofNat 22), (.ofNat 24, .ofNat 30), (.ofNat 32, .ofNat 38), (.ofNat 40, .ofNat 46), (.ofNat 48, .ofNat 54)]), [])], [])
def an_236 : ax_n := []
set_option maxRecDepth 1000000 in
theorem go_236 : ax_go an_236 [ct_19] 4000 ct_236 = true := by decide +kernel
set_option maxRecDepth 100000 in
theorem mt_236 : ax_Met ct_236 := ax_go_ok (ax_M1 ax_M0 (mt_19)) go_236
/-- yX12_fitAt -/
def ct_237 : ax_c := (176, 3, [.inr [122], .inl (false, [(.ofNat 0, .ofNat 15)]), .inl (false, [(.ofNat 0, .ofNat 0)])], [(122, 0, [(.ofNat 8, .ofNat 8)])], [(some (false, [(.negSucc 3, .negSucc 3), (.ofNat 0, .ofNat 63)]), [])], [])
def an_237 : ax_n := []
set_option maxRecDepth 1000000 in
theorem go_237 : ax_go an_237 [ct_19] 4000 ct_237 = true := by decide +kernel
set_option maxRecDepth 100000 in
theorem mt_237 : ax_Met ct_237 := ax_go_ok (ax_M1 ax_M0 (mt_19)) go_237
/-- yX12_isGiven -/
def ct_238 : ax_c := (162, 0, [.inr [122], .inl (false, [(.ofNat 0, .ofNat 15)])], [], [(some (false, [(.ofNat 0, .ofNat 1)]), [])], [])
def an_238 : ax_n := []
set_option maxRecDepth 1000000 in
theorem go_238 : ax_go an_238 [] 4000 ct_238 = true := by decide +kernel
set_option maxRecDepth 100000 in
theorem mt_238 : ax_Met ct_238 := ax_go_ok ax_M0 go_238
set_option maxRecDepth 100000 in
/-- fitAt(n, 0) where levels are b -/
theorem fa_met (b : Nat) (h : b ≤ 8) : ∃ k s, k ≤ 3 ∧ ax_Met (176, k, [.inr [122], .inl (false, [(.ofNat 0, .ofNat 15)]), .inl (false, [(.ofNat 0, .ofNat 0)])], [(122, 0, [(.ofNat b, .ofNat b)])], [(some (false, s), [])], []) ∧ ∀ t, ax_in t s → t = -4 ∨ (0 ≤ t ∧ t < 64 ∧ t / 8 < b ∧ t % 8 < b) :=
  match b, h with
  | 0, _ => ⟨_, _, by decide, mt_229, fun t ht => by
    obtain ⟨q, hq, h1, h2⟩ := ht
    simp only [List.mem_cons, List.not_mem_nil, or_false] at hq
    rcases hq with rfl <;> (dsimp only at h1 h2; simp only [Int.ofNat_eq_natCast, Int.negSucc_eq] at h1 h2; omega)⟩
  | 1, _ => ⟨_, _, by decide, mt_230, fun t ht => by
    obtain ⟨q, hq, h1, h2⟩ := ht
    simp only [List.mem_cons, List.not_mem_nil, or_false] at hq
    rcases hq with rfl | rfl <;> (dsimp only at h1 h2; simp only [Int.ofNat_eq_natCast, Int.negSucc_eq] at h1 h2; omega)⟩
  | 2, _ => ⟨_, _, by decide, mt_231, fun t ht => by
    obtain ⟨q, hq, h1, h2⟩ := ht
    simp only [List.mem_cons, List.not_mem_nil, or_false] at hq
    rcases hq with rfl | rfl | rfl <;> (dsimp only at h1 h2; simp only [Int.ofNat_eq_natCast, Int.negSucc_eq] at h1 h2; omega)⟩
  | 3, _ => ⟨_, _, by decide, mt_232, fun t ht => by
    obtain ⟨q, hq, h1, h2⟩ := ht
    simp only [List.mem_cons, List.not_mem_nil, or_false] at hq
    rcases hq with rfl | rfl | rfl | rfl <;> (dsimp only at h1 h2; simp only [Int.ofNat_eq_natCast, Int.negSucc_eq] at h1 h2; omega)⟩
  | 4, _ => ⟨_, _, by decide, mt_233, fun t ht => by
    obtain ⟨q, hq, h1, h2⟩ := ht
    simp only [List.mem_cons, List.not_mem_nil, or_false] at hq
    rcases hq with rfl | rfl | rfl | rfl | rfl <;> (dsimp only at h1 h2; simp only [Int.ofNat_eq_natCast, Int.negSucc_eq] at h1 h2; omega)⟩
  | 5, _ => ⟨_, _, by decide, mt_234, fun t ht => by
    obtain ⟨q, hq, h1, h2⟩ := ht
    simp only [List.mem_cons, List.not_mem_nil, or_false] at hq
    rcases hq with rfl | rfl | rfl | rfl | rfl | rfl <;> (dsimp only at h1 h2; simp only [Int.ofNat_eq_natCast, Int.negSucc_eq] at h1 h2; omega)⟩
  | 6, _ => ⟨_, _, by decide, mt_235, fun t ht => by
    obtain ⟨q, hq, h1, h2⟩ := ht
    simp only [List.mem_cons, List.not_mem_nil, or_false] at hq
    rcases hq with rfl | rfl | rfl | rfl | rfl | rfl | rfl <;> (dsimp only at h1 h2; simp only [Int.ofNat_eq_natCast, Int.negSucc_eq] at h1 h2; omega)⟩
  | 7, _ => ⟨_, _, by decide, mt_236, fun t ht => by
    obtain ⟨q, hq, h1, h2⟩ := ht
    simp only [List.mem_cons, List.not_mem_nil, or_false] at hq
    rcases hq with rfl | rfl | rfl | rfl | rfl | rfl | rfl | rfl <;> (dsimp only at h1 h2; simp only [Int.ofNat_eq_natCast, Int.negSucc_eq] at h1 h2; omega)⟩
  | 8, _ => ⟨_, _, by decide, mt_237, fun t ht => by
    obtain ⟨q, hq, h1, h2⟩ := ht
    simp only [List.mem_cons, List.not_mem_nil, or_false] at hq
    rcases hq with rfl | rfl <;> (dsimp only at h1 h2; simp only [Int.ofNat_eq_natCast, Int.negSucc_eq] at h1 h2; omega)⟩
  | b + 9, h => absurd h (by omega)
