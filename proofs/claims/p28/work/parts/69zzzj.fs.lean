/-! ===== the text: what happens from place to place ===== -/
def sg_rt_a_Z : List sg_z := [(47, [(0, .inr (.inl [45]))], [], [(1, 45, (0, .ofNat 0, .ofNat 11), (1, .ofNat 1, .ofNat 0), (0, .ofNat 0, .ofNat 0)), (0, 45, (0, .ofNat 0, .ofNat 9), (1, .ofNat 1, .ofNat 0), (0, .ofNat 0, .ofNat 0)), (2, 3, (1, .ofNat 1, .ofNat 0), (2, .ofNat 1, .ofNat 0), (0, .ofNat 0, .ofNat 0)), (0, 45, (0, .ofNat 0, .ofNat 0), (2, .ofNat 1, .ofNat 0), (0, .ofNat 0, .ofNat 0)), (0, 45, (0, .ofNat 0, .ofNat 9), (1, .ofNat 1, .ofNat 0), (0, .ofNat 0, .ofNat 0))], [(1, [(.ofNat 0, .ofNat 80)]), (2, [(.ofNat 0, .ofNat 80)])], [], []),
  (47, [(0, .inr (.inl [45]))], [], [(1, 45, (0, .ofNat 0, .ofNat 11), (1, .ofNat 1, .ofNat 0), (0, .ofNat 0, .ofNat 0)), (0, 45, (0, .ofNat 0, .ofNat 9), (1, .ofNat 1, .ofNat 0), (0, .ofNat 0, .ofNat 0)), (2, 1, (3, .ofNat 1, .ofNat 0), (0, .ofNat 0, .ofNat 32), (0, .ofNat 0, .ofNat 0)), (0, 46, (1, .ofNat 1, .ofNat 0), (3, .ofNat 1, .ofNat 0), (0, .ofNat 0, .ofNat 0)), (0, 45, (0, .ofNat 0, .ofNat 9), (1, .ofNat 1, .ofNat 0), (0, .ofNat 0, .ofNat 0)), (2, 2, (1, .ofNat 1, .ofNat 0), (2, .ofNat 1, .ofNat 0), (0, .ofNat 0, .ofNat 0)), (0, 45, (0, .ofNat 0, .ofNat 0), (2, .ofNat 1, .ofNat 0), (0, .ofNat 0, .ofNat 0)), (0, 45, (0, .ofNat 0, .ofNat 9), (1, .ofNat 1, .ofNat 0), (0, .ofNat 0, .ofNat 0))], [(1, [(.ofNat 0, .ofNat 79)]), (2, [(.ofNat 1, .ofNat 80)]), (3, [(.negSucc 127, .ofNat 31), (.ofNat 33, .ofNat 127)])], [], []),
  (1, [(0, .inr (.inl [45]))], [], [(1, 45, (0, .ofNat 0, .ofNat 9), (1, .ofNat 1, .ofNat 1), (0, .ofNat 0, .ofNat 0)), (0, 45, (0, .ofNat 0, .ofNat 9), (1, .ofNat 1, .ofNat 0), (0, .ofNat 0, .ofNat 0)), (2, 0, (3, .ofNat 1, .ofNat 0), (0, .ofNat 0, .ofNat 32), (0, .ofNat 0, .ofNat 0)), (0, 46, (1, .ofNat 1, .ofNat 0), (3, .ofNat 1, .ofNat 0), (0, .ofNat 0, .ofNat 0)), (0, 45, (0, .ofNat 0, .ofNat 9), (1, .ofNat 1, .ofNat 0), (0, .ofNat 0, .ofNat 0)), (2, 2, (1, .ofNat 1, .ofNat 0), (2, .ofNat 1, .ofNat 0), (0, .ofNat 0, .ofNat 0)), (0, 45, (0, .ofNat 0, .ofNat 0), (2, .ofNat 1, .ofNat 0), (0, .ofNat 0, .ofNat 0)), (0, 45, (0, .ofNat 0, .ofNat 9), (1, .ofNat 1, .ofNat 0), (0, .ofNat 0, .ofNat 0))], [(1, [(.ofNat 0, .ofNat 79)]), (2, [(.ofNat 1, .ofNat 80)]), (3, [(.ofNat 32, .ofNat 32)])], [], [])]
set_option maxRecDepth 1000000 in
theorem sg_rt_a_g : sg_go [] [0, 46] 3000 73 0 0 1 [(0, [(.ofNat 0, .ofNat 0)])] [] [] [] [(0, .inr (.inl [45]))] [] [(45, some 9), (45, some 11)] sg_rt_a_Z = true := by decide +kernel
set_option maxRecDepth 100000 in
theorem sg_rt_a {Q : Option Value × am_S → Prop} {d : Nat} {S : am_S} {L : am_L} (hd : 0 ≤ d) (hP : ax_P0 none S) (l0 : lc L 0 45)
    (k0 : ∀ (x1 x2 : Int) (L' : am_L) (S' : am_S), ax_P0 none S' → rd S' = sg_up (rd S) 45 11 x1 → rd S 45 9 = x1 → rd S 45 0 = x2 → x2 ≤ x1 → (0 ≤ x1 ∧ x1 ≤ 80) → (0 ≤ x2 ∧ x2 ≤ 80) → lc L' 0 45 → am_V none d 73 46 L' ([]) S' Q)
    (k1 : ∀ (x1 x2 x3 : Int) (L' : am_L) (S' : am_S), ax_P0 none S' → rd S' = sg_up (rd S) 45 11 x1 → rd S 45 9 = x1 → rd S 45 0 = x2 → x1 < x2 → rd S 46 x1 = x3 → x3 ≠ 32 → (0 ≤ x1 ∧ x1 ≤ 79) → (1 ≤ x2 ∧ x2 ≤ 80) → ((-128) ≤ x3 ∧ x3 ≤ 31) ∨ (33 ≤ x3 ∧ x3 ≤ 127) → lc L' 0 45 → am_V none d 73 46 L' ([]) S' Q)
    (k2 : ∀ (x1 x2 x3 : Int) (L' : am_L) (S' : am_S), ax_P0 none S' → rd S' = sg_up (rd S) 45 9 (x1 + 1) → rd S 45 9 = x1 → rd S 45 0 = x2 → x1 < x2 → rd S 46 x1 = x3 → x3 = 32 → (0 ≤ x1 ∧ x1 ≤ 79) → (1 ≤ x2 ∧ x2 ≤ 80) → (32 ≤ x3 ∧ x3 ≤ 32) → lc L' 0 45 → am_V none d 73 0 L' ([]) S' Q) : am_V none d 73 0 L ([]) S Q := by
  refine sg_use sg_rt_a_g hd hP (sg_xs [0]) ⟨⟨Int.le_refl 0, Int.le_refl 0⟩, trivial⟩ trivial trivial trivial ⟨l0, trivial⟩ trivial ?_
  intro z hz x' L' st' S' hx hP' hW hL' hs' hJ hE' hT' hD'
  simp only [sg_rt_a_Z, List.mem_cons, List.not_mem_nil, or_false] at hz
  rcases hz with rfl | rfl | rfl
  · obtain ⟨f0, f1, f2, -, hσ⟩ := hJ
    obtain ⟨e0, e1, -⟩ := hE'
    obtain ⟨p0, -⟩ := hL'
    obtain rfl := sg_tn hs'
    exact k0 (x' 1) (x' 2) L' S' hP' hσ f0 f1 f2 e0 e1 p0
  · obtain ⟨f0, f1, f2, -, f4, f5, -, hσ⟩ := hJ
    obtain ⟨e0, e1, e2, -⟩ := hE'
    obtain ⟨p0, -⟩ := hL'
    obtain rfl := sg_tn hs'
    exact k1 (x' 1) (x' 2) (x' 3) L' S' hP' hσ f0 f1 f2 f4 f5 e0 e1 e2 p0
  · obtain ⟨f0, f1, f2, -, f4, f5, -, hσ⟩ := hJ
    obtain ⟨e0, e1, e2, -⟩ := hE'
    obtain ⟨p0, -⟩ := hL'
    obtain rfl := sg_tn hs'
    exact k2 (x' 1) (x' 2) (x' 3) L' S' hP' hσ f0 f1 f2 f4 f5 e0 e1 e2 p0
def sg_rt_b_Z : List sg_z := [(97, [(0, .inr (.inl [45])), (1, .inl (false, (5, .ofNat 1, .ofNat 0)))], [.inr (.inl [45])], [(3, 12, (4, .ofNat 1, .ofNat 0), (0, .ofNat 0, .ofNat 0), (5, .ofNat 1, .ofNat 0)), (3, 3, (3, .ofNat 1, .ofNat 0), (0, .ofNat 0, .ofNat 255), (4, .ofNat 1, .ofNat 0)), (0, 46, (1, .ofNat 1, .ofNat 0), (3, .ofNat 1, .ofNat 0), (0, .ofNat 0, .ofNat 0)), (0, 45, (0, .ofNat 0, .ofNat 9), (1, .ofNat 1, .ofNat 0), (0, .ofNat 0, .ofNat 0)), (2, 0, (0, .ofNat 0, .ofNat 0), (0, .ofNat 0, .ofNat 0), (0, .ofNat 0, .ofNat 0)), (2, 3, (1, .ofNat 1, .ofNat 0), (2, .ofNat 1, .ofNat 0), (0, .ofNat 0, .ofNat 0)), (0, 45, (0, .ofNat 0, .ofNat 0), (2, .ofNat 1, .ofNat 0), (0, .ofNat 0, .ofNat 0)), (0, 45, (0, .ofNat 0, .ofNat 9), (1, .ofNat 1, .ofNat 0), (0, .ofNat 0, .ofNat 0)), (2, 2, (1, .ofNat 1, .ofNat 0), (2, .ofNat 1, .ofNat 0), (0, .ofNat 0, .ofNat 0)), (0, 45, (0, .ofNat 0, .ofNat 0), (2, .ofNat 1, .ofNat 0), (0, .ofNat 0, .ofNat 0)), (0, 45, (0, .ofNat 0, .ofNat 9), (1, .ofNat 1, .ofNat 0), (0, .ofNat 0, .ofNat 0))], [(1, [(.ofNat 1, .ofNat 78)]), (2, [(.ofNat 1, .ofNat 79)]), (3, [(.negSucc 127, .ofNat 127)]), (4, [(.ofNat 0, .ofNat 255)])], [], []),
  (97, [(0, .inr (.inl [45])), (1, .inl (false, (5, .ofNat 1, .ofNat 0)))], [.inr (.inl [45])], [(3, 12, (4, .ofNat 1, .ofNat 0), (0, .ofNat 0, .ofNat 0), (5, .ofNat 1, .ofNat 0)), (3, 3, (3, .ofNat 1, .ofNat 0), (0, .ofNat 0, .ofNat 255), (4, .ofNat 1, .ofNat 0)), (0, 46, (1, .ofNat 1, .ofNat 0), (3, .ofNat 1, .ofNat 0), (0, .ofNat 0, .ofNat 0)), (0, 45, (0, .ofNat 0, .ofNat 9), (1, .ofNat 1, .ofNat 0), (0, .ofNat 0, .ofNat 0)), (2, 0, (0, .ofNat 0, .ofNat 0), (0, .ofNat 0, .ofNat 0), (0, .ofNat 0, .ofNat 0)), (2, 2, (3, .ofNat 1, .ofNat 0), (0, .ofNat 0, .ofNat 48), (0, .ofNat 0, .ofNat 0)), (0, 46, (1, .ofNat 1, .ofNat 0), (3, .ofNat 1, .ofNat 0), (0, .ofNat 0, .ofNat 0)), (2, 2, (1, .ofNat 1, .ofNat 0), (2, .ofNat 1, .ofNat 0), (0, .ofNat 0, .ofNat 0)), (0, 45, (0, .ofNat 0, .ofNat 0), (2, .ofNat 1, .ofNat 0), (0, .ofNat 0, .ofNat 0)), (0, 45, (0, .ofNat 0, .ofNat 9), (1, .ofNat 1, .ofNat 0), (0, .ofNat 0, .ofNat 0)), (2, 2, (1, .ofNat 1, .ofNat 0), (2, .ofNat 1, .ofNat 0), (0, .ofNat 0, .ofNat 0)), (0, 45, (0, .ofNat 0, .ofNat 0), (2, .ofNat 1, .ofNat 0), (0, .ofNat 0, .ofNat 0)), (0, 45, (0, .ofNat 0, .ofNat 9), (1, .ofNat 1, .ofNat 0), (0, .ofNat 0, .ofNat 0))], [(1, [(.ofNat 0, .ofNat 79)]), (2, [(.ofNat 1, .ofNat 80)]), (3, [(.negSucc 127, .ofNat 47)]), (4, [(.ofNat 0, .ofNat 255)])], [], []),
  (97, [(0, .inr (.inl [45])), (1, .inl (false, (5, .ofNat 1, .ofNat 0)))], [.inr (.inl [45])], [(3, 12, (4, .ofNat 1, .ofNat 0), (0, .ofNat 0, .ofNat 0), (5, .ofNat 1, .ofNat 0)), (3, 3, (3, .ofNat 1, .ofNat 0), (0, .ofNat 0, .ofNat 255), (4, .ofNat 1, .ofNat 0)), (0, 46, (1, .ofNat 1, .ofNat 0), (3, .ofNat 1, .ofNat 0), (0, .ofNat 0, .ofNat 0)), (0, 45, (0, .ofNat 0, .ofNat 9), (1, .ofNat 1, .ofNat 0), (0, .ofNat 0, .ofNat 0)), (2, 0, (0, .ofNat 0, .ofNat 0), (0, .ofNat 0, .ofNat 0), (0, .ofNat 0, .ofNat 0)), (2, 4, (3, .ofNat 1, .ofNat 0), (0, .ofNat 0, .ofNat 57), (0, .ofNat 0, .ofNat 0)), (0, 46, (1, .ofNat 1, .ofNat 0), (3, .ofNat 1, .ofNat 0), (0, .ofNat 0, .ofNat 0)), (2, 3, (3, .ofNat 1, .ofNat 0), (0, .ofNat 0, .ofNat 48), (0, .ofNat 0, .ofNat 0)), (0, 46, (1, .ofNat 1, .ofNat 0), (3, .ofNat 1, .ofNat 0), (0, .ofNat 0, .ofNat 0)), (2, 2, (1, .ofNat 1, .ofNat 0), (2, .ofNat 1, .ofNat 0), (0, .ofNat 0, .ofNat 0)), (0, 45, (0, .ofNat 0, .ofNat 0), (2, .ofNat 1, .ofNat 0), (0, .ofNat 0, .ofNat 0)), (0, 45, (0, .ofNat 0, .ofNat 9), (1, .ofNat 1, .ofNat 0), (0, .ofNat 0, .ofNat 0)), (2, 2, (1, .ofNat 1, .ofNat 0), (2, .ofNat 1, .ofNat 0), (0, .ofNat 0, .ofNat 0)), (0, 45, (0, .ofNat 0, .ofNat 0), (2, .ofNat 1, .ofNat 0), (0, .ofNat 0, .ofNat 0)), (0, 45, (0, .ofNat 0, .ofNat 9), (1, .ofNat 1, .ofNat 0), (0, .ofNat 0, .ofNat 0))], [(1, [(.ofNat 0, .ofNat 79)]), (2, [(.ofNat 1, .ofNat 80)]), (3, [(.ofNat 58, .ofNat 127)]), (4, [(.ofNat 0, .ofNat 255)])], [], []),
  (77, [(0, .inr (.inl [45]))], [.inr (.inl [45])], [(2, 1, (0, .ofNat 0, .ofNat 1), (0, .ofNat 0, .ofNat 0), (0, .ofNat 0, .ofNat 0)), (2, 5, (3, .ofNat 1, .ofNat 0), (0, .ofNat 0, .ofNat 57), (0, .ofNat 0, .ofNat 0)), (0, 46, (1, .ofNat 1, .ofNat 0), (3, .ofNat 1, .ofNat 0), (0, .ofNat 0, .ofNat 0)), (2, 3, (3, .ofNat 1, .ofNat 0), (0, .ofNat 0, .ofNat 48), (0, .ofNat 0, .ofNat 0)), (0, 46, (1, .ofNat 1, .ofNat 0), (3, .ofNat 1, .ofNat 0), (0, .ofNat 0, .ofNat 0)), (2, 2, (1, .ofNat 1, .ofNat 0), (2, .ofNat 1, .ofNat 0), (0, .ofNat 0, .ofNat 0)), (0, 45, (0, .ofNat 0, .ofNat 0), (2, .ofNat 1, .ofNat 0), (0, .ofNat 0, .ofNat 0)), (0, 45, (0, .ofNat 0, .ofNat 9), (1, .ofNat 1, .ofNat 0), (0, .ofNat 0, .ofNat 0)), (2, 2, (1, .ofNat 1, .ofNat 0), (2, .ofNat 1, .ofNat 0), (0, .ofNat 0, .ofNat 0)), (0, 45, (0, .ofNat 0, .ofNat 0), (2, .ofNat 1, .ofNat 0), (0, .ofNat 0, .ofNat 0)), (0, 45, (0, .ofNat 0, .ofNat 9), (1, .ofNat 1, .ofNat 0), (0, .ofNat 0, .ofNat 0))], [(1, [(.ofNat 0, .ofNat 79)]), (2, [(.ofNat 1, .ofNat 80)]), (3, [(.ofNat 48, .ofNat 57)])], [], []),
  (0, [], [.inl (false, (0, .ofNat 0, .ofNat 1))], [(1, 45, (0, .ofNat 0, .ofNat 10), (0, .ofNat 0, .ofNat 0), (0, .ofNat 0, .ofNat 0)), (2, 3, (1, .ofNat 1, .ofNat 0), (2, .ofNat 1, .ofNat 0), (0, .ofNat 0, .ofNat 0)), (0, 45, (0, .ofNat 0, .ofNat 0), (2, .ofNat 1, .ofNat 0), (0, .ofNat 0, .ofNat 0)), (0, 45, (0, .ofNat 0, .ofNat 9), (1, .ofNat 1, .ofNat 0), (0, .ofNat 0, .ofNat 0))], [(1, [(.ofNat 0, .ofNat 80)]), (2, [(.ofNat 0, .ofNat 80)])], [], [])]
set_option maxRecDepth 1000000 in
theorem sg_rt_b_g : sg_go [] [76, 96] 3000 73 46 1 1 [(0, [(.ofNat 0, .ofNat 0)])] [] [] [] [(0, .inr (.inl [45]))] [] [(45, some 10)] sg_rt_b_Z = true := by decide +kernel
set_option maxRecDepth 100000 in
theorem sg_rt_b {Q : Option Value × am_S → Prop} {d : Nat} {S : am_S} {L : am_L} (hd : 1 ≤ d) (hP : ax_P0 none S) (l0 : lc L 0 45)
    (k0 : ∀ (x1 x2 x3 x4 x5 : Int) (L' : am_L) (S' : am_S), ax_P0 none S' → rd S' = rd S → rd S 45 9 = x1 → rd S 45 0 = x2 → x1 < x2 → x2 ≤ x1 → rd S 46 x1 = x3 → (∃ a b : Int32, a.toInt = x3 ∧ b.toInt = 255 ∧ (a &&& b).toInt = x4) → (∃ a b : Int32, a.toInt = x4 ∧ b.toInt = 0 ∧ ((a.toUInt32 % 65536).toInt32).toInt = x5) → (1 ≤ x1 ∧ x1 ≤ 78) → (1 ≤ x2 ∧ x2 ≤ 79) → ((-128) ≤ x3 ∧ x3 ≤ 127) → (0 ≤ x4 ∧ x4 ≤ 255) → lc L' 0 45 → li L' 1 x5 → am_V none d 73 96 L' ((.ref 45) :: []) S' Q)
    (k1 : ∀ (x1 x2 x3 x4 x5 : Int) (L' : am_L) (S' : am_S), ax_P0 none S' → rd S' = rd S → rd S 45 9 = x1 → rd S 45 0 = x2 → x1 < x2 → x1 < x2 → rd S 46 x1 = x3 → x3 < 48 → (∃ a b : Int32, a.toInt = x3 ∧ b.toInt = 255 ∧ (a &&& b).toInt = x4) → (∃ a b : Int32, a.toInt = x4 ∧ b.toInt = 0 ∧ ((a.toUInt32 % 65536).toInt32).toInt = x5) → (0 ≤ x1 ∧ x1 ≤ 79) → (1 ≤ x2 ∧ x2 ≤ 80) → ((-128) ≤ x3 ∧ x3 ≤ 47) → (0 ≤ x4 ∧ x4 ≤ 255) → lc L' 0 45 → li L' 1 x5 → am_V none d 73 96 L' ((.ref 45) :: []) S' Q)
    (k2 : ∀ (x1 x2 x3 x4 x5 : Int) (L' : am_L) (S' : am_S), ax_P0 none S' → rd S' = rd S → rd S 45 9 = x1 → rd S 45 0 = x2 → x1 < x2 → x1 < x2 → rd S 46 x1 = x3 → 48 ≤ x3 → 57 < x3 → (∃ a b : Int32, a.toInt = x3 ∧ b.toInt = 255 ∧ (a &&& b).toInt = x4) → (∃ a b : Int32, a.toInt = x4 ∧ b.toInt = 0 ∧ ((a.toUInt32 % 65536).toInt32).toInt = x5) → (0 ≤ x1 ∧ x1 ≤ 79) → (1 ≤ x2 ∧ x2 ≤ 80) → (58 ≤ x3 ∧ x3 ≤ 127) → (0 ≤ x4 ∧ x4 ≤ 255) → lc L' 0 45 → li L' 1 x5 → am_V none d 73 96 L' ((.ref 45) :: []) S' Q)
    (k3 : ∀ (x1 x2 x3 : Int) (L' : am_L) (S' : am_S), ax_P0 none S' → rd S' = rd S → rd S 45 9 = x1 → rd S 45 0 = x2 → x1 < x2 → x1 < x2 → rd S 46 x1 = x3 → 48 ≤ x3 → x3 ≤ 57 → (0 ≤ x1 ∧ x1 ≤ 79) → (1 ≤ x2 ∧ x2 ≤ 80) → (48 ≤ x3 ∧ x3 ≤ 57) → lc L' 0 45 → am_V none d 73 76 L' ((.ref 45) :: []) S' Q)
    (k4 : ∀ (x1 x2 : Int) (S' : am_S) (i1 : Int32), ax_P0 none S' → rd S' = sg_up (rd S) 45 10 0 → rd S 45 9 = x1 → rd S 45 0 = x2 → x2 ≤ x1 → (0 ≤ x1 ∧ x1 ≤ 80) → (0 ≤ x2 ∧ x2 ≤ 80) → i1.toInt = 1 → Q (some (.int i1), S')) : am_V none d 73 46 L ([]) S Q := by
  refine sg_use sg_rt_b_g hd hP (sg_xs [0]) ⟨⟨Int.le_refl 0, Int.le_refl 0⟩, trivial⟩ trivial trivial trivial ⟨l0, trivial⟩ trivial ?_
  intro z hz x' L' st' S' hx hP' hW hL' hs' hJ hE' hT' hD'
  simp only [sg_rt_b_Z, List.mem_cons, List.not_mem_nil, or_false] at hz
  rcases hz with rfl | rfl | rfl | rfl | rfl
  · obtain ⟨f0, f1, f2, -, -, f5, -, -, f8, f9, f10, hσ⟩ := hJ
    obtain ⟨e0, e1, e2, e3, -⟩ := hE'
    obtain ⟨p0, p1, -⟩ := hL'
    obtain ⟨v1, r1, rfl, rfl, hs1⟩ := sg_tc hs'
    obtain rfl := sg_tn hs1
    exact k0 (x' 1) (x' 2) (x' 3) (x' 4) (x' 5) L' S' hP' hσ f0 f1 f2 f5 f8 f9 f10 e0 e1 e2 e3 p0 p1
  · obtain ⟨f0, f1, f2, -, -, f5, f6, f7, -, -, -, f11, f12, hσ⟩ := hJ
    obtain ⟨e0, e1, e2, e3, -⟩ := hE'
    obtain ⟨p0, p1, -⟩ := hL'
    obtain ⟨v1, r1, rfl, rfl, hs1⟩ := sg_tc hs'
    obtain rfl := sg_tn hs1
    exact k1 (x' 1) (x' 2) (x' 3) (x' 4) (x' 5) L' S' hP' hσ f0 f1 f2 f5 f6 f7 f11 f12 e0 e1 e2 e3 p0 p1
  · obtain ⟨f0, f1, f2, -, -, f5, f6, f7, -, f9, -, -, -, f13, f14, hσ⟩ := hJ
    obtain ⟨e0, e1, e2, e3, -⟩ := hE'
    obtain ⟨p0, p1, -⟩ := hL'
    obtain ⟨v1, r1, rfl, rfl, hs1⟩ := sg_tc hs'
    obtain rfl := sg_tn hs1
    exact k2 (x' 1) (x' 2) (x' 3) (x' 4) (x' 5) L' S' hP' hσ f0 f1 f2 f5 f6 f7 f9 f13 f14 e0 e1 e2 e3 p0 p1
  · obtain ⟨f0, f1, f2, -, -, f5, f6, f7, -, f9, -, hσ⟩ := hJ
    obtain ⟨e0, e1, e2, -⟩ := hE'
    obtain ⟨p0, -⟩ := hL'
    obtain ⟨v1, r1, rfl, rfl, hs1⟩ := sg_tc hs'
    obtain rfl := sg_tn hs1
    exact k3 (x' 1) (x' 2) (x' 3) L' S' hP' hσ f0 f1 f2 f5 f6 f7 f9 e0 e1 e2 p0
  · obtain ⟨f0, f1, f2, hσ⟩ := hJ
    obtain ⟨e0, e1, -⟩ := hE'
    intro v hv
    subst hv
    cases v with
    | none => exact hs'.elim
    | some v1 =>
      obtain ⟨⟨i1, rfl, g1⟩, -⟩ := hs'
      exact k4 (x' 1) (x' 2) S' i1 hP' hσ f0 f1 f2 e0 e1 g1
def sg_rt_c_Z : List sg_z := [(0, [], [.inl (false, (0, .ofNat 0, .ofNat 1))], [(1, 45, (0, .ofNat 0, .ofNat 9), (3, .ofNat 1, .ofNat 1), (0, .ofNat 0, .ofNat 0)), (0, 45, (0, .ofNat 0, .ofNat 9), (3, .ofNat 1, .ofNat 0), (0, .ofNat 0, .ofNat 0)), (2, 3, (2, .ofNat 1, .ofNat 0), (0, .ofNat 0, .ofNat 0), (0, .ofNat 0, .ofNat 0)), (0, 45, (0, .ofNat 0, .ofNat 12), (2, .ofNat 1, .ofNat 0), (0, .ofNat 0, .ofNat 0)), (1, 45, (0, .ofNat 0, .ofNat 10), (0, .ofNat 0, .ofNat 2), (0, .ofNat 0, .ofNat 0)), (2, 1, (1, .ofNat 1, .ofNat 0), (0, .ofNat 0, .ofNat 94), (0, .ofNat 0, .ofNat 0)), (1, 45, (0, .ofNat 0, .ofNat 12), (2, .ofNat 1, .ofNat 0), (0, .ofNat 0, .ofNat 0))], [(1, [(.ofNat 0, .ofNat 93), (.ofNat 95, .ofNat 255)]), (2, [(.ofNat 0, .ofNat 3)]), (3, [(.ofNat 0, .ofNat 79)])], [], []),
  (0, [], [.inl (false, (0, .ofNat 0, .ofNat 0))], [(1, 45, (0, .ofNat 0, .ofNat 8), (4, .ofNat 1, .ofNat 0), (0, .ofNat 0, .ofNat 0)), (1, 45, (0, .ofNat 0, .ofNat 7), (0, .ofNat 0, .ofNat 1), (0, .ofNat 0, .ofNat 0)), (0, 45, (0, .ofNat 0, .ofNat 11), (4, .ofNat 1, .ofNat 0), (0, .ofNat 0, .ofNat 0)), (2, 1, (0, .ofNat 0, .ofNat 2), (0, .ofNat 0, .ofNat 3), (0, .ofNat 0, .ofNat 0)), (0, 45, (0, .ofNat 0, .ofNat 10), (0, .ofNat 0, .ofNat 2), (0, .ofNat 0, .ofNat 0)), (2, 2, (2, .ofNat 1, .ofNat 0), (0, .ofNat 0, .ofNat 0), (0, .ofNat 0, .ofNat 0)), (0, 45, (0, .ofNat 0, .ofNat 12), (2, .ofNat 1, .ofNat 0), (0, .ofNat 0, .ofNat 0)), (1, 45, (0, .ofNat 0, .ofNat 10), (0, .ofNat 0, .ofNat 2), (0, .ofNat 0, .ofNat 0)), (2, 1, (1, .ofNat 1, .ofNat 0), (0, .ofNat 0, .ofNat 94), (0, .ofNat 0, .ofNat 0)), (1, 45, (0, .ofNat 0, .ofNat 12), (2, .ofNat 1, .ofNat 0), (0, .ofNat 0, .ofNat 0))], [(1, [(.ofNat 0, .ofNat 93), (.ofNat 95, .ofNat 255)]), (2, [(.negSucc 0, .negSucc 0)]), (3, [(.ofNat 0, .ofNat 79)]), (4, [(.ofNat 0, .ofNat 80)])], [], []),
  (0, [], [.inl (false, (0, .ofNat 0, .ofNat 1))], [(1, 45, (0, .ofNat 0, .ofNat 9), (3, .ofNat 1, .ofNat 1), (0, .ofNat 0, .ofNat 0)), (0, 45, (0, .ofNat 0, .ofNat 9), (3, .ofNat 1, .ofNat 0), (0, .ofNat 0, .ofNat 0)), (2, 3, (2, .ofNat 1, .ofNat 0), (0, .ofNat 0, .ofNat 0), (0, .ofNat 0, .ofNat 0)), (0, 45, (0, .ofNat 0, .ofNat 12), (2, .ofNat 1, .ofNat 0), (0, .ofNat 0, .ofNat 0)), (1, 45, (0, .ofNat 0, .ofNat 10), (0, .ofNat 0, .ofNat 3), (0, .ofNat 0, .ofNat 0)), (2, 0, (1, .ofNat 1, .ofNat 0), (0, .ofNat 0, .ofNat 94), (0, .ofNat 0, .ofNat 0)), (1, 45, (0, .ofNat 0, .ofNat 12), (2, .ofNat 1, .ofNat 0), (0, .ofNat 0, .ofNat 0))], [(1, [(.ofNat 94, .ofNat 94)]), (2, [(.ofNat 0, .ofNat 3)]), (3, [(.ofNat 0, .ofNat 79)])], [], []),
  (0, [], [.inl (false, (0, .ofNat 0, .ofNat 1))], [(1, 45, (0, .ofNat 0, .ofNat 9), (3, .ofNat 1, .ofNat 1), (0, .ofNat 0, .ofNat 0)), (0, 45, (0, .ofNat 0, .ofNat 9), (3, .ofNat 1, .ofNat 0), (0, .ofNat 0, .ofNat 0)), (2, 0, (0, .ofNat 0, .ofNat 3), (0, .ofNat 0, .ofNat 3), (0, .ofNat 0, .ofNat 0)), (0, 45, (0, .ofNat 0, .ofNat 10), (0, .ofNat 0, .ofNat 3), (0, .ofNat 0, .ofNat 0)), (2, 2, (2, .ofNat 1, .ofNat 0), (0, .ofNat 0, .ofNat 0), (0, .ofNat 0, .ofNat 0)), (0, 45, (0, .ofNat 0, .ofNat 12), (2, .ofNat 1, .ofNat 0), (0, .ofNat 0, .ofNat 0)), (1, 45, (0, .ofNat 0, .ofNat 10), (0, .ofNat 0, .ofNat 3), (0, .ofNat 0, .ofNat 0)), (2, 0, (1, .ofNat 1, .ofNat 0), (0, .ofNat 0, .ofNat 94), (0, .ofNat 0, .ofNat 0)), (1, 45, (0, .ofNat 0, .ofNat 12), (2, .ofNat 1, .ofNat 0), (0, .ofNat 0, .ofNat 0))], [(1, [(.ofNat 94, .ofNat 94)]), (2, [(.negSucc 0, .negSucc 0)]), (3, [(.ofNat 0, .ofNat 79)])], [], [])]
set_option maxRecDepth 1000000 in
theorem sg_rt_c_g : sg_go [] [] 3000 73 102 1 4 [(0, [(.ofNat 0, .ofNat 0)]), (1, [(.ofNat 0, .ofNat 255)]), (2, [(.negSucc 0, .ofNat 3)]), (3, [(.ofNat 0, .ofNat 79)])] [(45, (0, .ofNat 0, .ofNat 9), (3, .ofNat 1, .ofNat 0))] [] [] [(0, .inr (.inl [45])), (1, .inl (false, (1, .ofNat 1, .ofNat 0)))] [.inl (false, (2, .ofNat 1, .ofNat 0)), .inr (.inl [45])] [(45, some 7), (45, some 8), (45, some 9), (45, some 10), (45, some 12)] sg_rt_c_Z = true := by decide +kernel
set_option maxRecDepth 100000 in
theorem sg_rt_c {Q : Option Value × am_S → Prop} {d : Nat} {S : am_S} {L : am_L} {x1 x2 x3 : Int} {i1 : Int32} (hd : 1 ≤ d) (hP : ax_P0 none S) (l0 : lc L 0 45) (l1 : li L 1 x1) (b1 : (0 ≤ x1 ∧ x1 ≤ 255)) (b2 : ((-1) ≤ x2 ∧ x2 ≤ 3)) (b3 : (0 ≤ x3 ∧ x3 ≤ 79)) (m45_9 : rd S 45 9 = x3) (s1 : i1.toInt = x2)
    (k0 : ∀ (S' : am_S) (i1 : Int32), ax_P0 none S' → rd S' = sg_up (sg_up (sg_up (rd S) 45 12 x2) 45 10 2) 45 9 (x3 + 1) → x1 ≠ 94 → 0 ≤ x2 → (sg_up (sg_up (rd S) 45 12 x2) 45 10 2) 45 9 = x3 → (0 ≤ x1 ∧ x1 ≤ 93) ∨ (95 ≤ x1 ∧ x1 ≤ 255) → (0 ≤ x2 ∧ x2 ≤ 3) → (0 ≤ x3 ∧ x3 ≤ 79) → i1.toInt = 1 → Q (some (.int i1), S'))
    (k1 : ∀ (x4 : Int) (S' : am_S) (i1 : Int32), ax_P0 none S' → rd S' = sg_up (sg_up (sg_up (sg_up (rd S) 45 12 x2) 45 10 2) 45 7 1) 45 8 x4 → x1 ≠ 94 → x2 < 0 → (sg_up (sg_up (rd S) 45 12 x2) 45 10 2) 45 11 = x4 → (0 ≤ x1 ∧ x1 ≤ 93) ∨ (95 ≤ x1 ∧ x1 ≤ 255) → ((-1) ≤ x2 ∧ x2 ≤ (-1)) → (0 ≤ x3 ∧ x3 ≤ 79) → (0 ≤ x4 ∧ x4 ≤ 80) → i1.toInt = 0 → Q (some (.int i1), S'))
    (k2 : ∀ (S' : am_S) (i1 : Int32), ax_P0 none S' → rd S' = sg_up (sg_up (sg_up (rd S) 45 12 x2) 45 10 3) 45 9 (x3 + 1) → x1 = 94 → 0 ≤ x2 → (sg_up (sg_up (rd S) 45 12 x2) 45 10 3) 45 9 = x3 → (94 ≤ x1 ∧ x1 ≤ 94) → (0 ≤ x2 ∧ x2 ≤ 3) → (0 ≤ x3 ∧ x3 ≤ 79) → i1.toInt = 1 → Q (some (.int i1), S'))
    (k3 : ∀ (S' : am_S) (i1 : Int32), ax_P0 none S' → rd S' = sg_up (sg_up (sg_up (rd S) 45 12 x2) 45 10 3) 45 9 (x3 + 1) → x1 = 94 → x2 < 0 → (sg_up (sg_up (rd S) 45 12 x2) 45 10 3) 45 9 = x3 → (94 ≤ x1 ∧ x1 ≤ 94) → ((-1) ≤ x2 ∧ x2 ≤ (-1)) → (0 ≤ x3 ∧ x3 ≤ 79) → i1.toInt = 1 → Q (some (.int i1), S')) : am_V none d 73 102 L ((.int i1) :: (.ref 45) :: []) S Q := by
  refine sg_use sg_rt_c_g hd hP (sg_xs [0, x1, x2, x3]) ⟨⟨Int.le_refl 0, Int.le_refl 0⟩, b1, b2, b3, trivial⟩ ⟨sg_fs hP rfl m45_9, trivial⟩ trivial trivial ⟨l0, l1, trivial⟩ ⟨⟨_, rfl, s1⟩, rfl, trivial⟩ ?_
  intro z hz x' L' st' S' hx hP' hW hL' hs' hJ hE' hT' hD'
  have q1 : x' 1 = x1 := hx 1 (by decide)
  subst q1
  have q2 : x' 2 = x2 := hx 2 (by decide)
  subst q2
  have q3 : x' 3 = x3 := hx 3 (by decide)
  subst q3
  simp only [sg_rt_c_Z, List.mem_cons, List.not_mem_nil, or_false] at hz
  rcases hz with rfl | rfl | rfl | rfl
  · obtain ⟨f0, -, f2, f3, hσ⟩ := hJ
    obtain ⟨e0, e1, e2, -⟩ := hE'
    intro v hv
    subst hv
    cases v with
    | none => exact hs'.elim
    | some v1 =>
      obtain ⟨⟨i1, rfl, g1⟩, -⟩ := hs'
      exact k0 S' i1 hP' hσ f0 f2 f3 e0 e1 e2 g1
  · obtain ⟨f0, -, f2, -, -, f5, hσ⟩ := hJ
    obtain ⟨e0, e1, e2, e3, -⟩ := hE'
    intro v hv
    subst hv
    cases v with
    | none => exact hs'.elim
    | some v1 =>
      obtain ⟨⟨i1, rfl, g1⟩, -⟩ := hs'
      exact k1 (x' 4) S' i1 hP' hσ f0 f2 f5 e0 e1 e2 e3 g1
  · obtain ⟨f0, -, f2, f3, hσ⟩ := hJ
    obtain ⟨e0, e1, e2, -⟩ := hE'
    intro v hv
    subst hv
    cases v with
    | none => exact hs'.elim
    | some v1 =>
      obtain ⟨⟨i1, rfl, g1⟩, -⟩ := hs'
      exact k2 S' i1 hP' hσ f0 f2 f3 e0 e1 e2 g1
  · obtain ⟨f0, -, f2, -, -, f5, hσ⟩ := hJ
    obtain ⟨e0, e1, e2, -⟩ := hE'
    intro v hv
    subst hv
    cases v with
    | none => exact hs'.elim
    | some v1 =>
      obtain ⟨⟨i1, rfl, g1⟩, -⟩ := hs'
      exact k3 S' i1 hP' hσ f0 f2 f5 e0 e1 e2 g1
def sg_rn_a_Z : List sg_z := [(11, [(0, .inr (.inl [45]))], [], [(1, 45, (0, .ofNat 0, .ofNat 12), (0, .ofNat 0, .ofNat 0), (0, .ofNat 0, .ofNat 0)), (1, 45, (0, .ofNat 0, .ofNat 10), (0, .ofNat 0, .ofNat 1), (0, .ofNat 0, .ofNat 0))], [], [], [])]
set_option maxRecDepth 1000000 in
theorem sg_rn_a_g : sg_go [] [10] 3000 74 0 0 1 [(0, [(.ofNat 0, .ofNat 0)])] [] [] [] [(0, .inr (.inl [45]))] [] [(45, some 10), (45, some 12)] sg_rn_a_Z = true := by decide +kernel
set_option maxRecDepth 100000 in
theorem sg_rn_a {Q : Option Value × am_S → Prop} {d : Nat} {S : am_S} {L : am_L} (hd : 0 ≤ d) (hP : ax_P0 none S) (l0 : lc L 0 45)
    (k0 : ∀ (L' : am_L) (S' : am_S), ax_P0 none S' → rd S' = sg_up (sg_up (rd S) 45 10 1) 45 12 0 → lc L' 0 45 → am_V none d 74 10 L' ([]) S' Q) : am_V none d 74 0 L ([]) S Q := by
  refine sg_use sg_rn_a_g hd hP (sg_xs [0]) ⟨⟨Int.le_refl 0, Int.le_refl 0⟩, trivial⟩ trivial trivial trivial ⟨l0, trivial⟩ trivial ?_
  intro z hz x' L' st' S' hx hP' hW hL' hs' hJ hE' hT' hD'
  simp only [sg_rn_a_Z, List.mem_cons, List.not_mem_nil, or_false] at hz
  rcases hz with rfl
  · have hσ := hJ
    obtain ⟨p0, -⟩ := hL'
    obtain rfl := sg_tn hs'
    exact k0 L' S' hP' hσ p0
def sg_rn_b_Z : List sg_z := [(72, [(0, .inr (.inl [45]))], [], [(2, 3, (2, .ofNat 1, .ofNat 0), (3, .ofNat 1, .ofNat 2), (0, .ofNat 0, .ofNat 0)), (0, 45, (0, .ofNat 0, .ofNat 11), (3, .ofNat 1, .ofNat 0), (0, .ofNat 0, .ofNat 0)), (0, 45, (0, .ofNat 0, .ofNat 9), (2, .ofNat 1, .ofNat 0), (0, .ofNat 0, .ofNat 0))], [(1, [(.ofNat 0, .ofNat 9)]), (2, [(.ofNat 2, .ofNat 80)]), (3, [(.ofNat 0, .ofNat 78)])], [], []),
  (72, [(0, .inr (.inl [45]))], [], [(2, 0, (0, .ofNat 0, .ofNat 0), (0, .ofNat 0, .ofNat 0), (0, .ofNat 0, .ofNat 0)), (2, 3, (2, .ofNat 1, .ofNat 0), (4, .ofNat 1, .ofNat 0), (0, .ofNat 0, .ofNat 0)), (0, 45, (0, .ofNat 0, .ofNat 0), (4, .ofNat 1, .ofNat 0), (0, .ofNat 0, .ofNat 0)), (0, 45, (0, .ofNat 0, .ofNat 9), (2, .ofNat 1, .ofNat 0), (0, .ofNat 0, .ofNat 0)), (2, 2, (2, .ofNat 1, .ofNat 0), (3, .ofNat 1, .ofNat 2), (0, .ofNat 0, .ofNat 0)), (0, 45, (0, .ofNat 0, .ofNat 11), (3, .ofNat 1, .ofNat 0), (0, .ofNat 0, .ofNat 0)), (0, 45, (0, .ofNat 0, .ofNat 9), (2, .ofNat 1, .ofNat 0), (0, .ofNat 0, .ofNat 0))], [(1, [(.ofNat 0, .ofNat 9)]), (2, [(.ofNat 0, .ofNat 80)]), (3, [(.ofNat 0, .ofNat 80)]), (4, [(.ofNat 0, .ofNat 80)])], [], []),
  (72, [(0, .inr (.inl [45]))], [], [(2, 0, (0, .ofNat 0, .ofNat 0), (0, .ofNat 0, .ofNat 0), (0, .ofNat 0, .ofNat 0)), (2, 2, (5, .ofNat 1, .ofNat 0), (0, .ofNat 0, .ofNat 48), (0, .ofNat 0, .ofNat 0)), (0, 46, (2, .ofNat 1, .ofNat 0), (5, .ofNat 1, .ofNat 0), (0, .ofNat 0, .ofNat 0)), (2, 2, (2, .ofNat 1, .ofNat 0), (4, .ofNat 1, .ofNat 0), (0, .ofNat 0, .ofNat 0)), (0, 45, (0, .ofNat 0, .ofNat 0), (4, .ofNat 1, .ofNat 0), (0, .ofNat 0, .ofNat 0)), (0, 45, (0, .ofNat 0, .ofNat 9), (2, .ofNat 1, .ofNat 0), (0, .ofNat 0, .ofNat 0)), (2, 2, (2, .ofNat 1, .ofNat 0), (3, .ofNat 1, .ofNat 2), (0, .ofNat 0, .ofNat 0)), (0, 45, (0, .ofNat 0, .ofNat 11), (3, .ofNat 1, .ofNat 0), (0, .ofNat 0, .ofNat 0)), (0, 45, (0, .ofNat 0, .ofNat 9), (2, .ofNat 1, .ofNat 0), (0, .ofNat 0, .ofNat 0))], [(1, [(.ofNat 0, .ofNat 9)]), (2, [(.ofNat 0, .ofNat 79)]), (3, [(.ofNat 0, .ofNat 80)]), (4, [(.ofNat 1, .ofNat 80)]), (5, [(.negSucc 127, .ofNat 47)])], [], []),
  (72, [(0, .inr (.inl [45]))], [], [(2, 0, (0, .ofNat 0, .ofNat 0), (0, .ofNat 0, .ofNat 0), (0, .ofNat 0, .ofNat 0)), (2, 4, (5, .ofNat 1, .ofNat 0), (0, .ofNat 0, .ofNat 57), (0, .ofNat 0, .ofNat 0)), (0, 46, (2, .ofNat 1, .ofNat 0), (5, .ofNat 1, .ofNat 0), (0, .ofNat 0, .ofNat 0)), (2, 3, (5, .ofNat 1, .ofNat 0), (0, .ofNat 0, .ofNat 48), (0, .ofNat 0, .ofNat 0)), (0, 46, (2, .ofNat 1, .ofNat 0), (5, .ofNat 1, .ofNat 0), (0, .ofNat 0, .ofNat 0)), (2, 2, (2, .ofNat 1, .ofNat 0), (4, .ofNat 1, .ofNat 0), (0, .ofNat 0, .ofNat 0)), (0, 45, (0, .ofNat 0, .ofNat 0), (4, .ofNat 1, .ofNat 0), (0, .ofNat 0, .ofNat 0)), (0, 45, (0, .ofNat 0, .ofNat 9), (2, .ofNat 1, .ofNat 0), (0, .ofNat 0, .ofNat 0)), (2, 2, (2, .ofNat 1, .ofNat 0), (3, .ofNat 1, .ofNat 2), (0, .ofNat 0, .ofNat 0)), (0, 45, (0, .ofNat 0, .ofNat 11), (3, .ofNat 1, .ofNat 0), (0, .ofNat 0, .ofNat 0)), (0, 45, (0, .ofNat 0, .ofNat 9), (2, .ofNat 1, .ofNat 0), (0, .ofNat 0, .ofNat 0))], [(1, [(.ofNat 0, .ofNat 9)]), (2, [(.ofNat 0, .ofNat 79)]), (3, [(.ofNat 0, .ofNat 80)]), (4, [(.ofNat 1, .ofNat 80)]), (5, [(.ofNat 58, .ofNat 127)])], [], []),
  (11, [(0, .inr (.inl [45]))], [], [(1, 45, (0, .ofNat 0, .ofNat 9), (2, .ofNat 1, .ofNat 1), (0, .ofNat 0, .ofNat 0)), (0, 45, (0, .ofNat 0, .ofNat 9), (2, .ofNat 1, .ofNat 0), (0, .ofNat 0, .ofNat 0)), (1, 45, (0, .ofNat 0, .ofNat 12), (6, .ofNat 1, .negSucc 47), (0, .ofNat 0, .ofNat 0)), (0, 46, (2, .ofNat 1, .ofNat 0), (5, .ofNat 1, .ofNat 0), (0, .ofNat 0, .ofNat 0)), (0, 45, (0, .ofNat 0, .ofNat 9), (2, .ofNat 1, .ofNat 0), (0, .ofNat 0, .ofNat 0)), (0, 45, (0, .ofNat 0, .ofNat 12), (1, .ofNat 1, .ofNat 0), (0, .ofNat 0, .ofNat 0)), (2, 1, (0, .ofNat 0, .ofNat 1), (0, .ofNat 0, .ofNat 0), (0, .ofNat 0, .ofNat 0)), (2, 5, (5, .ofNat 1, .ofNat 0), (0, .ofNat 0, .ofNat 57), (0, .ofNat 0, .ofNat 0)), (0, 46, (2, .ofNat 1, .ofNat 0), (5, .ofNat 1, .ofNat 0), (0, .ofNat 0, .ofNat 0)), (2, 3, (5, .ofNat 1, .ofNat 0), (0, .ofNat 0, .ofNat 48), (0, .ofNat 0, .ofNat 0)), (0, 46, (2, .ofNat 1, .ofNat 0), (5, .ofNat 1, .ofNat 0), (0, .ofNat 0, .ofNat 0)), (2, 2, (2, .ofNat 1, .ofNat 0), (4, .ofNat 1, .ofNat 0), (0, .ofNat 0, .ofNat 0)), (0, 45, (0, .ofNat 0, .ofNat 0), (4, .ofNat 1, .ofNat 0), (0, .ofNat 0, .ofNat 0)), (0, 45, (0, .ofNat 0, .ofNat 9), (2, .ofNat 1, .ofNat 0), (0, .ofNat 0, .ofNat 0)), (2, 2, (2, .ofNat 1, .ofNat 0), (3, .ofNat 1, .ofNat 2), (0, .ofNat 0, .ofNat 0)), (0, 45, (0, .ofNat 0, .ofNat 11), (3, .ofNat 1, .ofNat 0), (0, .ofNat 0, .ofNat 0)), (0, 45, (0, .ofNat 0, .ofNat 9), (2, .ofNat 1, .ofNat 0), (0, .ofNat 0, .ofNat 0))], [(1, [(.ofNat 0, .ofNat 9)]), (2, [(.ofNat 0, .ofNat 79)]), (3, [(.ofNat 0, .ofNat 80)]), (4, [(.ofNat 1, .ofNat 80)]), (5, [(.ofNat 48, .ofNat 57)]), (6, [(.ofNat 48, .ofNat 147)])], [((1, .ofNat 10, .ofNat 0), (5, .ofNat 1, .ofNat 0), (6, .ofNat 1, .ofNat 0))], [])]
set_option maxRecDepth 1000000 in
theorem sg_rn_b_g : sg_go [] [10, 71] 3000 74 10 1 2 [(0, [(.ofNat 0, .ofNat 0)]), (1, [(.ofNat 0, .ofNat 9)])] [(45, (0, .ofNat 0, .ofNat 12), (1, .ofNat 1, .ofNat 0))] [] [] [(0, .inr (.inl [45]))] [] [(45, some 9), (45, some 12)] sg_rn_b_Z = true := by decide +kernel
set_option maxRecDepth 100000 in
theorem sg_rn_b {Q : Option Value × am_S → Prop} {d : Nat} {S : am_S} {L : am_L} {x1 : Int} (hd : 1 ≤ d) (hP : ax_P0 none S) (l0 : lc L 0 45) (b1 : (0 ≤ x1 ∧ x1 ≤ 9)) (m45_12 : rd S 45 12 = x1)
    (k0 : ∀ (x2 x3 : Int) (L' : am_L) (S' : am_S), ax_P0 none S' → rd S' = rd S → rd S 45 9 = x2 → rd S 45 11 = x3 → x3 + 2 ≤ x2 → (0 ≤ x1 ∧ x1 ≤ 9) → (2 ≤ x2 ∧ x2 ≤ 80) → (0 ≤ x3 ∧ x3 ≤ 78) → lc L' 0 45 → am_V none d 74 71 L' ([]) S' Q)
    (k1 : ∀ (x2 x3 x4 : Int) (L' : am_L) (S' : am_S), ax_P0 none S' → rd S' = rd S → rd S 45 9 = x2 → rd S 45 11 = x3 → x2 < x3 + 2 → rd S 45 0 = x4 → x4 ≤ x2 → (0 ≤ x1 ∧ x1 ≤ 9) → (0 ≤ x2 ∧ x2 ≤ 80) → (0 ≤ x3 ∧ x3 ≤ 80) → (0 ≤ x4 ∧ x4 ≤ 80) → lc L' 0 45 → am_V none d 74 71 L' ([]) S' Q)
    (k2 : ∀ (x2 x3 x4 x5 : Int) (L' : am_L) (S' : am_S), ax_P0 none S' → rd S' = rd S → rd S 45 9 = x2 → rd S 45 11 = x3 → x2 < x3 + 2 → rd S 45 0 = x4 → x2 < x4 → rd S 46 x2 = x5 → x5 < 48 → (0 ≤ x1 ∧ x1 ≤ 9) → (0 ≤ x2 ∧ x2 ≤ 79) → (0 ≤ x3 ∧ x3 ≤ 80) → (1 ≤ x4 ∧ x4 ≤ 80) → ((-128) ≤ x5 ∧ x5 ≤ 47) → lc L' 0 45 → am_V none d 74 71 L' ([]) S' Q)
    (k3 : ∀ (x2 x3 x4 x5 : Int) (L' : am_L) (S' : am_S), ax_P0 none S' → rd S' = rd S → rd S 45 9 = x2 → rd S 45 11 = x3 → x2 < x3 + 2 → rd S 45 0 = x4 → x2 < x4 → rd S 46 x2 = x5 → 48 ≤ x5 → 57 < x5 → (0 ≤ x1 ∧ x1 ≤ 9) → (0 ≤ x2 ∧ x2 ≤ 79) → (0 ≤ x3 ∧ x3 ≤ 80) → (1 ≤ x4 ∧ x4 ≤ 80) → (58 ≤ x5 ∧ x5 ≤ 127) → lc L' 0 45 → am_V none d 74 71 L' ([]) S' Q)
    (k4 : ∀ (x2 x3 x4 x5 x6 : Int) (L' : am_L) (S' : am_S), ax_P0 none S' → rd S' = sg_up (sg_up (rd S) 45 12 (x6 + (-48))) 45 9 (x2 + 1) → rd S 45 9 = x2 → rd S 45 11 = x3 → x2 < x3 + 2 → rd S 45 0 = x4 → x2 < x4 → rd S 46 x2 = x5 → 48 ≤ x5 → x5 ≤ 57 → rd S 45 12 = x1 → (0 ≤ x1 ∧ x1 ≤ 9) → (0 ≤ x2 ∧ x2 ≤ 79) → (0 ≤ x3 ∧ x3 ≤ 80) → (1 ≤ x4 ∧ x4 ≤ 80) → (48 ≤ x5 ∧ x5 ≤ 57) → (48 ≤ x6 ∧ x6 ≤ 147) → (10 * x1 + 0) + x5 = x6 → lc L' 0 45 → am_V none d 74 10 L' ([]) S' Q) : am_V none d 74 10 L ([]) S Q := by
  refine sg_use sg_rn_b_g hd hP (sg_xs [0, x1]) ⟨⟨Int.le_refl 0, Int.le_refl 0⟩, b1, trivial⟩ ⟨sg_fs hP rfl m45_12, trivial⟩ trivial trivial ⟨l0, trivial⟩ trivial ?_
  intro z hz x' L' st' S' hx hP' hW hL' hs' hJ hE' hT' hD'
  have q1 : x' 1 = x1 := hx 1 (by decide)
  subst q1
  simp only [sg_rn_b_Z, List.mem_cons, List.not_mem_nil, or_false] at hz
  rcases hz with rfl | rfl | rfl | rfl | rfl
  · obtain ⟨f0, f1, f2, hσ⟩ := hJ
    obtain ⟨e0, e1, e2, -⟩ := hE'
    obtain ⟨p0, -⟩ := hL'
    obtain rfl := sg_tn hs'
    exact k0 (x' 2) (x' 3) L' S' hP' hσ f0 f1 f2 e0 e1 e2 p0
  · obtain ⟨f0, f1, f2, -, f4, f5, -, hσ⟩ := hJ
    obtain ⟨e0, e1, e2, e3, -⟩ := hE'
    obtain ⟨p0, -⟩ := hL'
    obtain rfl := sg_tn hs'
    exact k1 (x' 2) (x' 3) (x' 4) L' S' hP' hσ f0 f1 f2 f4 f5 e0 e1 e2 e3 p0
  · obtain ⟨f0, f1, f2, -, f4, f5, f6, f7, -, hσ⟩ := hJ
    obtain ⟨e0, e1, e2, e3, e4, -⟩ := hE'
    obtain ⟨p0, -⟩ := hL'
    obtain rfl := sg_tn hs'
    exact k2 (x' 2) (x' 3) (x' 4) (x' 5) L' S' hP' hσ f0 f1 f2 f4 f5 f6 f7 e0 e1 e2 e3 e4 p0
  · obtain ⟨f0, f1, f2, -, f4, f5, f6, f7, -, f9, -, hσ⟩ := hJ
    obtain ⟨e0, e1, e2, e3, e4, -⟩ := hE'
    obtain ⟨p0, -⟩ := hL'
    obtain rfl := sg_tn hs'
    exact k3 (x' 2) (x' 3) (x' 4) (x' 5) L' S' hP' hσ f0 f1 f2 f4 f5 f6 f7 f9 e0 e1 e2 e3 e4 p0
  · obtain ⟨f0, f1, f2, -, f4, f5, f6, f7, -, f9, -, f11, -, -, -, hσ⟩ := hJ
    obtain ⟨e0, e1, e2, e3, e4, e5, -⟩ := hE'
    obtain ⟨t0, -⟩ := hT'
    obtain ⟨p0, -⟩ := hL'
    obtain rfl := sg_tn hs'
    exact k4 (x' 2) (x' 3) (x' 4) (x' 5) (x' 6) L' S' hP' hσ f0 f1 f2 f4 f5 f6 f7 f9 f11 e0 e1 e2 e3 e4 e5 t0 p0
def sg_rn_c_Z : List sg_z := [(0, [], [.inl (false, (0, .ofNat 0, .ofNat 1))], [(2, 0, (0, .ofNat 0, .ofNat 0), (0, .ofNat 0, .ofNat 0), (0, .ofNat 0, .ofNat 0)), (2, 3, (1, .ofNat 1, .ofNat 0), (2, .ofNat 1, .ofNat 0), (0, .ofNat 0, .ofNat 0)), (0, 45, (0, .ofNat 0, .ofNat 0), (2, .ofNat 1, .ofNat 0), (0, .ofNat 0, .ofNat 0)), (0, 45, (0, .ofNat 0, .ofNat 9), (1, .ofNat 1, .ofNat 0), (0, .ofNat 0, .ofNat 0))], [(1, [(.ofNat 0, .ofNat 80)]), (2, [(.ofNat 0, .ofNat 80)])], [], []),
  (0, [], [.inl (false, (0, .ofNat 0, .ofNat 1))], [(2, 0, (0, .ofNat 0, .ofNat 0), (0, .ofNat 0, .ofNat 0), (0, .ofNat 0, .ofNat 0)), (2, 2, (3, .ofNat 1, .ofNat 0), (0, .ofNat 0, .ofNat 48), (0, .ofNat 0, .ofNat 0)), (0, 46, (1, .ofNat 1, .ofNat 0), (3, .ofNat 1, .ofNat 0), (0, .ofNat 0, .ofNat 0)), (2, 2, (1, .ofNat 1, .ofNat 0), (2, .ofNat 1, .ofNat 0), (0, .ofNat 0, .ofNat 0)), (0, 45, (0, .ofNat 0, .ofNat 0), (2, .ofNat 1, .ofNat 0), (0, .ofNat 0, .ofNat 0)), (0, 45, (0, .ofNat 0, .ofNat 9), (1, .ofNat 1, .ofNat 0), (0, .ofNat 0, .ofNat 0))], [(1, [(.ofNat 0, .ofNat 79)]), (2, [(.ofNat 1, .ofNat 80)]), (3, [(.negSucc 127, .ofNat 47)])], [], []),
  (0, [], [.inl (false, (0, .ofNat 0, .ofNat 1))], [(2, 0, (0, .ofNat 0, .ofNat 0), (0, .ofNat 0, .ofNat 0), (0, .ofNat 0, .ofNat 0)), (2, 4, (3, .ofNat 1, .ofNat 0), (0, .ofNat 0, .ofNat 57), (0, .ofNat 0, .ofNat 0)), (0, 46, (1, .ofNat 1, .ofNat 0), (3, .ofNat 1, .ofNat 0), (0, .ofNat 0, .ofNat 0)), (2, 3, (3, .ofNat 1, .ofNat 0), (0, .ofNat 0, .ofNat 48), (0, .ofNat 0, .ofNat 0)), (0, 46, (1, .ofNat 1, .ofNat 0), (3, .ofNat 1, .ofNat 0), (0, .ofNat 0, .ofNat 0)), (2, 2, (1, .ofNat 1, .ofNat 0), (2, .ofNat 1, .ofNat 0), (0, .ofNat 0, .ofNat 0)), (0, 45, (0, .ofNat 0, .ofNat 0), (2, .ofNat 1, .ofNat 0), (0, .ofNat 0, .ofNat 0)), (0, 45, (0, .ofNat 0, .ofNat 9), (1, .ofNat 1, .ofNat 0), (0, .ofNat 0, .ofNat 0))], [(1, [(.ofNat 0, .ofNat 79)]), (2, [(.ofNat 1, .ofNat 80)]), (3, [(.ofNat 58, .ofNat 127)])], [], []),
  (0, [], [.inl (false, (0, .ofNat 0, .ofNat 0))], [(2, 0, (0, .ofNat 0, .ofNat 0), (0, .ofNat 0, .ofNat 0), (0, .ofNat 0, .ofNat 0)), (1, 45, (0, .ofNat 0, .ofNat 8), (4, .ofNat 1, .ofNat 0), (0, .ofNat 0, .ofNat 0)), (1, 45, (0, .ofNat 0, .ofNat 7), (0, .ofNat 0, .ofNat 1), (0, .ofNat 0, .ofNat 0)), (0, 45, (0, .ofNat 0, .ofNat 11), (4, .ofNat 1, .ofNat 0), (0, .ofNat 0, .ofNat 0)), (2, 1, (0, .ofNat 0, .ofNat 1), (0, .ofNat 0, .ofNat 0), (0, .ofNat 0, .ofNat 0)), (2, 5, (3, .ofNat 1, .ofNat 0), (0, .ofNat 0, .ofNat 57), (0, .ofNat 0, .ofNat 0)), (0, 46, (1, .ofNat 1, .ofNat 0), (3, .ofNat 1, .ofNat 0), (0, .ofNat 0, .ofNat 0)), (2, 3, (3, .ofNat 1, .ofNat 0), (0, .ofNat 0, .ofNat 48), (0, .ofNat 0, .ofNat 0)), (0, 46, (1, .ofNat 1, .ofNat 0), (3, .ofNat 1, .ofNat 0), (0, .ofNat 0, .ofNat 0)), (2, 2, (1, .ofNat 1, .ofNat 0), (2, .ofNat 1, .ofNat 0), (0, .ofNat 0, .ofNat 0)), (0, 45, (0, .ofNat 0, .ofNat 0), (2, .ofNat 1, .ofNat 0), (0, .ofNat 0, .ofNat 0)), (0, 45, (0, .ofNat 0, .ofNat 9), (1, .ofNat 1, .ofNat 0), (0, .ofNat 0, .ofNat 0))], [(1, [(.ofNat 0, .ofNat 79)]), (2, [(.ofNat 1, .ofNat 80)]), (3, [(.ofNat 48, .ofNat 57)]), (4, [(.ofNat 0, .ofNat 80)])], [], [])]
set_option maxRecDepth 1000000 in
theorem sg_rn_c_g : sg_go [] [] 3000 74 71 1 1 [(0, [(.ofNat 0, .ofNat 0)])] [] [] [] [(0, .inr (.inl [45]))] [] [(45, some 7), (45, some 8)] sg_rn_c_Z = true := by decide +kernel
set_option maxRecDepth 100000 in
theorem sg_rn_c {Q : Option Value × am_S → Prop} {d : Nat} {S : am_S} {L : am_L} (hd : 1 ≤ d) (hP : ax_P0 none S) (l0 : lc L 0 45)
    (k0 : ∀ (x1 x2 : Int) (S' : am_S) (i1 : Int32), ax_P0 none S' → rd S' = rd S → rd S 45 9 = x1 → rd S 45 0 = x2 → x2 ≤ x1 → (0 ≤ x1 ∧ x1 ≤ 80) → (0 ≤ x2 ∧ x2 ≤ 80) → i1.toInt = 1 → Q (some (.int i1), S'))
    (k1 : ∀ (x1 x2 x3 : Int) (S' : am_S) (i1 : Int32), ax_P0 none S' → rd S' = rd S → rd S 45 9 = x1 → rd S 45 0 = x2 → x1 < x2 → rd S 46 x1 = x3 → x3 < 48 → (0 ≤ x1 ∧ x1 ≤ 79) → (1 ≤ x2 ∧ x2 ≤ 80) → ((-128) ≤ x3 ∧ x3 ≤ 47) → i1.toInt = 1 → Q (some (.int i1), S'))
    (k2 : ∀ (x1 x2 x3 : Int) (S' : am_S) (i1 : Int32), ax_P0 none S' → rd S' = rd S → rd S 45 9 = x1 → rd S 45 0 = x2 → x1 < x2 → rd S 46 x1 = x3 → 48 ≤ x3 → 57 < x3 → (0 ≤ x1 ∧ x1 ≤ 79) → (1 ≤ x2 ∧ x2 ≤ 80) → (58 ≤ x3 ∧ x3 ≤ 127) → i1.toInt = 1 → Q (some (.int i1), S'))
    (k3 : ∀ (x1 x2 x3 x4 : Int) (S' : am_S) (i1 : Int32), ax_P0 none S' → rd S' = sg_up (sg_up (rd S) 45 7 1) 45 8 x4 → rd S 45 9 = x1 → rd S 45 0 = x2 → x1 < x2 → rd S 46 x1 = x3 → 48 ≤ x3 → x3 ≤ 57 → rd S 45 11 = x4 → (0 ≤ x1 ∧ x1 ≤ 79) → (1 ≤ x2 ∧ x2 ≤ 80) → (48 ≤ x3 ∧ x3 ≤ 57) → (0 ≤ x4 ∧ x4 ≤ 80) → i1.toInt = 0 → Q (some (.int i1), S')) : am_V none d 74 71 L ([]) S Q := by
  refine sg_use sg_rn_c_g hd hP (sg_xs [0]) ⟨⟨Int.le_refl 0, Int.le_refl 0⟩, trivial⟩ trivial trivial trivial ⟨l0, trivial⟩ trivial ?_
  intro z hz x' L' st' S' hx hP' hW hL' hs' hJ hE' hT' hD'
  simp only [sg_rn_c_Z, List.mem_cons, List.not_mem_nil, or_false] at hz
  rcases hz with rfl | rfl | rfl | rfl
  · obtain ⟨f0, f1, f2, -, hσ⟩ := hJ
    obtain ⟨e0, e1, -⟩ := hE'
    intro v hv
    subst hv
    cases v with
    | none => exact hs'.elim
    | some v1 =>
      obtain ⟨⟨i1, rfl, g1⟩, -⟩ := hs'
      exact k0 (x' 1) (x' 2) S' i1 hP' hσ f0 f1 f2 e0 e1 g1
  · obtain ⟨f0, f1, f2, f3, f4, -, hσ⟩ := hJ
    obtain ⟨e0, e1, e2, -⟩ := hE'
    intro v hv
    subst hv
    cases v with
    | none => exact hs'.elim
    | some v1 =>
      obtain ⟨⟨i1, rfl, g1⟩, -⟩ := hs'
      exact k1 (x' 1) (x' 2) (x' 3) S' i1 hP' hσ f0 f1 f2 f3 f4 e0 e1 e2 g1
  · obtain ⟨f0, f1, f2, f3, f4, -, f6, -, hσ⟩ := hJ
    obtain ⟨e0, e1, e2, -⟩ := hE'
    intro v hv
    subst hv
    cases v with
    | none => exact hs'.elim
    | some v1 =>
      obtain ⟨⟨i1, rfl, g1⟩, -⟩ := hs'
      exact k2 (x' 1) (x' 2) (x' 3) S' i1 hP' hσ f0 f1 f2 f3 f4 f6 e0 e1 e2 g1
  · obtain ⟨f0, f1, f2, f3, f4, -, f6, -, f8, -, hσ⟩ := hJ
    obtain ⟨e0, e1, e2, e3, -⟩ := hE'
    intro v hv
    subst hv
    cases v with
    | none => exact hs'.elim
    | some v1 =>
      obtain ⟨⟨i1, rfl, g1⟩, -⟩ := hs'
      exact k3 (x' 1) (x' 2) (x' 3) (x' 4) S' i1 hP' hσ f0 f1 f2 f3 f4 f6 f8 e0 e1 e2 e3 g1
def sg_rn_d_Z : List sg_z := [(72, [(0, .inr (.inl [45]))], [], [(2, 3, (1, .ofNat 1, .ofNat 0), (2, .ofNat 1, .ofNat 2), (0, .ofNat 0, .ofNat 0)), (0, 45, (0, .ofNat 0, .ofNat 11), (2, .ofNat 1, .ofNat 0), (0, .ofNat 0, .ofNat 0)), (0, 45, (0, .ofNat 0, .ofNat 9), (1, .ofNat 1, .ofNat 0), (0, .ofNat 0, .ofNat 0))], [(1, [(.ofNat 2, .ofNat 80)]), (2, [(.ofNat 0, .ofNat 78)])], [], []),
  (24, [(0, .inr (.inl [45]))], [], [(2, 2, (1, .ofNat 1, .ofNat 0), (2, .ofNat 1, .ofNat 2), (0, .ofNat 0, .ofNat 0)), (0, 45, (0, .ofNat 0, .ofNat 11), (2, .ofNat 1, .ofNat 0), (0, .ofNat 0, .ofNat 0)), (0, 45, (0, .ofNat 0, .ofNat 9), (1, .ofNat 1, .ofNat 0), (0, .ofNat 0, .ofNat 0))], [(1, [(.ofNat 0, .ofNat 80)]), (2, [(.ofNat 0, .ofNat 80)])], [], [])]
set_option maxRecDepth 1000000 in
theorem sg_rn_d_g : sg_go [] [23, 71] 3000 74 10 0 1 [(0, [(.ofNat 0, .ofNat 0)])] [] [] [] [(0, .inr (.inl [45]))] [] [] sg_rn_d_Z = true := by decide +kernel
set_option maxRecDepth 100000 in
theorem sg_rn_d {Q : Option Value × am_S → Prop} {d : Nat} {S : am_S} {L : am_L} (hd : 0 ≤ d) (hP : ax_P0 none S) (l0 : lc L 0 45)
    (k0 : ∀ (x1 x2 : Int) (L' : am_L), rd S 45 9 = x1 → rd S 45 11 = x2 → x2 + 2 ≤ x1 → (2 ≤ x1 ∧ x1 ≤ 80) → (0 ≤ x2 ∧ x2 ≤ 78) → lc L' 0 45 → am_V none d 74 71 L' ([]) S Q)
    (k1 : ∀ (x1 x2 : Int) (L' : am_L), rd S 45 9 = x1 → rd S 45 11 = x2 → x1 < x2 + 2 → (0 ≤ x1 ∧ x1 ≤ 80) → (0 ≤ x2 ∧ x2 ≤ 80) → lc L' 0 45 → am_V none d 74 23 L' ([]) S Q) : am_V none d 74 10 L ([]) S Q := by
  refine sg_use sg_rn_d_g hd hP (sg_xs [0]) ⟨⟨Int.le_refl 0, Int.le_refl 0⟩, trivial⟩ trivial trivial trivial ⟨l0, trivial⟩ trivial ?_
  intro z hz x' L' st' S' hx hP' hW hL' hs' hJ hE' hT' hD'
  have eS : S' = S := hW.1 rfl
  subst eS
  simp only [sg_rn_d_Z, List.mem_cons, List.not_mem_nil, or_false] at hz
  rcases hz with rfl | rfl
  · obtain ⟨f0, f1, f2, hσ⟩ := hJ
    obtain ⟨e0, e1, -⟩ := hE'
    obtain ⟨p0, -⟩ := hL'
    obtain rfl := sg_tn hs'
    exact k0 (x' 1) (x' 2) L' f0 f1 f2 e0 e1 p0
  · obtain ⟨f0, f1, f2, hσ⟩ := hJ
    obtain ⟨e0, e1, -⟩ := hE'
    obtain ⟨p0, -⟩ := hL'
    obtain rfl := sg_tn hs'
    exact k1 (x' 1) (x' 2) L' f0 f1 f2 e0 e1 p0
def sg_it_a_Z : List sg_z := [(3, [(0, .inr (.inl [45])), (1, .inl (false, (1, .ofNat 1, .ofNat 0))), (2, .inl (false, (2, .ofNat 1, .ofNat 0))), (3, .inl (false, (0, .ofNat 0, .ofNat 0)))], [], [], [], [], [])]
set_option maxRecDepth 1000000 in
theorem sg_it_a_g : sg_go [] [2] 3000 70 0 0 3 [(0, [(.ofNat 0, .ofNat 0)]), (1, [(.negSucc 2147483647, .ofNat 2147483647)]), (2, [(.negSucc 2147483647, .ofNat 2147483647)])] [] [] [] [(0, .inr (.inl [45])), (1, .inl (false, (1, .ofNat 1, .ofNat 0))), (2, .inl (false, (2, .ofNat 1, .ofNat 0)))] [] [] sg_it_a_Z = true := by decide +kernel
set_option maxRecDepth 100000 in
theorem sg_it_a {Q : Option Value × am_S → Prop} {d : Nat} {S : am_S} {L : am_L} {x1 x2 : Int} (hd : 0 ≤ d) (hP : ax_P0 none S) (l0 : lc L 0 45) (l1 : li L 1 x1) (l2 : li L 2 x2) (b1 : ((-2147483648) ≤ x1 ∧ x1 ≤ 2147483647)) (b2 : ((-2147483648) ≤ x2 ∧ x2 ≤ 2147483647))
    (k0 : ∀ (L' : am_L), lc L' 0 45 → li L' 1 x1 → li L' 2 x2 → li L' 3 0 → am_V none d 70 2 L' ([]) S Q) : am_V none d 70 0 L ([]) S Q := by
  refine sg_use sg_it_a_g hd hP (sg_xs [0, x1, x2]) ⟨⟨Int.le_refl 0, Int.le_refl 0⟩, b1, b2, trivial⟩ trivial trivial trivial ⟨l0, l1, l2, trivial⟩ trivial ?_
  intro z hz x' L' st' S' hx hP' hW hL' hs' hJ hE' hT' hD'
  have q1 : x' 1 = x1 := hx 1 (by decide)
  subst q1
  have q2 : x' 2 = x2 := hx 2 (by decide)
  subst q2
  have eS : S' = S := hW.1 rfl
  subst eS
  simp only [sg_it_a_Z, List.mem_cons, List.not_mem_nil, or_false] at hz
  rcases hz with rfl
  · have hσ := hJ
    obtain ⟨p0, p1, p2, p3, -⟩ := hL'
    obtain rfl := sg_tn hs'
    exact k0 L' p0 p1 p2 p3
def sg_it_b_Z : List sg_z := [(0, [], [.inl (false, (0, .ofNat 0, .ofNat 0))], [(2, 3, (3, .ofNat 1, .ofNat 0), (4, .ofNat 1, .ofNat 0), (0, .ofNat 0, .ofNat 0)), (0, 45, (0, .ofNat 0, .ofNat 2), (4, .ofNat 1, .ofNat 0), (0, .ofNat 0, .ofNat 0))], [(3, [(.ofNat 0, .ofNat 4)]), (4, [(.ofNat 0, .ofNat 4)])], [], []),
  (3, [(0, .inr (.inl [45])), (1, .inl (false, (1, .ofNat 1, .ofNat 0))), (2, .inl (false, (2, .ofNat 1, .ofNat 0))), (3, .inl (false, (3, .ofNat 1, .ofNat 1)))], [], [(2, 1, (5, .ofNat 1, .ofNat 0), (1, .ofNat 1, .ofNat 0), (0, .ofNat 0, .ofNat 0)), (0, 47, (3, .ofNat 1, .ofNat 0), (5, .ofNat 1, .ofNat 0), (0, .ofNat 0, .ofNat 0)), (2, 2, (3, .ofNat 1, .ofNat 0), (4, .ofNat 1, .ofNat 0), (0, .ofNat 0, .ofNat 0)), (0, 45, (0, .ofNat 0, .ofNat 2), (4, .ofNat 1, .ofNat 0), (0, .ofNat 0, .ofNat 0))], [(3, [(.ofNat 0, .ofNat 3)]), (4, [(.ofNat 1, .ofNat 4)])], [], []),
  (3, [(0, .inr (.inl [45])), (1, .inl (false, (1, .ofNat 1, .ofNat 0))), (2, .inl (false, (2, .ofNat 1, .ofNat 0))), (3, .inl (false, (3, .ofNat 1, .ofNat 1)))], [], [(2, 1, (6, .ofNat 1, .ofNat 0), (2, .ofNat 1, .ofNat 0), (0, .ofNat 0, .ofNat 0)), (0, 48, (3, .ofNat 1, .ofNat 0), (6, .ofNat 1, .ofNat 0), (0, .ofNat 0, .ofNat 0)), (2, 0, (5, .ofNat 1, .ofNat 0), (1, .ofNat 1, .ofNat 0), (0, .ofNat 0, .ofNat 0)), (0, 47, (3, .ofNat 1, .ofNat 0), (5, .ofNat 1, .ofNat 0), (0, .ofNat 0, .ofNat 0)), (2, 2, (3, .ofNat 1, .ofNat 0), (4, .ofNat 1, .ofNat 0), (0, .ofNat 0, .ofNat 0)), (0, 45, (0, .ofNat 0, .ofNat 2), (4, .ofNat 1, .ofNat 0), (0, .ofNat 0, .ofNat 0))], [(3, [(.ofNat 0, .ofNat 3)]), (4, [(.ofNat 1, .ofNat 4)]), (6, [(.negSucc 0, .ofNat 99)])], [], []),
  (0, [], [.inl (false, (0, .ofNat 0, .ofNat 1))], [(2, 0, (6, .ofNat 1, .ofNat 0), (2, .ofNat 1, .ofNat 0), (0, .ofNat 0, .ofNat 0)), (0, 48, (3, .ofNat 1, .ofNat 0), (6, .ofNat 1, .ofNat 0), (0, .ofNat 0, .ofNat 0)), (2, 0, (5, .ofNat 1, .ofNat 0), (1, .ofNat 1, .ofNat 0), (0, .ofNat 0, .ofNat 0)), (0, 47, (3, .ofNat 1, .ofNat 0), (5, .ofNat 1, .ofNat 0), (0, .ofNat 0, .ofNat 0)), (2, 2, (3, .ofNat 1, .ofNat 0), (4, .ofNat 1, .ofNat 0), (0, .ofNat 0, .ofNat 0)), (0, 45, (0, .ofNat 0, .ofNat 2), (4, .ofNat 1, .ofNat 0), (0, .ofNat 0, .ofNat 0))], [(2, [(.negSucc 0, .ofNat 99)]), (3, [(.ofNat 0, .ofNat 3)]), (4, [(.ofNat 1, .ofNat 4)]), (6, [(.negSucc 0, .ofNat 99)])], [], [])]
set_option maxRecDepth 1000000 in
theorem sg_it_b_g : sg_go [] [2] 3000 70 2 0 4 [(0, [(.ofNat 0, .ofNat 0)]), (1, [(.negSucc 2147483647, .ofNat 2147483647)]), (2, [(.negSucc 2147483647, .ofNat 2147483647)]), (3, [(.ofNat 0, .ofNat 4)])] [] [] [] [(0, .inr (.inl [45])), (1, .inl (false, (1, .ofNat 1, .ofNat 0))), (2, .inl (false, (2, .ofNat 1, .ofNat 0))), (3, .inl (false, (3, .ofNat 1, .ofNat 0)))] [] [] sg_it_b_Z = true := by decide +kernel
set_option maxRecDepth 100000 in
theorem sg_it_b {Q : Option Value × am_S → Prop} {d : Nat} {S : am_S} {L : am_L} {x1 x2 x3 : Int} (hd : 0 ≤ d) (hP : ax_P0 none S) (l0 : lc L 0 45) (l1 : li L 1 x1) (l2 : li L 2 x2) (l3 : li L 3 x3) (b1 : ((-2147483648) ≤ x1 ∧ x1 ≤ 2147483647)) (b2 : ((-2147483648) ≤ x2 ∧ x2 ≤ 2147483647)) (b3 : (0 ≤ x3 ∧ x3 ≤ 4))
    (k0 : ∀ (x4 : Int) (i1 : Int32), rd S 45 2 = x4 → x4 ≤ x3 → (0 ≤ x3 ∧ x3 ≤ 4) → (0 ≤ x4 ∧ x4 ≤ 4) → i1.toInt = 0 → Q (some (.int i1), S))
    (k1 : ∀ (x4 x5 : Int) (L' : am_L), rd S 45 2 = x4 → x3 < x4 → rd S 47 x3 = x5 → x5 ≠ x1 → (0 ≤ x3 ∧ x3 ≤ 3) → (1 ≤ x4 ∧ x4 ≤ 4) → lc L' 0 45 → li L' 1 x1 → li L' 2 x2 → li L' 3 (x3 + 1) → am_V none d 70 2 L' ([]) S Q)
    (k2 : ∀ (x4 x5 x6 : Int) (L' : am_L), rd S 45 2 = x4 → x3 < x4 → rd S 47 x3 = x5 → x5 = x1 → rd S 48 x3 = x6 → x6 ≠ x2 → (0 ≤ x3 ∧ x3 ≤ 3) → (1 ≤ x4 ∧ x4 ≤ 4) → ((-1) ≤ x6 ∧ x6 ≤ 99) → lc L' 0 45 → li L' 1 x1 → li L' 2 x2 → li L' 3 (x3 + 1) → am_V none d 70 2 L' ([]) S Q)
    (k3 : ∀ (x4 x5 x6 : Int) (i1 : Int32), rd S 45 2 = x4 → x3 < x4 → rd S 47 x3 = x5 → x5 = x1 → rd S 48 x3 = x6 → x6 = x2 → ((-1) ≤ x2 ∧ x2 ≤ 99) → (0 ≤ x3 ∧ x3 ≤ 3) → (1 ≤ x4 ∧ x4 ≤ 4) → ((-1) ≤ x6 ∧ x6 ≤ 99) → i1.toInt = 1 → Q (some (.int i1), S)) : am_V none d 70 2 L ([]) S Q := by
  refine sg_use sg_it_b_g hd hP (sg_xs [0, x1, x2, x3]) ⟨⟨Int.le_refl 0, Int.le_refl 0⟩, b1, b2, b3, trivial⟩ trivial trivial trivial ⟨l0, l1, l2, l3, trivial⟩ trivial ?_
  intro z hz x' L' st' S' hx hP' hW hL' hs' hJ hE' hT' hD'
  have q1 : x' 1 = x1 := hx 1 (by decide)
  subst q1
  have q2 : x' 2 = x2 := hx 2 (by decide)
  subst q2
  have q3 : x' 3 = x3 := hx 3 (by decide)
  subst q3
  have eS : S' = S := hW.1 rfl
  subst eS
  simp only [sg_it_b_Z, List.mem_cons, List.not_mem_nil, or_false] at hz
  rcases hz with rfl | rfl | rfl | rfl
  · obtain ⟨f0, f1, hσ⟩ := hJ
    obtain ⟨e0, e1, -⟩ := hE'
    intro v hv
    subst hv
    cases v with
    | none => exact hs'.elim
    | some v1 =>
      obtain ⟨⟨i1, rfl, g1⟩, -⟩ := hs'
      exact k0 (x' 4) i1 f0 f1 e0 e1 g1
  · obtain ⟨f0, f1, f2, f3, hσ⟩ := hJ
    obtain ⟨e0, e1, -⟩ := hE'
    obtain ⟨p0, p1, p2, p3, -⟩ := hL'
    obtain rfl := sg_tn hs'
    exact k1 (x' 4) (x' 5) L' f0 f1 f2 f3 e0 e1 p0 p1 p2 p3
  · obtain ⟨f0, f1, f2, f3, f4, f5, hσ⟩ := hJ
    obtain ⟨e0, e1, e2, -⟩ := hE'
    obtain ⟨p0, p1, p2, p3, -⟩ := hL'
    obtain rfl := sg_tn hs'
    exact k2 (x' 4) (x' 5) (x' 6) L' f0 f1 f2 f3 f4 f5 e0 e1 e2 p0 p1 p2 p3
  · obtain ⟨f0, f1, f2, f3, f4, f5, hσ⟩ := hJ
    obtain ⟨e0, e1, e2, e3, -⟩ := hE'
    intro v hv
    subst hv
    cases v with
    | none => exact hs'.elim
    | some v1 =>
      obtain ⟨⟨i1, rfl, g1⟩, -⟩ := hs'
      exact k3 (x' 4) (x' 5) (x' 6) i1 f0 f1 f2 f3 f4 f5 e0 e1 e2 e3 g1
def sg_rs_a_Z : List sg_z := [(48, [(0, .inr (.inl [45])), (1, .inl (false, (3, .ofNat 1, .ofNat 0))), (2, .inl (false, (4, .ofNat 1, .ofNat 0)))], [.inr (.inl [45])], [(0, 45, (0, .ofNat 0, .ofNat 11), (4, .ofNat 1, .ofNat 0), (0, .ofNat 0, .ofNat 0)), (0, 45, (0, .ofNat 0, .ofNat 12), (3, .ofNat 1, .ofNat 0), (0, .ofNat 0, .ofNat 0)), (2, 2, (2, .ofNat 1, .ofNat 0), (0, .ofNat 0, .ofNat 4), (0, .ofNat 0, .ofNat 0)), (0, 45, (0, .ofNat 0, .ofNat 2), (2, .ofNat 1, .ofNat 0), (0, .ofNat 0, .ofNat 0)), (2, 0, (1, .ofNat 1, .ofNat 0), (0, .ofNat 0, .ofNat 1), (0, .ofNat 0, .ofNat 0)), (0, 45, (0, .ofNat 0, .ofNat 10), (1, .ofNat 1, .ofNat 0), (0, .ofNat 0, .ofNat 0))], [(1, [(.ofNat 1, .ofNat 1)]), (2, [(.ofNat 0, .ofNat 3)]), (3, [(.negSucc 0, .ofNat 99)]), (4, [(.ofNat 0, .ofNat 80)])], [], []),
  (0, [], [.inl (false, (0, .ofNat 0, .ofNat 0))], [(1, 45, (0, .ofNat 0, .ofNat 8), (3, .ofNat 1, .ofNat 0), (0, .ofNat 0, .ofNat 0)), (1, 45, (0, .ofNat 0, .ofNat 7), (0, .ofNat 0, .ofNat 5), (0, .ofNat 0, .ofNat 0)), (0, 45, (0, .ofNat 0, .ofNat 11), (3, .ofNat 1, .ofNat 0), (0, .ofNat 0, .ofNat 0)), (2, 3, (2, .ofNat 1, .ofNat 0), (0, .ofNat 0, .ofNat 4), (0, .ofNat 0, .ofNat 0)), (0, 45, (0, .ofNat 0, .ofNat 2), (2, .ofNat 1, .ofNat 0), (0, .ofNat 0, .ofNat 0)), (2, 0, (1, .ofNat 1, .ofNat 0), (0, .ofNat 0, .ofNat 1), (0, .ofNat 0, .ofNat 0)), (0, 45, (0, .ofNat 0, .ofNat 10), (1, .ofNat 1, .ofNat 0), (0, .ofNat 0, .ofNat 0))], [(1, [(.ofNat 1, .ofNat 1)]), (2, [(.ofNat 4, .ofNat 4)]), (3, [(.ofNat 0, .ofNat 80)])], [], []),
  (0, [], [.inl (false, (0, .ofNat 0, .ofNat 0))], [(1, 45, (0, .ofNat 0, .ofNat 8), (2, .ofNat 1, .ofNat 0), (0, .ofNat 0, .ofNat 0)), (1, 45, (0, .ofNat 0, .ofNat 7), (0, .ofNat 0, .ofNat 2), (0, .ofNat 0, .ofNat 0)), (0, 45, (0, .ofNat 0, .ofNat 11), (2, .ofNat 1, .ofNat 0), (0, .ofNat 0, .ofNat 0)), (2, 1, (1, .ofNat 1, .ofNat 0), (0, .ofNat 0, .ofNat 1), (0, .ofNat 0, .ofNat 0)), (0, 45, (0, .ofNat 0, .ofNat 10), (1, .ofNat 1, .ofNat 0), (0, .ofNat 0, .ofNat 0))], [(1, [(.ofNat 0, .ofNat 0), (.ofNat 2, .ofNat 3)]), (2, [(.ofNat 0, .ofNat 80)])], [], [])]
set_option maxRecDepth 1000000 in
theorem sg_rs_a_g : sg_go [] [47] 3000 68 0 1 1 [(0, [(.ofNat 0, .ofNat 0)])] [] [] [] [(0, .inr (.inl [45]))] [] [(45, some 7), (45, some 8)] sg_rs_a_Z = true := by decide +kernel
set_option maxRecDepth 100000 in
theorem sg_rs_a {Q : Option Value × am_S → Prop} {d : Nat} {S : am_S} {L : am_L} (hd : 1 ≤ d) (hP : ax_P0 none S) (l0 : lc L 0 45)
    (k0 : ∀ (x1 x2 x3 x4 : Int) (L' : am_L) (S' : am_S), ax_P0 none S' → rd S' = rd S → rd S 45 10 = x1 → x1 = 1 → rd S 45 2 = x2 → x2 < 4 → rd S 45 12 = x3 → rd S 45 11 = x4 → (1 ≤ x1 ∧ x1 ≤ 1) → (0 ≤ x2 ∧ x2 ≤ 3) → ((-1) ≤ x3 ∧ x3 ≤ 99) → (0 ≤ x4 ∧ x4 ≤ 80) → lc L' 0 45 → li L' 1 x3 → li L' 2 x4 → am_V none d 68 47 L' ((.ref 45) :: []) S' Q)
    (k1 : ∀ (x1 x2 x3 : Int) (S' : am_S) (i1 : Int32), ax_P0 none S' → rd S' = sg_up (sg_up (rd S) 45 7 5) 45 8 x3 → rd S 45 10 = x1 → x1 = 1 → rd S 45 2 = x2 → 4 ≤ x2 → rd S 45 11 = x3 → (1 ≤ x1 ∧ x1 ≤ 1) → (4 ≤ x2 ∧ x2 ≤ 4) → (0 ≤ x3 ∧ x3 ≤ 80) → i1.toInt = 0 → Q (some (.int i1), S'))
    (k2 : ∀ (x1 x2 : Int) (S' : am_S) (i1 : Int32), ax_P0 none S' → rd S' = sg_up (sg_up (rd S) 45 7 2) 45 8 x2 → rd S 45 10 = x1 → x1 ≠ 1 → rd S 45 11 = x2 → (0 ≤ x1 ∧ x1 ≤ 0) ∨ (2 ≤ x1 ∧ x1 ≤ 3) → (0 ≤ x2 ∧ x2 ≤ 80) → i1.toInt = 0 → Q (some (.int i1), S')) : am_V none d 68 0 L ([]) S Q := by
  refine sg_use sg_rs_a_g hd hP (sg_xs [0]) ⟨⟨Int.le_refl 0, Int.le_refl 0⟩, trivial⟩ trivial trivial trivial ⟨l0, trivial⟩ trivial ?_
  intro z hz x' L' st' S' hx hP' hW hL' hs' hJ hE' hT' hD'
  simp only [sg_rs_a_Z, List.mem_cons, List.not_mem_nil, or_false] at hz
  rcases hz with rfl | rfl | rfl
  · obtain ⟨f0, f1, f2, f3, f4, f5, hσ⟩ := hJ
    obtain ⟨e0, e1, e2, e3, -⟩ := hE'
    obtain ⟨p0, p1, p2, -⟩ := hL'
    obtain ⟨v1, r1, rfl, rfl, hs1⟩ := sg_tc hs'
    obtain rfl := sg_tn hs1
    exact k0 (x' 1) (x' 2) (x' 3) (x' 4) L' S' hP' hσ f0 f1 f2 f3 f4 f5 e0 e1 e2 e3 p0 p1 p2
  · obtain ⟨f0, f1, f2, f3, f4, hσ⟩ := hJ
    obtain ⟨e0, e1, e2, -⟩ := hE'
    intro v hv
    subst hv
    cases v with
    | none => exact hs'.elim
    | some v1 =>
      obtain ⟨⟨i1, rfl, g1⟩, -⟩ := hs'
      exact k1 (x' 1) (x' 2) (x' 3) S' i1 hP' hσ f0 f1 f2 f3 f4 e0 e1 e2 g1
  · obtain ⟨f0, f1, f2, hσ⟩ := hJ
    obtain ⟨e0, e1, -⟩ := hE'
    intro v hv
    subst hv
    cases v with
    | none => exact hs'.elim
    | some v1 =>
      obtain ⟨⟨i1, rfl, g1⟩, -⟩ := hs'
      exact k2 (x' 1) (x' 2) S' i1 hP' hσ f0 f1 f2 e0 e1 g1
def sg_rs_b_Z : List sg_z := [(0, [], [.inl (false, (0, .ofNat 0, .ofNat 0))], [(1, 45, (0, .ofNat 0, .ofNat 8), (2, .ofNat 1, .ofNat 0), (0, .ofNat 0, .ofNat 0)), (1, 45, (0, .ofNat 0, .ofNat 7), (0, .ofNat 0, .ofNat 3), (0, .ofNat 0, .ofNat 0)), (2, 2, (1, .ofNat 1, .ofNat 0), (0, .ofNat 0, .ofNat 1), (0, .ofNat 0, .ofNat 0)), (0, 45, (0, .ofNat 0, .ofNat 11), (6, .ofNat 1, .ofNat 0), (0, .ofNat 0, .ofNat 0)), (0, 45, (0, .ofNat 0, .ofNat 12), (5, .ofNat 1, .ofNat 0), (0, .ofNat 0, .ofNat 0)), (2, 0, (4, .ofNat 1, .ofNat 0), (0, .ofNat 0, .ofNat 2), (0, .ofNat 0, .ofNat 0)), (0, 45, (0, .ofNat 0, .ofNat 10), (4, .ofNat 1, .ofNat 0), (0, .ofNat 0, .ofNat 0)), (2, 1, (3, .ofNat 1, .ofNat 0), (0, .ofNat 0, .ofNat 0), (0, .ofNat 0, .ofNat 0))], [(1, [(.negSucc 0, .ofNat 0)]), (2, [(.ofNat 0, .ofNat 80)]), (3, [(.ofNat 1, .ofNat 1)]), (4, [(.ofNat 2, .ofNat 2)]), (5, [(.negSucc 0, .ofNat 99)]), (6, [(.ofNat 0, .ofNat 80)])], [], []),
  (0, [], [.inl (false, (0, .ofNat 0, .ofNat 0))], [(1, 45, (0, .ofNat 0, .ofNat 8), (2, .ofNat 1, .ofNat 0), (0, .ofNat 0, .ofNat 0)), (1, 45, (0, .ofNat 0, .ofNat 7), (0, .ofNat 0, .ofNat 3), (0, .ofNat 0, .ofNat 0)), (2, 4, (1, .ofNat 1, .ofNat 0), (0, .ofNat 0, .ofNat 9), (0, .ofNat 0, .ofNat 0)), (2, 3, (1, .ofNat 1, .ofNat 0), (0, .ofNat 0, .ofNat 1), (0, .ofNat 0, .ofNat 0)), (0, 45, (0, .ofNat 0, .ofNat 11), (6, .ofNat 1, .ofNat 0), (0, .ofNat 0, .ofNat 0)), (0, 45, (0, .ofNat 0, .ofNat 12), (5, .ofNat 1, .ofNat 0), (0, .ofNat 0, .ofNat 0)), (2, 0, (4, .ofNat 1, .ofNat 0), (0, .ofNat 0, .ofNat 2), (0, .ofNat 0, .ofNat 0)), (0, 45, (0, .ofNat 0, .ofNat 10), (4, .ofNat 1, .ofNat 0), (0, .ofNat 0, .ofNat 0)), (2, 1, (3, .ofNat 1, .ofNat 0), (0, .ofNat 0, .ofNat 0), (0, .ofNat 0, .ofNat 0))], [(1, [(.ofNat 10, .ofNat 99)]), (2, [(.ofNat 0, .ofNat 80)]), (3, [(.ofNat 1, .ofNat 1)]), (4, [(.ofNat 2, .ofNat 2)]), (5, [(.negSucc 0, .ofNat 99)]), (6, [(.ofNat 0, .ofNat 80)])], [], []),
  (111, [(0, .inr (.inl [45])), (1, .inl (false, (1, .ofNat 1, .ofNat 0))), (2, .inl (false, (2, .ofNat 1, .ofNat 0))), (3, .inl (false, (5, .ofNat 1, .ofNat 0))), (4, .inl (false, (6, .ofNat 1, .ofNat 0)))], [.inl (false, (5, .ofNat 1, .ofNat 0)), .inl (false, (1, .ofNat 1, .ofNat 0)), .inr (.inl [45])], [(2, 4, (1, .ofNat 1, .ofNat 0), (5, .ofNat 1, .ofNat 0), (0, .ofNat 0, .ofNat 0)), (2, 5, (1, .ofNat 1, .ofNat 0), (0, .ofNat 0, .ofNat 9), (0, .ofNat 0, .ofNat 0)), (2, 3, (1, .ofNat 1, .ofNat 0), (0, .ofNat 0, .ofNat 1), (0, .ofNat 0, .ofNat 0)), (0, 45, (0, .ofNat 0, .ofNat 11), (6, .ofNat 1, .ofNat 0), (0, .ofNat 0, .ofNat 0)), (0, 45, (0, .ofNat 0, .ofNat 12), (5, .ofNat 1, .ofNat 0), (0, .ofNat 0, .ofNat 0)), (2, 0, (4, .ofNat 1, .ofNat 0), (0, .ofNat 0, .ofNat 2), (0, .ofNat 0, .ofNat 0)), (0, 45, (0, .ofNat 0, .ofNat 10), (4, .ofNat 1, .ofNat 0), (0, .ofNat 0, .ofNat 0)), (2, 1, (3, .ofNat 1, .ofNat 0), (0, .ofNat 0, .ofNat 0), (0, .ofNat 0, .ofNat 0))], [(1, [(.ofNat 1, .ofNat 9)]), (2, [(.ofNat 0, .ofNat 80)]), (3, [(.ofNat 1, .ofNat 1)]), (4, [(.ofNat 2, .ofNat 2)]), (5, [(.negSucc 0, .ofNat 8)]), (6, [(.ofNat 0, .ofNat 80)])], [], []),
  (0, [], [.inl (false, (0, .ofNat 0, .ofNat 0))], [(1, 45, (0, .ofNat 0, .ofNat 8), (2, .ofNat 1, .ofNat 0), (0, .ofNat 0, .ofNat 0)), (1, 45, (0, .ofNat 0, .ofNat 7), (0, .ofNat 0, .ofNat 3), (0, .ofNat 0, .ofNat 0)), (2, 5, (1, .ofNat 1, .ofNat 0), (5, .ofNat 1, .ofNat 0), (0, .ofNat 0, .ofNat 0)), (2, 5, (1, .ofNat 1, .ofNat 0), (0, .ofNat 0, .ofNat 9), (0, .ofNat 0, .ofNat 0)), (2, 3, (1, .ofNat 1, .ofNat 0), (0, .ofNat 0, .ofNat 1), (0, .ofNat 0, .ofNat 0)), (0, 45, (0, .ofNat 0, .ofNat 11), (6, .ofNat 1, .ofNat 0), (0, .ofNat 0, .ofNat 0)), (0, 45, (0, .ofNat 0, .ofNat 12), (5, .ofNat 1, .ofNat 0), (0, .ofNat 0, .ofNat 0)), (2, 0, (4, .ofNat 1, .ofNat 0), (0, .ofNat 0, .ofNat 2), (0, .ofNat 0, .ofNat 0)), (0, 45, (0, .ofNat 0, .ofNat 10), (4, .ofNat 1, .ofNat 0), (0, .ofNat 0, .ofNat 0)), (2, 1, (3, .ofNat 1, .ofNat 0), (0, .ofNat 0, .ofNat 0), (0, .ofNat 0, .ofNat 0))], [(1, [(.ofNat 1, .ofNat 9)]), (2, [(.ofNat 0, .ofNat 80)]), (3, [(.ofNat 1, .ofNat 1)]), (4, [(.ofNat 2, .ofNat 2)]), (5, [(.ofNat 1, .ofNat 99)]), (6, [(.ofNat 0, .ofNat 80)])], [], []),
  (0, [], [.inl (false, (0, .ofNat 0, .ofNat 0))], [(1, 45, (0, .ofNat 0, .ofNat 8), (5, .ofNat 1, .ofNat 0), (0, .ofNat 0, .ofNat 0)), (1, 45, (0, .ofNat 0, .ofNat 7), (0, .ofNat 0, .ofNat 2), (0, .ofNat 0, .ofNat 0)), (0, 45, (0, .ofNat 0, .ofNat 11), (5, .ofNat 1, .ofNat 0), (0, .ofNat 0, .ofNat 0)), (2, 1, (4, .ofNat 1, .ofNat 0), (0, .ofNat 0, .ofNat 2), (0, .ofNat 0, .ofNat 0)), (0, 45, (0, .ofNat 0, .ofNat 10), (4, .ofNat 1, .ofNat 0), (0, .ofNat 0, .ofNat 0)), (2, 1, (3, .ofNat 1, .ofNat 0), (0, .ofNat 0, .ofNat 0), (0, .ofNat 0, .ofNat 0))], [(1, [(.negSucc 0, .ofNat 99)]), (2, [(.ofNat 0, .ofNat 80)]), (3, [(.ofNat 1, .ofNat 1)]), (4, [(.ofNat 0, .ofNat 1), (.ofNat 3, .ofNat 3)]), (5, [(.ofNat 0, .ofNat 80)])], [], []),
  (0, [], [.inl (false, (0, .ofNat 0, .ofNat 0))], [(2, 0, (3, .ofNat 1, .ofNat 0), (0, .ofNat 0, .ofNat 0), (0, .ofNat 0, .ofNat 0))], [(1, [(.negSucc 0, .ofNat 99)]), (2, [(.ofNat 0, .ofNat 80)]), (3, [(.ofNat 0, .ofNat 0)])], [], [])]
set_option maxRecDepth 1000000 in
theorem sg_rs_b_g : sg_go [] [110] 3000 68 50 1 4 [(0, [(.ofNat 0, .ofNat 0)]), (1, [(.negSucc 0, .ofNat 99)]), (2, [(.ofNat 0, .ofNat 80)]), (3, [(.ofNat 0, .ofNat 1)])] [] [] [] [(0, .inr (.inl [45])), (1, .inl (false, (1, .ofNat 1, .ofNat 0))), (2, .inl (false, (2, .ofNat 1, .ofNat 0)))] [.inl (false, (3, .ofNat 1, .ofNat 0))] [(45, some 7), (45, some 8)] sg_rs_b_Z = true := by decide +kernel
set_option maxRecDepth 100000 in
theorem sg_rs_b {Q : Option Value × am_S → Prop} {d : Nat} {S : am_S} {L : am_L} {x1 x2 x3 : Int} {i1 : Int32} (hd : 1 ≤ d) (hP : ax_P0 none S) (l0 : lc L 0 45) (l1 : li L 1 x1) (l2 : li L 2 x2) (b1 : ((-1) ≤ x1 ∧ x1 ≤ 99)) (b2 : (0 ≤ x2 ∧ x2 ≤ 80)) (b3 : (0 ≤ x3 ∧ x3 ≤ 1)) (s1 : i1.toInt = x3)
    (k0 : ∀ (x4 x5 x6 : Int) (S' : am_S) (i1 : Int32), ax_P0 none S' → rd S' = sg_up (sg_up (rd S) 45 7 3) 45 8 x2 → x3 ≠ 0 → rd S 45 10 = x4 → x4 = 2 → rd S 45 12 = x5 → rd S 45 11 = x6 → x1 < 1 → ((-1) ≤ x1 ∧ x1 ≤ 0) → (0 ≤ x2 ∧ x2 ≤ 80) → (1 ≤ x3 ∧ x3 ≤ 1) → (2 ≤ x4 ∧ x4 ≤ 2) → ((-1) ≤ x5 ∧ x5 ≤ 99) → (0 ≤ x6 ∧ x6 ≤ 80) → i1.toInt = 0 → Q (some (.int i1), S'))
    (k1 : ∀ (x4 x5 x6 : Int) (S' : am_S) (i1 : Int32), ax_P0 none S' → rd S' = sg_up (sg_up (rd S) 45 7 3) 45 8 x2 → x3 ≠ 0 → rd S 45 10 = x4 → x4 = 2 → rd S 45 12 = x5 → rd S 45 11 = x6 → 1 ≤ x1 → 9 < x1 → (10 ≤ x1 ∧ x1 ≤ 99) → (0 ≤ x2 ∧ x2 ≤ 80) → (1 ≤ x3 ∧ x3 ≤ 1) → (2 ≤ x4 ∧ x4 ≤ 2) → ((-1) ≤ x5 ∧ x5 ≤ 99) → (0 ≤ x6 ∧ x6 ≤ 80) → i1.toInt = 0 → Q (some (.int i1), S'))
    (k2 : ∀ (x4 x5 x6 : Int) (L' : am_L) (S' : am_S) (i1 : Int32) (i2 : Int32), ax_P0 none S' → rd S' = rd S → x3 ≠ 0 → rd S 45 10 = x4 → x4 = 2 → rd S 45 12 = x5 → rd S 45 11 = x6 → 1 ≤ x1 → x1 ≤ 9 → x5 < x1 → (1 ≤ x1 ∧ x1 ≤ 9) → (0 ≤ x2 ∧ x2 ≤ 80) → (1 ≤ x3 ∧ x3 ≤ 1) → (2 ≤ x4 ∧ x4 ≤ 2) → ((-1) ≤ x5 ∧ x5 ≤ 8) → (0 ≤ x6 ∧ x6 ≤ 80) → lc L' 0 45 → li L' 1 x1 → li L' 2 x2 → li L' 3 x5 → li L' 4 x6 → i1.toInt = x5 → i2.toInt = x1 → am_V none d 68 110 L' ((.int i1) :: (.int i2) :: (.ref 45) :: []) S' Q)
    (k3 : ∀ (x4 x5 x6 : Int) (S' : am_S) (i1 : Int32), ax_P0 none S' → rd S' = sg_up (sg_up (rd S) 45 7 3) 45 8 x2 → x3 ≠ 0 → rd S 45 10 = x4 → x4 = 2 → rd S 45 12 = x5 → rd S 45 11 = x6 → 1 ≤ x1 → x1 ≤ 9 → x1 ≤ x5 → (1 ≤ x1 ∧ x1 ≤ 9) → (0 ≤ x2 ∧ x2 ≤ 80) → (1 ≤ x3 ∧ x3 ≤ 1) → (2 ≤ x4 ∧ x4 ≤ 2) → (1 ≤ x5 ∧ x5 ≤ 99) → (0 ≤ x6 ∧ x6 ≤ 80) → i1.toInt = 0 → Q (some (.int i1), S'))
    (k4 : ∀ (x4 x5 : Int) (S' : am_S) (i1 : Int32), ax_P0 none S' → rd S' = sg_up (sg_up (rd S) 45 7 2) 45 8 x5 → x3 ≠ 0 → rd S 45 10 = x4 → x4 ≠ 2 → rd S 45 11 = x5 → ((-1) ≤ x1 ∧ x1 ≤ 99) → (0 ≤ x2 ∧ x2 ≤ 80) → (1 ≤ x3 ∧ x3 ≤ 1) → (0 ≤ x4 ∧ x4 ≤ 1) ∨ (3 ≤ x4 ∧ x4 ≤ 3) → (0 ≤ x5 ∧ x5 ≤ 80) → i1.toInt = 0 → Q (some (.int i1), S'))
    (k5 : ∀ (S' : am_S) (i1 : Int32), ax_P0 none S' → rd S' = rd S → x3 = 0 → ((-1) ≤ x1 ∧ x1 ≤ 99) → (0 ≤ x2 ∧ x2 ≤ 80) → (0 ≤ x3 ∧ x3 ≤ 0) → i1.toInt = 0 → Q (some (.int i1), S')) : am_V none d 68 50 L ((.int i1) :: []) S Q := by
  refine sg_use sg_rs_b_g hd hP (sg_xs [0, x1, x2, x3]) ⟨⟨Int.le_refl 0, Int.le_refl 0⟩, b1, b2, b3, trivial⟩ trivial trivial trivial ⟨l0, l1, l2, trivial⟩ ⟨⟨_, rfl, s1⟩, trivial⟩ ?_
  intro z hz x' L' st' S' hx hP' hW hL' hs' hJ hE' hT' hD'
  have q1 : x' 1 = x1 := hx 1 (by decide)
  subst q1
  have q2 : x' 2 = x2 := hx 2 (by decide)
  subst q2
  have q3 : x' 3 = x3 := hx 3 (by decide)
  subst q3
  simp only [sg_rs_b_Z, List.mem_cons, List.not_mem_nil, or_false] at hz
  rcases hz with rfl | rfl | rfl | rfl | rfl | rfl
  · obtain ⟨f0, f1, f2, f3, f4, f5, hσ⟩ := hJ
    obtain ⟨e0, e1, e2, e3, e4, e5, -⟩ := hE'
    intro v hv
    subst hv
    cases v with
    | none => exact hs'.elim
    | some v1 =>
      obtain ⟨⟨i1, rfl, g1⟩, -⟩ := hs'
      exact k0 (x' 4) (x' 5) (x' 6) S' i1 hP' hσ f0 f1 f2 f3 f4 f5 e0 e1 e2 e3 e4 e5 g1
  · obtain ⟨f0, f1, f2, f3, f4, f5, f6, hσ⟩ := hJ
    obtain ⟨e0, e1, e2, e3, e4, e5, -⟩ := hE'
    intro v hv
    subst hv
    cases v with
    | none => exact hs'.elim
    | some v1 =>
      obtain ⟨⟨i1, rfl, g1⟩, -⟩ := hs'
      exact k1 (x' 4) (x' 5) (x' 6) S' i1 hP' hσ f0 f1 f2 f3 f4 f5 f6 e0 e1 e2 e3 e4 e5 g1
  · obtain ⟨f0, f1, f2, f3, f4, f5, f6, f7, hσ⟩ := hJ
    obtain ⟨e0, e1, e2, e3, e4, e5, -⟩ := hE'
    obtain ⟨p0, p1, p2, p3, p4, -⟩ := hL'
    obtain ⟨v1, r1, rfl, ⟨i1, rfl, g1⟩, hs1⟩ := sg_tc hs'
    obtain ⟨v2, r2, rfl, ⟨i2, rfl, g2⟩, hs2⟩ := sg_tc hs1
    obtain ⟨v3, r3, rfl, rfl, hs3⟩ := sg_tc hs2
    obtain rfl := sg_tn hs3
    exact k2 (x' 4) (x' 5) (x' 6) L' S' i1 i2 hP' hσ f0 f1 f2 f3 f4 f5 f6 f7 e0 e1 e2 e3 e4 e5 p0 p1 p2 p3 p4 g1 g2
  · obtain ⟨f0, f1, f2, f3, f4, f5, f6, f7, hσ⟩ := hJ
    obtain ⟨e0, e1, e2, e3, e4, e5, -⟩ := hE'
    intro v hv
    subst hv
    cases v with
    | none => exact hs'.elim
    | some v1 =>
      obtain ⟨⟨i1, rfl, g1⟩, -⟩ := hs'
      exact k3 (x' 4) (x' 5) (x' 6) S' i1 hP' hσ f0 f1 f2 f3 f4 f5 f6 f7 e0 e1 e2 e3 e4 e5 g1
  · obtain ⟨f0, f1, f2, f3, hσ⟩ := hJ
    obtain ⟨e0, e1, e2, e3, e4, -⟩ := hE'
    intro v hv
    subst hv
    cases v with
    | none => exact hs'.elim
    | some v1 =>
      obtain ⟨⟨i1, rfl, g1⟩, -⟩ := hs'
      exact k4 (x' 4) (x' 5) S' i1 hP' hσ f0 f1 f2 f3 e0 e1 e2 e3 e4 g1
  · obtain ⟨f0, hσ⟩ := hJ
    obtain ⟨e0, e1, e2, -⟩ := hE'
    intro v hv
    subst hv
    cases v with
    | none => exact hs'.elim
    | some v1 =>
      obtain ⟨⟨i1, rfl, g1⟩, -⟩ := hs'
      exact k5 S' i1 hP' hσ f0 e0 e1 e2 g1
def sg_rs_c_Z : List sg_z := [(126, [(0, .inr (.inl [45])), (1, .inl (false, (1, .ofNat 1, .ofNat 0))), (2, .inl (false, (2, .ofNat 1, .ofNat 0))), (3, .inl (false, (3, .ofNat 1, .ofNat 0))), (4, .inl (false, (4, .ofNat 1, .ofNat 0)))], [.inr (.inl [45])], [(2, 0, (5, .ofNat 1, .ofNat 0), (0, .ofNat 0, .ofNat 0), (0, .ofNat 0, .ofNat 0))], [(1, [(.ofNat 1, .ofNat 9)]), (2, [(.ofNat 0, .ofNat 80)]), (3, [(.negSucc 0, .ofNat 8)]), (4, [(.ofNat 0, .ofNat 80)]), (5, [(.ofNat 0, .ofNat 0)])], [], []),
  (0, [], [.inl (false, (0, .ofNat 0, .ofNat 0))], [(1, 45, (0, .ofNat 0, .ofNat 8), (4, .ofNat 1, .ofNat 0), (0, .ofNat 0, .ofNat 0)), (1, 45, (0, .ofNat 0, .ofNat 7), (0, .ofNat 0, .ofNat 4), (0, .ofNat 0, .ofNat 0)), (2, 1, (5, .ofNat 1, .ofNat 0), (0, .ofNat 0, .ofNat 0), (0, .ofNat 0, .ofNat 0))], [(1, [(.ofNat 1, .ofNat 9)]), (2, [(.ofNat 0, .ofNat 80)]), (3, [(.negSucc 0, .ofNat 8)]), (4, [(.ofNat 0, .ofNat 80)]), (5, [(.ofNat 1, .ofNat 1)])], [], [])]
set_option maxRecDepth 1000000 in
theorem sg_rs_c_g : sg_go [] [125] 3000 68 113 1 6 [(0, [(.ofNat 0, .ofNat 0)]), (1, [(.ofNat 1, .ofNat 9)]), (2, [(.ofNat 0, .ofNat 80)]), (3, [(.negSucc 0, .ofNat 8)]), (4, [(.ofNat 0, .ofNat 80)]), (5, [(.ofNat 0, .ofNat 1)])] [] [] [] [(0, .inr (.inl [45])), (1, .inl (false, (1, .ofNat 1, .ofNat 0))), (2, .inl (false, (2, .ofNat 1, .ofNat 0))), (3, .inl (false, (3, .ofNat 1, .ofNat 0))), (4, .inl (false, (4, .ofNat 1, .ofNat 0)))] [.inl (false, (5, .ofNat 1, .ofNat 0))] [(45, some 7), (45, some 8)] sg_rs_c_Z = true := by decide +kernel
set_option maxRecDepth 100000 in
theorem sg_rs_c {Q : Option Value × am_S → Prop} {d : Nat} {S : am_S} {L : am_L} {x1 x2 x3 x4 x5 : Int} {i1 : Int32} (hd : 1 ≤ d) (hP : ax_P0 none S) (l0 : lc L 0 45) (l1 : li L 1 x1) (l2 : li L 2 x2) (l3 : li L 3 x3) (l4 : li L 4 x4) (b1 : (1 ≤ x1 ∧ x1 ≤ 9)) (b2 : (0 ≤ x2 ∧ x2 ≤ 80)) (b3 : ((-1) ≤ x3 ∧ x3 ≤ 8)) (b4 : (0 ≤ x4 ∧ x4 ≤ 80)) (b5 : (0 ≤ x5 ∧ x5 ≤ 1)) (s1 : i1.toInt = x5)
    (k0 : ∀ (L' : am_L) (S' : am_S), ax_P0 none S' → rd S' = rd S → x5 = 0 → (1 ≤ x1 ∧ x1 ≤ 9) → (0 ≤ x2 ∧ x2 ≤ 80) → ((-1) ≤ x3 ∧ x3 ≤ 8) → (0 ≤ x4 ∧ x4 ≤ 80) → (0 ≤ x5 ∧ x5 ≤ 0) → lc L' 0 45 → li L' 1 x1 → li L' 2 x2 → li L' 3 x3 → li L' 4 x4 → am_V none d 68 125 L' ((.ref 45) :: []) S' Q)
    (k1 : ∀ (S' : am_S) (i1 : Int32), ax_P0 none S' → rd S' = sg_up (sg_up (rd S) 45 7 4) 45 8 x4 → x5 ≠ 0 → (1 ≤ x1 ∧ x1 ≤ 9) → (0 ≤ x2 ∧ x2 ≤ 80) → ((-1) ≤ x3 ∧ x3 ≤ 8) → (0 ≤ x4 ∧ x4 ≤ 80) → (1 ≤ x5 ∧ x5 ≤ 1) → i1.toInt = 0 → Q (some (.int i1), S')) : am_V none d 68 113 L ((.int i1) :: []) S Q := by
  refine sg_use sg_rs_c_g hd hP (sg_xs [0, x1, x2, x3, x4, x5]) ⟨⟨Int.le_refl 0, Int.le_refl 0⟩, b1, b2, b3, b4, b5, trivial⟩ trivial trivial trivial ⟨l0, l1, l2, l3, l4, trivial⟩ ⟨⟨_, rfl, s1⟩, trivial⟩ ?_
  intro z hz x' L' st' S' hx hP' hW hL' hs' hJ hE' hT' hD'
  have q1 : x' 1 = x1 := hx 1 (by decide)
  subst q1
  have q2 : x' 2 = x2 := hx 2 (by decide)
  subst q2
  have q3 : x' 3 = x3 := hx 3 (by decide)
  subst q3
  have q4 : x' 4 = x4 := hx 4 (by decide)
  subst q4
  have q5 : x' 5 = x5 := hx 5 (by decide)
  subst q5
  simp only [sg_rs_c_Z, List.mem_cons, List.not_mem_nil, or_false] at hz
  rcases hz with rfl | rfl
  · obtain ⟨f0, hσ⟩ := hJ
    obtain ⟨e0, e1, e2, e3, e4, -⟩ := hE'
    obtain ⟨p0, p1, p2, p3, p4, -⟩ := hL'
    obtain ⟨v1, r1, rfl, rfl, hs1⟩ := sg_tc hs'
    obtain rfl := sg_tn hs1
    exact k0 L' S' hP' hσ f0 e0 e1 e2 e3 e4 p0 p1 p2 p3 p4
  · obtain ⟨f0, hσ⟩ := hJ
    obtain ⟨e0, e1, e2, e3, e4, -⟩ := hE'
    intro v hv
    subst hv
    cases v with
    | none => exact hs'.elim
    | some v1 =>
      obtain ⟨⟨i1, rfl, g1⟩, -⟩ := hs'
      exact k1 S' i1 hP' hσ f0 e0 e1 e2 e3 e4 g1
def sg_rs_d_Z : List sg_z := [(155, [(0, .inr (.inl [45])), (1, .inl (false, (1, .ofNat 1, .ofNat 0))), (2, .inl (false, (2, .ofNat 1, .ofNat 0))), (3, .inl (false, (3, .ofNat 1, .ofNat 0))), (4, .inl (false, (4, .ofNat 1, .ofNat 0)))], [.inl (false, (3, .ofNat 1, .ofNat 0)), .inl (false, (1, .ofNat 1, .ofNat 0)), .inr (.inl [45])], [(2, 0, (7, .ofNat 1, .ofNat 0), (0, .ofNat 0, .ofNat 3), (0, .ofNat 0, .ofNat 0)), (0, 45, (0, .ofNat 0, .ofNat 10), (7, .ofNat 1, .ofNat 0), (0, .ofNat 0, .ofNat 0)), (2, 1, (5, .ofNat 1, .ofNat 0), (0, .ofNat 0, .ofNat 0), (0, .ofNat 0, .ofNat 0))], [(1, [(.ofNat 1, .ofNat 9)]), (2, [(.ofNat 0, .ofNat 80)]), (3, [(.negSucc 0, .ofNat 8)]), (4, [(.ofNat 0, .ofNat 80)]), (5, [(.ofNat 1, .ofNat 1)]), (6, [(.ofNat 0, .ofNat 3)]), (7, [(.ofNat 3, .ofNat 3)])], [], []),
  (0, [], [.inl (false, (0, .ofNat 0, .ofNat 1))], [(1, 45, (0, .ofNat 0, .ofNat 2), (6, .ofNat 1, .ofNat 1), (0, .ofNat 0, .ofNat 0)), (0, 45, (0, .ofNat 0, .ofNat 2), (6, .ofNat 1, .ofNat 0), (0, .ofNat 0, .ofNat 0)), (1, 45, (0, .ofNat 0, .ofNat 6), (8, .ofNat 1, .ofNat 1), (0, .ofNat 0, .ofNat 0)), (0, 45, (0, .ofNat 0, .ofNat 6), (8, .ofNat 1, .ofNat 0), (0, .ofNat 0, .ofNat 0)), (1, 49, (6, .ofNat 1, .ofNat 0), (0, .ofNat 0, .ofNat 1), (0, .ofNat 0, .ofNat 0)), (0, 45, (0, .ofNat 0, .ofNat 2), (6, .ofNat 1, .ofNat 0), (0, .ofNat 0, .ofNat 0)), (1, 48, (6, .ofNat 1, .ofNat 0), (3, .ofNat 1, .ofNat 0), (0, .ofNat 0, .ofNat 0)), (0, 45, (0, .ofNat 0, .ofNat 2), (6, .ofNat 1, .ofNat 0), (0, .ofNat 0, .ofNat 0)), (1, 47, (6, .ofNat 1, .ofNat 0), (1, .ofNat 1, .ofNat 0), (0, .ofNat 0, .ofNat 0)), (0, 45, (0, .ofNat 0, .ofNat 2), (6, .ofNat 1, .ofNat 0), (0, .ofNat 0, .ofNat 0)), (2, 5, (8, .ofNat 1, .ofNat 1), (0, .ofNat 0, .ofNat 12), (0, .ofNat 0, .ofNat 0)), (0, 45, (0, .ofNat 0, .ofNat 6), (8, .ofNat 1, .ofNat 0), (0, .ofNat 0, .ofNat 0)), (2, 1, (7, .ofNat 1, .ofNat 0), (0, .ofNat 0, .ofNat 3), (0, .ofNat 0, .ofNat 0)), (0, 45, (0, .ofNat 0, .ofNat 10), (7, .ofNat 1, .ofNat 0), (0, .ofNat 0, .ofNat 0)), (2, 1, (5, .ofNat 1, .ofNat 0), (0, .ofNat 0, .ofNat 0), (0, .ofNat 0, .ofNat 0))], [(1, [(.ofNat 1, .ofNat 9)]), (2, [(.ofNat 0, .ofNat 80)]), (3, [(.negSucc 0, .ofNat 8)]), (4, [(.ofNat 0, .ofNat 80)]), (5, [(.ofNat 1, .ofNat 1)]), (6, [(.ofNat 0, .ofNat 3)]), (7, [(.ofNat 0, .ofNat 2)]), (8, [(.ofNat 0, .ofNat 11)])], [], []),
  (0, [], [.inl (false, (0, .ofNat 0, .ofNat 0))], [(1, 45, (0, .ofNat 0, .ofNat 8), (4, .ofNat 1, .ofNat 0), (0, .ofNat 0, .ofNat 0)), (1, 45, (0, .ofNat 0, .ofNat 7), (0, .ofNat 0, .ofNat 5), (0, .ofNat 0, .ofNat 0)), (2, 4, (8, .ofNat 1, .ofNat 1), (0, .ofNat 0, .ofNat 12), (0, .ofNat 0, .ofNat 0)), (0, 45, (0, .ofNat 0, .ofNat 6), (8, .ofNat 1, .ofNat 0), (0, .ofNat 0, .ofNat 0)), (2, 1, (7, .ofNat 1, .ofNat 0), (0, .ofNat 0, .ofNat 3), (0, .ofNat 0, .ofNat 0)), (0, 45, (0, .ofNat 0, .ofNat 10), (7, .ofNat 1, .ofNat 0), (0, .ofNat 0, .ofNat 0)), (2, 1, (5, .ofNat 1, .ofNat 0), (0, .ofNat 0, .ofNat 0), (0, .ofNat 0, .ofNat 0))], [(1, [(.ofNat 1, .ofNat 9)]), (2, [(.ofNat 0, .ofNat 80)]), (3, [(.negSucc 0, .ofNat 8)]), (4, [(.ofNat 0, .ofNat 80)]), (5, [(.ofNat 1, .ofNat 1)]), (6, [(.ofNat 0, .ofNat 3)]), (7, [(.ofNat 0, .ofNat 2)]), (8, [(.ofNat 12, .ofNat 12)])], [], []),
  (0, [], [.inl (false, (0, .ofNat 0, .ofNat 0))], [(2, 0, (5, .ofNat 1, .ofNat 0), (0, .ofNat 0, .ofNat 0), (0, .ofNat 0, .ofNat 0))], [(1, [(.ofNat 1, .ofNat 9)]), (2, [(.ofNat 0, .ofNat 80)]), (3, [(.negSucc 0, .ofNat 8)]), (4, [(.ofNat 0, .ofNat 80)]), (5, [(.ofNat 0, .ofNat 0)]), (6, [(.ofNat 0, .ofNat 3)])], [], [])]
set_option maxRecDepth 1000000 in
theorem sg_rs_d_g : sg_go [] [154] 3000 68 128 2 7 [(0, [(.ofNat 0, .ofNat 0)]), (1, [(.ofNat 1, .ofNat 9)]), (2, [(.ofNat 0, .ofNat 80)]), (3, [(.negSucc 0, .ofNat 8)]), (4, [(.ofNat 0, .ofNat 80)]), (5, [(.ofNat 0, .ofNat 1)]), (6, [(.ofNat 0, .ofNat 3)])] [(45, (0, .ofNat 0, .ofNat 2), (6, .ofNat 1, .ofNat 0))] [] [] [(0, .inr (.inl [45])), (1, .inl (false, (1, .ofNat 1, .ofNat 0))), (2, .inl (false, (2, .ofNat 1, .ofNat 0))), (3, .inl (false, (3, .ofNat 1, .ofNat 0))), (4, .inl (false, (4, .ofNat 1, .ofNat 0)))] [.inl (false, (5, .ofNat 1, .ofNat 0))] [(45, some 2), (45, some 6), (45, some 7), (45, some 8), (47, none), (48, none), (49, none)] sg_rs_d_Z = true := by decide +kernel
set_option maxRecDepth 100000 in
theorem sg_rs_d {Q : Option Value × am_S → Prop} {d : Nat} {S : am_S} {L : am_L} {x1 x2 x3 x4 x5 x6 : Int} {i1 : Int32} (hd : 2 ≤ d) (hP : ax_P0 none S) (l0 : lc L 0 45) (l1 : li L 1 x1) (l2 : li L 2 x2) (l3 : li L 3 x3) (l4 : li L 4 x4) (b1 : (1 ≤ x1 ∧ x1 ≤ 9)) (b2 : (0 ≤ x2 ∧ x2 ≤ 80)) (b3 : ((-1) ≤ x3 ∧ x3 ≤ 8)) (b4 : (0 ≤ x4 ∧ x4 ≤ 80)) (b5 : (0 ≤ x5 ∧ x5 ≤ 1)) (b6 : (0 ≤ x6 ∧ x6 ≤ 3)) (m45_2 : rd S 45 2 = x6) (s1 : i1.toInt = x5)
    (k0 : ∀ (x7 : Int) (L' : am_L) (S' : am_S) (i1 : Int32) (i2 : Int32), ax_P0 none S' → rd S' = rd S → x5 ≠ 0 → rd S 45 10 = x7 → x7 = 3 → (1 ≤ x1 ∧ x1 ≤ 9) → (0 ≤ x2 ∧ x2 ≤ 80) → ((-1) ≤ x3 ∧ x3 ≤ 8) → (0 ≤ x4 ∧ x4 ≤ 80) → (1 ≤ x5 ∧ x5 ≤ 1) → (0 ≤ x6 ∧ x6 ≤ 3) → (3 ≤ x7 ∧ x7 ≤ 3) → lc L' 0 45 → li L' 1 x1 → li L' 2 x2 → li L' 3 x3 → li L' 4 x4 → i1.toInt = x3 → i2.toInt = x1 → am_V none d 68 154 L' ((.int i1) :: (.int i2) :: (.ref 45) :: []) S' Q)
    (k1 : ∀ (x7 x8 : Int) (S' : am_S) (i1 : Int32), ax_P0 none S' → rd S' = sg_up (sg_up (sg_up (sg_up (sg_up (rd S) 47 x6 x1) 48 x6 x3) 49 x6 1) 45 6 (x8 + 1)) 45 2 (x6 + 1) → x5 ≠ 0 → rd S 45 10 = x7 → x7 ≠ 3 → rd S 45 6 = x8 → x8 + 1 ≤ 12 → rd S 45 2 = x6 → (1 ≤ x1 ∧ x1 ≤ 9) → (0 ≤ x2 ∧ x2 ≤ 80) → ((-1) ≤ x3 ∧ x3 ≤ 8) → (0 ≤ x4 ∧ x4 ≤ 80) → (1 ≤ x5 ∧ x5 ≤ 1) → (0 ≤ x6 ∧ x6 ≤ 3) → (0 ≤ x7 ∧ x7 ≤ 2) → (0 ≤ x8 ∧ x8 ≤ 11) → i1.toInt = 1 → Q (some (.int i1), S'))
    (k2 : ∀ (x7 x8 : Int) (S' : am_S) (i1 : Int32), ax_P0 none S' → rd S' = sg_up (sg_up (rd S) 45 7 5) 45 8 x4 → x5 ≠ 0 → rd S 45 10 = x7 → x7 ≠ 3 → rd S 45 6 = x8 → 12 < x8 + 1 → (1 ≤ x1 ∧ x1 ≤ 9) → (0 ≤ x2 ∧ x2 ≤ 80) → ((-1) ≤ x3 ∧ x3 ≤ 8) → (0 ≤ x4 ∧ x4 ≤ 80) → (1 ≤ x5 ∧ x5 ≤ 1) → (0 ≤ x6 ∧ x6 ≤ 3) → (0 ≤ x7 ∧ x7 ≤ 2) → (12 ≤ x8 ∧ x8 ≤ 12) → i1.toInt = 0 → Q (some (.int i1), S'))
    (k3 : ∀ (S' : am_S) (i1 : Int32), ax_P0 none S' → rd S' = rd S → x5 = 0 → (1 ≤ x1 ∧ x1 ≤ 9) → (0 ≤ x2 ∧ x2 ≤ 80) → ((-1) ≤ x3 ∧ x3 ≤ 8) → (0 ≤ x4 ∧ x4 ≤ 80) → (0 ≤ x5 ∧ x5 ≤ 0) → (0 ≤ x6 ∧ x6 ≤ 3) → i1.toInt = 0 → Q (some (.int i1), S')) : am_V none d 68 128 L ((.int i1) :: []) S Q := by
  refine sg_use sg_rs_d_g hd hP (sg_xs [0, x1, x2, x3, x4, x5, x6]) ⟨⟨Int.le_refl 0, Int.le_refl 0⟩, b1, b2, b3, b4, b5, b6, trivial⟩ ⟨sg_fs hP rfl m45_2, trivial⟩ trivial trivial ⟨l0, l1, l2, l3, l4, trivial⟩ ⟨⟨_, rfl, s1⟩, trivial⟩ ?_
  intro z hz x' L' st' S' hx hP' hW hL' hs' hJ hE' hT' hD'
  have q1 : x' 1 = x1 := hx 1 (by decide)
  subst q1
  have q2 : x' 2 = x2 := hx 2 (by decide)
  subst q2
  have q3 : x' 3 = x3 := hx 3 (by decide)
  subst q3
  have q4 : x' 4 = x4 := hx 4 (by decide)
  subst q4
  have q5 : x' 5 = x5 := hx 5 (by decide)
  subst q5
  have q6 : x' 6 = x6 := hx 6 (by decide)
  subst q6
  simp only [sg_rs_d_Z, List.mem_cons, List.not_mem_nil, or_false] at hz
  rcases hz with rfl | rfl | rfl | rfl
  · obtain ⟨f0, f1, f2, hσ⟩ := hJ
    obtain ⟨e0, e1, e2, e3, e4, e5, e6, -⟩ := hE'
    obtain ⟨p0, p1, p2, p3, p4, -⟩ := hL'
    obtain ⟨v1, r1, rfl, ⟨i1, rfl, g1⟩, hs1⟩ := sg_tc hs'
    obtain ⟨v2, r2, rfl, ⟨i2, rfl, g2⟩, hs2⟩ := sg_tc hs1
    obtain ⟨v3, r3, rfl, rfl, hs3⟩ := sg_tc hs2
    obtain rfl := sg_tn hs3
    exact k0 (x' 7) L' S' i1 i2 hP' hσ f0 f1 f2 e0 e1 e2 e3 e4 e5 e6 p0 p1 p2 p3 p4 g1 g2
  · obtain ⟨f0, f1, f2, f3, f4, f5, -, -, -, -, hσ⟩ := hJ
    obtain ⟨e0, e1, e2, e3, e4, e5, e6, e7, -⟩ := hE'
    intro v hv
    subst hv
    cases v with
    | none => exact hs'.elim
    | some v1 =>
      obtain ⟨⟨i1, rfl, g1⟩, -⟩ := hs'
      exact k1 (x' 7) (x' 8) S' i1 hP' hσ f0 f1 f2 f3 f4 f5 e0 e1 e2 e3 e4 e5 e6 e7 g1
  · obtain ⟨f0, f1, f2, f3, f4, hσ⟩ := hJ
    obtain ⟨e0, e1, e2, e3, e4, e5, e6, e7, -⟩ := hE'
    intro v hv
    subst hv
    cases v with
    | none => exact hs'.elim
    | some v1 =>
      obtain ⟨⟨i1, rfl, g1⟩, -⟩ := hs'
      exact k2 (x' 7) (x' 8) S' i1 hP' hσ f0 f1 f2 f3 f4 e0 e1 e2 e3 e4 e5 e6 e7 g1
  · obtain ⟨f0, hσ⟩ := hJ
    obtain ⟨e0, e1, e2, e3, e4, e5, -⟩ := hE'
    intro v hv
    subst hv
    cases v with
    | none => exact hs'.elim
    | some v1 =>
      obtain ⟨⟨i1, rfl, g1⟩, -⟩ := hs'
      exact k3 S' i1 hP' hσ f0 e0 e1 e2 e3 e4 e5 g1
def sg_ra_a_Z : List sg_z := [(2, [(0, .inr (.inl [45])), (1, .inl (false, (1, .ofNat 1, .ofNat 0))), (2, .inl (false, (2, .ofNat 1, .ofNat 0)))], [.inr (.inl [45])], [], [(1, [(.ofNat 1, .ofNat 9)]), (2, [(.negSucc 0, .ofNat 8)])], [], [])]
set_option maxRecDepth 1000000 in
theorem sg_ra_a_g : sg_go [] [1] 3000 69 0 0 3 [(0, [(.ofNat 0, .ofNat 0)]), (1, [(.ofNat 1, .ofNat 9)]), (2, [(.negSucc 0, .ofNat 8)])] [] [] [] [(0, .inr (.inl [45])), (1, .inl (false, (1, .ofNat 1, .ofNat 0))), (2, .inl (false, (2, .ofNat 1, .ofNat 0)))] [] [] sg_ra_a_Z = true := by decide +kernel
set_option maxRecDepth 100000 in
theorem sg_ra_a {Q : Option Value × am_S → Prop} {d : Nat} {S : am_S} {L : am_L} {x1 x2 : Int} (hd : 0 ≤ d) (hP : ax_P0 none S) (l0 : lc L 0 45) (l1 : li L 1 x1) (l2 : li L 2 x2) (b1 : (1 ≤ x1 ∧ x1 ≤ 9)) (b2 : ((-1) ≤ x2 ∧ x2 ≤ 8))
    (k0 : ∀ (L' : am_L), (1 ≤ x1 ∧ x1 ≤ 9) → ((-1) ≤ x2 ∧ x2 ≤ 8) → lc L' 0 45 → li L' 1 x1 → li L' 2 x2 → am_V none d 69 1 L' ((.ref 45) :: []) S Q) : am_V none d 69 0 L ([]) S Q := by
  refine sg_use sg_ra_a_g hd hP (sg_xs [0, x1, x2]) ⟨⟨Int.le_refl 0, Int.le_refl 0⟩, b1, b2, trivial⟩ trivial trivial trivial ⟨l0, l1, l2, trivial⟩ trivial ?_
  intro z hz x' L' st' S' hx hP' hW hL' hs' hJ hE' hT' hD'
  have q1 : x' 1 = x1 := hx 1 (by decide)
  subst q1
  have q2 : x' 2 = x2 := hx 2 (by decide)
  subst q2
  have eS : S' = S := hW.1 rfl
  subst eS
  simp only [sg_ra_a_Z, List.mem_cons, List.not_mem_nil, or_false] at hz
  rcases hz with rfl
  · have hσ := hJ
    obtain ⟨e0, e1, -⟩ := hE'
    obtain ⟨p0, p1, p2, -⟩ := hL'
    obtain ⟨v1, r1, rfl, rfl, hs1⟩ := sg_tc hs'
    obtain rfl := sg_tn hs1
    exact k0 L' e0 e1 p0 p1 p2
def sg_ra_b_Z : List sg_z := [(0, [], [.inl (false, (0, .ofNat 0, .ofNat 0))], [(1, 45, (0, .ofNat 0, .ofNat 8), (7, .ofNat 1, .ofNat 0), (0, .ofNat 0, .ofNat 0)), (1, 45, (0, .ofNat 0, .ofNat 7), (0, .ofNat 0, .ofNat 3), (0, .ofNat 0, .ofNat 0)), (0, 45, (0, .ofNat 0, .ofNat 11), (7, .ofNat 1, .ofNat 0), (0, .ofNat 0, .ofNat 0)), (2, 2, (6, .ofNat 1, .ofNat 0), (0, .ofNat 0, .ofNat 1), (0, .ofNat 0, .ofNat 0)), (0, 45, (0, .ofNat 0, .ofNat 12), (6, .ofNat 1, .ofNat 0), (0, .ofNat 0, .ofNat 0)), (2, 0, (5, .ofNat 1, .ofNat 0), (0, .ofNat 0, .ofNat 1), (0, .ofNat 0, .ofNat 0)), (0, 45, (0, .ofNat 0, .ofNat 10), (5, .ofNat 1, .ofNat 0), (0, .ofNat 0, .ofNat 0)), (2, 1, (3, .ofNat 1, .ofNat 0), (0, .ofNat 0, .ofNat 0), (0, .ofNat 0, .ofNat 0))], [(1, [(.ofNat 1, .ofNat 9)]), (2, [(.negSucc 0, .ofNat 8)]), (3, [(.ofNat 1, .ofNat 1)]), (4, [(.ofNat 0, .ofNat 3)]), (5, [(.ofNat 1, .ofNat 1)]), (6, [(.negSucc 0, .ofNat 0)]), (7, [(.ofNat 0, .ofNat 80)])], [], []),
  (76, [(0, .inr (.inl [45])), (1, .inl (false, (1, .ofNat 1, .ofNat 0))), (2, .inl (false, (2, .ofNat 1, .ofNat 0)))], [.inr (.inl [45])], [(2, 1, (0, .ofNat 0, .ofNat 1), (0, .ofNat 0, .ofNat 0), (0, .ofNat 0, .ofNat 0)), (1, 45, (0, .ofNat 0, .ofNat 2), (4, .ofNat 1, .ofNat 1), (0, .ofNat 0, .ofNat 0)), (0, 45, (0, .ofNat 0, .ofNat 2), (4, .ofNat 1, .ofNat 0), (0, .ofNat 0, .ofNat 0)), (1, 45, (0, .ofNat 0, .ofNat 6), (9, .ofNat 1, .ofNat 0), (0, .ofNat 0, .ofNat 0)), (0, 45, (0, .ofNat 0, .ofNat 6), (8, .ofNat 1, .ofNat 0), (0, .ofNat 0, .ofNat 0)), (1, 49, (4, .ofNat 1, .ofNat 0), (6, .ofNat 1, .ofNat 0), (0, .ofNat 0, .ofNat 0)), (0, 45, (0, .ofNat 0, .ofNat 2), (4, .ofNat 1, .ofNat 0), (0, .ofNat 0, .ofNat 0)), (1, 48, (4, .ofNat 1, .ofNat 0), (2, .ofNat 1, .ofNat 0), (0, .ofNat 0, .ofNat 0)), (0, 45, (0, .ofNat 0, .ofNat 2), (4, .ofNat 1, .ofNat 0), (0, .ofNat 0, .ofNat 0)), (1, 47, (4, .ofNat 1, .ofNat 0), (1, .ofNat 1, .ofNat 0), (0, .ofNat 0, .ofNat 0)), (0, 45, (0, .ofNat 0, .ofNat 2), (4, .ofNat 1, .ofNat 0), (0, .ofNat 0, .ofNat 0)), (2, 5, (9, .ofNat 1, .ofNat 0), (0, .ofNat 0, .ofNat 12), (0, .ofNat 0, .ofNat 0)), (0, 45, (0, .ofNat 0, .ofNat 6), (8, .ofNat 1, .ofNat 0), (0, .ofNat 0, .ofNat 0)), (0, 45, (0, .ofNat 0, .ofNat 11), (7, .ofNat 1, .ofNat 0), (0, .ofNat 0, .ofNat 0)), (0, 45, (0, .ofNat 0, .ofNat 12), (6, .ofNat 1, .ofNat 0), (0, .ofNat 0, .ofNat 0)), (2, 5, (6, .ofNat 1, .ofNat 0), (2, .ofNat 4, .ofNat 2), (0, .ofNat 0, .ofNat 0)), (0, 45, (0, .ofNat 0, .ofNat 12), (6, .ofNat 1, .ofNat 0), (0, .ofNat 0, .ofNat 0)), (2, 3, (6, .ofNat 1, .ofNat 0), (0, .ofNat 0, .ofNat 1), (0, .ofNat 0, .ofNat 0)), (0, 45, (0, .ofNat 0, .ofNat 12), (6, .ofNat 1, .ofNat 0), (0, .ofNat 0, .ofNat 0)), (2, 0, (5, .ofNat 1, .ofNat 0), (0, .ofNat 0, .ofNat 1), (0, .ofNat 0, .ofNat 0)), (0, 45, (0, .ofNat 0, .ofNat 10), (5, .ofNat 1, .ofNat 0), (0, .ofNat 0, .ofNat 0)), (2, 1, (3, .ofNat 1, .ofNat 0), (0, .ofNat 0, .ofNat 0), (0, .ofNat 0, .ofNat 0))], [(1, [(.ofNat 1, .ofNat 9)]), (2, [(.ofNat 0, .ofNat 8)]), (3, [(.ofNat 1, .ofNat 1)]), (4, [(.ofNat 0, .ofNat 3)]), (5, [(.ofNat 1, .ofNat 1)]), (6, [(.ofNat 1, .ofNat 12)]), (7, [(.ofNat 0, .ofNat 80)]), (8, [(.ofNat 0, .ofNat 12)]), (9, [(.ofNat 1, .ofNat 12)])], [((8, .ofNat 1, .ofNat 0), (6, .ofNat 1, .ofNat 0), (9, .ofNat 1, .ofNat 0))], []),
  (0, [], [.inl (false, (0, .ofNat 0, .ofNat 0))], [(2, 0, (0, .ofNat 0, .ofNat 0), (0, .ofNat 0, .ofNat 0), (0, .ofNat 0, .ofNat 0)), (1, 45, (0, .ofNat 0, .ofNat 8), (7, .ofNat 1, .ofNat 0), (0, .ofNat 0, .ofNat 0)), (1, 45, (0, .ofNat 0, .ofNat 7), (0, .ofNat 0, .ofNat 5), (0, .ofNat 0, .ofNat 0)), (2, 4, (9, .ofNat 1, .ofNat 0), (0, .ofNat 0, .ofNat 12), (0, .ofNat 0, .ofNat 0)), (0, 45, (0, .ofNat 0, .ofNat 6), (8, .ofNat 1, .ofNat 0), (0, .ofNat 0, .ofNat 0)), (0, 45, (0, .ofNat 0, .ofNat 11), (7, .ofNat 1, .ofNat 0), (0, .ofNat 0, .ofNat 0)), (0, 45, (0, .ofNat 0, .ofNat 12), (6, .ofNat 1, .ofNat 0), (0, .ofNat 0, .ofNat 0)), (2, 5, (6, .ofNat 1, .ofNat 0), (2, .ofNat 4, .ofNat 2), (0, .ofNat 0, .ofNat 0)), (0, 45, (0, .ofNat 0, .ofNat 12), (6, .ofNat 1, .ofNat 0), (0, .ofNat 0, .ofNat 0)), (2, 3, (6, .ofNat 1, .ofNat 0), (0, .ofNat 0, .ofNat 1), (0, .ofNat 0, .ofNat 0)), (0, 45, (0, .ofNat 0, .ofNat 12), (6, .ofNat 1, .ofNat 0), (0, .ofNat 0, .ofNat 0)), (2, 0, (5, .ofNat 1, .ofNat 0), (0, .ofNat 0, .ofNat 1), (0, .ofNat 0, .ofNat 0)), (0, 45, (0, .ofNat 0, .ofNat 10), (5, .ofNat 1, .ofNat 0), (0, .ofNat 0, .ofNat 0)), (2, 1, (3, .ofNat 1, .ofNat 0), (0, .ofNat 0, .ofNat 0), (0, .ofNat 0, .ofNat 0))], [(1, [(.ofNat 1, .ofNat 9)]), (2, [(.ofNat 0, .ofNat 8)]), (3, [(.ofNat 1, .ofNat 1)]), (4, [(.ofNat 0, .ofNat 3)]), (5, [(.ofNat 1, .ofNat 1)]), (6, [(.ofNat 1, .ofNat 34)]), (7, [(.ofNat 0, .ofNat 80)]), (8, [(.ofNat 0, .ofNat 12)]), (9, [(.ofNat 13, .ofNat 46)])], [((8, .ofNat 1, .ofNat 0), (6, .ofNat 1, .ofNat 0), (9, .ofNat 1, .ofNat 0))], []),
  (0, [], [.inl (false, (0, .ofNat 0, .ofNat 0))], [(1, 45, (0, .ofNat 0, .ofNat 8), (7, .ofNat 1, .ofNat 0), (0, .ofNat 0, .ofNat 0)), (1, 45, (0, .ofNat 0, .ofNat 7), (0, .ofNat 0, .ofNat 3), (0, .ofNat 0, .ofNat 0)), (0, 45, (0, .ofNat 0, .ofNat 11), (7, .ofNat 1, .ofNat 0), (0, .ofNat 0, .ofNat 0)), (2, 4, (6, .ofNat 1, .ofNat 0), (2, .ofNat 4, .ofNat 2), (0, .ofNat 0, .ofNat 0)), (0, 45, (0, .ofNat 0, .ofNat 12), (6, .ofNat 1, .ofNat 0), (0, .ofNat 0, .ofNat 0)), (2, 3, (6, .ofNat 1, .ofNat 0), (0, .ofNat 0, .ofNat 1), (0, .ofNat 0, .ofNat 0)), (0, 45, (0, .ofNat 0, .ofNat 12), (6, .ofNat 1, .ofNat 0), (0, .ofNat 0, .ofNat 0)), (2, 0, (5, .ofNat 1, .ofNat 0), (0, .ofNat 0, .ofNat 1), (0, .ofNat 0, .ofNat 0)), (0, 45, (0, .ofNat 0, .ofNat 10), (5, .ofNat 1, .ofNat 0), (0, .ofNat 0, .ofNat 0)), (2, 1, (3, .ofNat 1, .ofNat 0), (0, .ofNat 0, .ofNat 0), (0, .ofNat 0, .ofNat 0))], [(1, [(.ofNat 1, .ofNat 9)]), (2, [(.negSucc 0, .ofNat 8)]), (3, [(.ofNat 1, .ofNat 1)]), (4, [(.ofNat 0, .ofNat 3)]), (5, [(.ofNat 1, .ofNat 1)]), (6, [(.ofNat 1, .ofNat 99)]), (7, [(.ofNat 0, .ofNat 80)])], [], []),
  (0, [], [.inl (false, (0, .ofNat 0, .ofNat 0))], [(1, 45, (0, .ofNat 0, .ofNat 8), (6, .ofNat 1, .ofNat 0), (0, .ofNat 0, .ofNat 0)), (1, 45, (0, .ofNat 0, .ofNat 7), (0, .ofNat 0, .ofNat 2), (0, .ofNat 0, .ofNat 0)), (0, 45, (0, .ofNat 0, .ofNat 11), (6, .ofNat 1, .ofNat 0), (0, .ofNat 0, .ofNat 0)), (2, 1, (5, .ofNat 1, .ofNat 0), (0, .ofNat 0, .ofNat 1), (0, .ofNat 0, .ofNat 0)), (0, 45, (0, .ofNat 0, .ofNat 10), (5, .ofNat 1, .ofNat 0), (0, .ofNat 0, .ofNat 0)), (2, 1, (3, .ofNat 1, .ofNat 0), (0, .ofNat 0, .ofNat 0), (0, .ofNat 0, .ofNat 0))], [(1, [(.ofNat 1, .ofNat 9)]), (2, [(.negSucc 0, .ofNat 8)]), (3, [(.ofNat 1, .ofNat 1)]), (4, [(.ofNat 0, .ofNat 3)]), (5, [(.ofNat 0, .ofNat 0), (.ofNat 2, .ofNat 3)]), (6, [(.ofNat 0, .ofNat 80)])], [], []),
  (0, [], [.inl (false, (0, .ofNat 0, .ofNat 0))], [(2, 0, (3, .ofNat 1, .ofNat 0), (0, .ofNat 0, .ofNat 0), (0, .ofNat 0, .ofNat 0))], [(1, [(.ofNat 1, .ofNat 9)]), (2, [(.negSucc 0, .ofNat 8)]), (3, [(.ofNat 0, .ofNat 0)]), (4, [(.ofNat 0, .ofNat 3)])], [], [])]
set_option maxRecDepth 1000000 in
theorem sg_ra_b_g : sg_go [] [75] 3000 69 4 2 5 [(0, [(.ofNat 0, .ofNat 0)]), (1, [(.ofNat 1, .ofNat 9)]), (2, [(.negSucc 0, .ofNat 8)]), (3, [(.ofNat 0, .ofNat 1)]), (4, [(.ofNat 0, .ofNat 3)])] [(45, (0, .ofNat 0, .ofNat 2), (4, .ofNat 1, .ofNat 0))] [] [] [(0, .inr (.inl [45])), (1, .inl (false, (1, .ofNat 1, .ofNat 0))), (2, .inl (false, (2, .ofNat 1, .ofNat 0)))] [.inl (false, (3, .ofNat 1, .ofNat 0))] [(45, some 2), (45, some 6), (45, some 7), (45, some 8), (47, none), (48, none), (49, none)] sg_ra_b_Z = true := by decide +kernel
set_option maxRecDepth 100000 in
theorem sg_ra_b {Q : Option Value × am_S → Prop} {d : Nat} {S : am_S} {L : am_L} {x1 x2 x3 x4 : Int} {i1 : Int32} (hd : 2 ≤ d) (hP : ax_P0 none S) (l0 : lc L 0 45) (l1 : li L 1 x1) (l2 : li L 2 x2) (b1 : (1 ≤ x1 ∧ x1 ≤ 9)) (b2 : ((-1) ≤ x2 ∧ x2 ≤ 8)) (b3 : (0 ≤ x3 ∧ x3 ≤ 1)) (b4 : (0 ≤ x4 ∧ x4 ≤ 3)) (m45_2 : rd S 45 2 = x4) (s1 : i1.toInt = x3)
    (k0 : ∀ (x5 x6 x7 : Int) (S' : am_S) (i1 : Int32), ax_P0 none S' → rd S' = sg_up (sg_up (rd S) 45 7 3) 45 8 x7 → x3 ≠ 0 → rd S 45 10 = x5 → x5 = 1 → rd S 45 12 = x6 → x6 < 1 → rd S 45 11 = x7 → (1 ≤ x1 ∧ x1 ≤ 9) → ((-1) ≤ x2 ∧ x2 ≤ 8) → (1 ≤ x3 ∧ x3 ≤ 1) → (0 ≤ x4 ∧ x4 ≤ 3) → (1 ≤ x5 ∧ x5 ≤ 1) → ((-1) ≤ x6 ∧ x6 ≤ 0) → (0 ≤ x7 ∧ x7 ≤ 80) → i1.toInt = 0 → Q (some (.int i1), S'))
    (k1 : ∀ (x5 x6 x7 x8 x9 : Int) (L' : am_L) (S' : am_S), ax_P0 none S' → rd S' = sg_up (sg_up (sg_up (sg_up (sg_up (rd S) 47 x4 x1) 48 x4 x2) 49 x4 x6) 45 6 x9) 45 2 (x4 + 1) → x3 ≠ 0 → rd S 45 10 = x5 → x5 = 1 → rd S 45 12 = x6 → 1 ≤ x6 → x6 ≤ 4 * x2 + 2 → rd S 45 11 = x7 → rd S 45 6 = x8 → x9 ≤ 12 → rd S 45 2 = x4 → (1 ≤ x1 ∧ x1 ≤ 9) → (0 ≤ x2 ∧ x2 ≤ 8) → (1 ≤ x3 ∧ x3 ≤ 1) → (0 ≤ x4 ∧ x4 ≤ 3) → (1 ≤ x5 ∧ x5 ≤ 1) → (1 ≤ x6 ∧ x6 ≤ 12) → (0 ≤ x7 ∧ x7 ≤ 80) → (0 ≤ x8 ∧ x8 ≤ 12) → (1 ≤ x9 ∧ x9 ≤ 12) → x8 + x6 = x9 → lc L' 0 45 → li L' 1 x1 → li L' 2 x2 → am_V none d 69 75 L' ((.ref 45) :: []) S' Q)
    (k2 : ∀ (x5 x6 x7 x8 x9 : Int) (S' : am_S) (i1 : Int32), ax_P0 none S' → rd S' = sg_up (sg_up (rd S) 45 7 5) 45 8 x7 → x3 ≠ 0 → rd S 45 10 = x5 → x5 = 1 → rd S 45 12 = x6 → 1 ≤ x6 → x6 ≤ 4 * x2 + 2 → rd S 45 11 = x7 → rd S 45 6 = x8 → 12 < x9 → (1 ≤ x1 ∧ x1 ≤ 9) → (0 ≤ x2 ∧ x2 ≤ 8) → (1 ≤ x3 ∧ x3 ≤ 1) → (0 ≤ x4 ∧ x4 ≤ 3) → (1 ≤ x5 ∧ x5 ≤ 1) → (1 ≤ x6 ∧ x6 ≤ 34) → (0 ≤ x7 ∧ x7 ≤ 80) → (0 ≤ x8 ∧ x8 ≤ 12) → (13 ≤ x9 ∧ x9 ≤ 46) → x8 + x6 = x9 → i1.toInt = 0 → Q (some (.int i1), S'))
    (k3 : ∀ (x5 x6 x7 : Int) (S' : am_S) (i1 : Int32), ax_P0 none S' → rd S' = sg_up (sg_up (rd S) 45 7 3) 45 8 x7 → x3 ≠ 0 → rd S 45 10 = x5 → x5 = 1 → rd S 45 12 = x6 → 1 ≤ x6 → 4 * x2 + 2 < x6 → rd S 45 11 = x7 → (1 ≤ x1 ∧ x1 ≤ 9) → ((-1) ≤ x2 ∧ x2 ≤ 8) → (1 ≤ x3 ∧ x3 ≤ 1) → (0 ≤ x4 ∧ x4 ≤ 3) → (1 ≤ x5 ∧ x5 ≤ 1) → (1 ≤ x6 ∧ x6 ≤ 99) → (0 ≤ x7 ∧ x7 ≤ 80) → i1.toInt = 0 → Q (some (.int i1), S'))
    (k4 : ∀ (x5 x6 : Int) (S' : am_S) (i1 : Int32), ax_P0 none S' → rd S' = sg_up (sg_up (rd S) 45 7 2) 45 8 x6 → x3 ≠ 0 → rd S 45 10 = x5 → x5 ≠ 1 → rd S 45 11 = x6 → (1 ≤ x1 ∧ x1 ≤ 9) → ((-1) ≤ x2 ∧ x2 ≤ 8) → (1 ≤ x3 ∧ x3 ≤ 1) → (0 ≤ x4 ∧ x4 ≤ 3) → (0 ≤ x5 ∧ x5 ≤ 0) ∨ (2 ≤ x5 ∧ x5 ≤ 3) → (0 ≤ x6 ∧ x6 ≤ 80) → i1.toInt = 0 → Q (some (.int i1), S'))
    (k5 : ∀ (S' : am_S) (i1 : Int32), ax_P0 none S' → rd S' = rd S → x3 = 0 → (1 ≤ x1 ∧ x1 ≤ 9) → ((-1) ≤ x2 ∧ x2 ≤ 8) → (0 ≤ x3 ∧ x3 ≤ 0) → (0 ≤ x4 ∧ x4 ≤ 3) → i1.toInt = 0 → Q (some (.int i1), S')) : am_V none d 69 4 L ((.int i1) :: []) S Q := by
  refine sg_use sg_ra_b_g hd hP (sg_xs [0, x1, x2, x3, x4]) ⟨⟨Int.le_refl 0, Int.le_refl 0⟩, b1, b2, b3, b4, trivial⟩ ⟨sg_fs hP rfl m45_2, trivial⟩ trivial trivial ⟨l0, l1, l2, trivial⟩ ⟨⟨_, rfl, s1⟩, trivial⟩ ?_
  intro z hz x' L' st' S' hx hP' hW hL' hs' hJ hE' hT' hD'
  have q1 : x' 1 = x1 := hx 1 (by decide)
  subst q1
  have q2 : x' 2 = x2 := hx 2 (by decide)
  subst q2
  have q3 : x' 3 = x3 := hx 3 (by decide)
  subst q3
  have q4 : x' 4 = x4 := hx 4 (by decide)
  subst q4
  simp only [sg_ra_b_Z, List.mem_cons, List.not_mem_nil, or_false] at hz
  rcases hz with rfl | rfl | rfl | rfl | rfl | rfl
  · obtain ⟨f0, f1, f2, f3, f4, f5, hσ⟩ := hJ
    obtain ⟨e0, e1, e2, e3, e4, e5, e6, -⟩ := hE'
    intro v hv
    subst hv
    cases v with
    | none => exact hs'.elim
    | some v1 =>
      obtain ⟨⟨i1, rfl, g1⟩, -⟩ := hs'
      exact k0 (x' 5) (x' 6) (x' 7) S' i1 hP' hσ f0 f1 f2 f3 f4 f5 e0 e1 e2 e3 e4 e5 e6 g1
  · obtain ⟨f0, f1, f2, f3, f4, -, f6, -, f8, f9, f10, f11, -, -, -, -, -, hσ⟩ := hJ
    obtain ⟨e0, e1, e2, e3, e4, e5, e6, e7, e8, -⟩ := hE'
    obtain ⟨t0, -⟩ := hT'
    obtain ⟨p0, p1, p2, -⟩ := hL'
    obtain ⟨v1, r1, rfl, rfl, hs1⟩ := sg_tc hs'
    obtain rfl := sg_tn hs1
    exact k1 (x' 5) (x' 6) (x' 7) (x' 8) (x' 9) L' S' hP' hσ f0 f1 f2 f3 f4 f6 f8 f9 f10 f11 e0 e1 e2 e3 e4 e5 e6 e7 e8 t0 p0 p1 p2
  · obtain ⟨f0, f1, f2, f3, f4, -, f6, -, f8, f9, f10, -, hσ⟩ := hJ
    obtain ⟨e0, e1, e2, e3, e4, e5, e6, e7, e8, -⟩ := hE'
    obtain ⟨t0, -⟩ := hT'
    intro v hv
    subst hv
    cases v with
    | none => exact hs'.elim
    | some v1 =>
      obtain ⟨⟨i1, rfl, g1⟩, -⟩ := hs'
      exact k2 (x' 5) (x' 6) (x' 7) (x' 8) (x' 9) S' i1 hP' hσ f0 f1 f2 f3 f4 f6 f8 f9 f10 e0 e1 e2 e3 e4 e5 e6 e7 e8 t0 g1
  · obtain ⟨f0, f1, f2, f3, f4, -, f6, f7, hσ⟩ := hJ
    obtain ⟨e0, e1, e2, e3, e4, e5, e6, -⟩ := hE'
    intro v hv
    subst hv
    cases v with
    | none => exact hs'.elim
    | some v1 =>
      obtain ⟨⟨i1, rfl, g1⟩, -⟩ := hs'
      exact k3 (x' 5) (x' 6) (x' 7) S' i1 hP' hσ f0 f1 f2 f3 f4 f6 f7 e0 e1 e2 e3 e4 e5 e6 g1
  · obtain ⟨f0, f1, f2, f3, hσ⟩ := hJ
    obtain ⟨e0, e1, e2, e3, e4, e5, -⟩ := hE'
    intro v hv
    subst hv
    cases v with
    | none => exact hs'.elim
    | some v1 =>
      obtain ⟨⟨i1, rfl, g1⟩, -⟩ := hs'
      exact k4 (x' 5) (x' 6) S' i1 hP' hσ f0 f1 f2 f3 e0 e1 e2 e3 e4 e5 g1
  · obtain ⟨f0, hσ⟩ := hJ
    obtain ⟨e0, e1, e2, e3, -⟩ := hE'
    intro v hv
    subst hv
    cases v with
    | none => exact hs'.elim
    | some v1 =>
      obtain ⟨⟨i1, rfl, g1⟩, -⟩ := hs'
      exact k5 S' i1 hP' hσ f0 e0 e1 e2 e3 g1
def sg_ra_c_Z : List sg_z := [(0, [], [.inl (false, (0, .ofNat 0, .ofNat 0))], [(2, 0, (1, .ofNat 1, .ofNat 0), (0, .ofNat 0, .ofNat 0), (0, .ofNat 0, .ofNat 0))], [(1, [(.ofNat 0, .ofNat 0)])], [], []),
  (0, [], [.inl (false, (0, .ofNat 0, .ofNat 1))], [(2, 1, (1, .ofNat 1, .ofNat 0), (0, .ofNat 0, .ofNat 0), (0, .ofNat 0, .ofNat 0))], [(1, [(.ofNat 1, .ofNat 1)])], [], [])]
set_option maxRecDepth 1000000 in
theorem sg_ra_c_g : sg_go [] [] 3000 69 78 0 2 [(0, [(.ofNat 0, .ofNat 0)]), (1, [(.ofNat 0, .ofNat 1)])] [] [] [] [(0, .inr (.inl [45]))] [.inl (false, (1, .ofNat 1, .ofNat 0))] [] sg_ra_c_Z = true := by decide +kernel
set_option maxRecDepth 100000 in
theorem sg_ra_c {Q : Option Value × am_S → Prop} {d : Nat} {S : am_S} {L : am_L} {x1 : Int} {i1 : Int32} (hd : 0 ≤ d) (hP : ax_P0 none S) (l0 : lc L 0 45) (b1 : (0 ≤ x1 ∧ x1 ≤ 1)) (s1 : i1.toInt = x1)
    (k0 : ∀ (i1 : Int32), x1 = 0 → (0 ≤ x1 ∧ x1 ≤ 0) → i1.toInt = 0 → Q (some (.int i1), S))
    (k1 : ∀ (i1 : Int32), x1 ≠ 0 → (1 ≤ x1 ∧ x1 ≤ 1) → i1.toInt = 1 → Q (some (.int i1), S)) : am_V none d 69 78 L ((.int i1) :: []) S Q := by
  refine sg_use sg_ra_c_g hd hP (sg_xs [0, x1]) ⟨⟨Int.le_refl 0, Int.le_refl 0⟩, b1, trivial⟩ trivial trivial trivial ⟨l0, trivial⟩ ⟨⟨_, rfl, s1⟩, trivial⟩ ?_
  intro z hz x' L' st' S' hx hP' hW hL' hs' hJ hE' hT' hD'
  have q1 : x' 1 = x1 := hx 1 (by decide)
  subst q1
  have eS : S' = S := hW.1 rfl
  subst eS
  simp only [sg_ra_c_Z, List.mem_cons, List.not_mem_nil, or_false] at hz
  rcases hz with rfl | rfl
  · obtain ⟨f0, hσ⟩ := hJ
    obtain ⟨e0, -⟩ := hE'
    intro v hv
    subst hv
    cases v with
    | none => exact hs'.elim
    | some v1 =>
      obtain ⟨⟨i1, rfl, g1⟩, -⟩ := hs'
      exact k0 i1 f0 e0 g1
  · obtain ⟨f0, hσ⟩ := hJ
    obtain ⟨e0, -⟩ := hE'
    intro v hv
    subst hv
    cases v with
    | none => exact hs'.elim
    | some v1 =>
      obtain ⟨⟨i1, rfl, g1⟩, -⟩ := hs'
      exact k1 i1 f0 e0 g1
def sg_al_a_Z : List sg_z := [(27, [(0, .inr (.inl [45]))], [.inr (.inl [45])], [(1, 45, (0, .ofNat 0, .ofNat 8), (0, .ofNat 0, .ofNat 0), (0, .ofNat 0, .ofNat 0)), (1, 45, (0, .ofNat 0, .ofNat 7), (0, .ofNat 0, .ofNat 0), (0, .ofNat 0, .ofNat 0)), (1, 45, (0, .ofNat 0, .ofNat 9), (0, .ofNat 0, .ofNat 0), (0, .ofNat 0, .ofNat 0)), (1, 45, (0, .ofNat 0, .ofNat 6), (0, .ofNat 0, .ofNat 0), (0, .ofNat 0, .ofNat 0)), (1, 45, (0, .ofNat 0, .ofNat 2), (0, .ofNat 0, .ofNat 0), (0, .ofNat 0, .ofNat 0))], [], [], [])]
set_option maxRecDepth 1000000 in
theorem sg_al_a_g : sg_go [] [26] 3000 67 0 0 1 [(0, [(.ofNat 0, .ofNat 0)])] [] [] [] [(0, .inr (.inl [45]))] [] [(45, some 2), (45, some 6), (45, some 7), (45, some 8), (45, some 9)] sg_al_a_Z = true := by decide +kernel
set_option maxRecDepth 100000 in
theorem sg_al_a {Q : Option Value × am_S → Prop} {d : Nat} {S : am_S} {L : am_L} (hd : 0 ≤ d) (hP : ax_P0 none S) (l0 : lc L 0 45)
    (k0 : ∀ (L' : am_L) (S' : am_S), ax_P0 none S' → rd S' = sg_up (sg_up (sg_up (sg_up (sg_up (rd S) 45 2 0) 45 6 0) 45 9 0) 45 7 0) 45 8 0 → lc L' 0 45 → am_V none d 67 26 L' ((.ref 45) :: []) S' Q) : am_V none d 67 0 L ([]) S Q := by
  refine sg_use sg_al_a_g hd hP (sg_xs [0]) ⟨⟨Int.le_refl 0, Int.le_refl 0⟩, trivial⟩ trivial trivial trivial ⟨l0, trivial⟩ trivial ?_
  intro z hz x' L' st' S' hx hP' hW hL' hs' hJ hE' hT' hD'
  simp only [sg_al_a_Z, List.mem_cons, List.not_mem_nil, or_false] at hz
  rcases hz with rfl
  · have hσ := hJ
    obtain ⟨p0, -⟩ := hL'
    obtain ⟨v1, r1, rfl, rfl, hs1⟩ := sg_tc hs'
    obtain rfl := sg_tn hs1
    exact k0 L' S' hP' hσ p0
def sg_al_b_Z : List sg_z := [(33, [(0, .inr (.inl [45])), (1, .inl (false, (1, .ofNat 1, .ofNat 0))), (2, .inl (false, (0, .ofNat 0, .ofNat 0)))], [], [], [(1, [(.ofNat 0, .ofNat 1)])], [], [])]
set_option maxRecDepth 1000000 in
theorem sg_al_b_g : sg_go [] [32] 3000 67 29 0 2 [(0, [(.ofNat 0, .ofNat 0)]), (1, [(.ofNat 0, .ofNat 1)])] [] [] [] [(0, .inr (.inl [45]))] [.inl (false, (1, .ofNat 1, .ofNat 0))] [] sg_al_b_Z = true := by decide +kernel
set_option maxRecDepth 100000 in
theorem sg_al_b {Q : Option Value × am_S → Prop} {d : Nat} {S : am_S} {L : am_L} {x1 : Int} {i1 : Int32} (hd : 0 ≤ d) (hP : ax_P0 none S) (l0 : lc L 0 45) (b1 : (0 ≤ x1 ∧ x1 ≤ 1)) (s1 : i1.toInt = x1)
    (k0 : ∀ (L' : am_L), (0 ≤ x1 ∧ x1 ≤ 1) → lc L' 0 45 → li L' 1 x1 → li L' 2 0 → am_V none d 67 32 L' ([]) S Q) : am_V none d 67 29 L ((.int i1) :: []) S Q := by
  refine sg_use sg_al_b_g hd hP (sg_xs [0, x1]) ⟨⟨Int.le_refl 0, Int.le_refl 0⟩, b1, trivial⟩ trivial trivial trivial ⟨l0, trivial⟩ ⟨⟨_, rfl, s1⟩, trivial⟩ ?_
  intro z hz x' L' st' S' hx hP' hW hL' hs' hJ hE' hT' hD'
  have q1 : x' 1 = x1 := hx 1 (by decide)
  subst q1
  have eS : S' = S := hW.1 rfl
  subst eS
  simp only [sg_al_b_Z, List.mem_cons, List.not_mem_nil, or_false] at hz
  rcases hz with rfl
  · have hσ := hJ
    obtain ⟨e0, -⟩ := hE'
    obtain ⟨p0, p1, p2, -⟩ := hL'
    obtain rfl := sg_tn hs'
    exact k0 L' e0 p0 p1 p2
def sg_al_c_Z : List sg_z := [(0, [], [.inl (false, (0, .ofNat 0, .ofNat 0))], [(2, 4, (2, .ofNat 1, .ofNat 0), (0, .ofNat 0, .ofNat 4), (0, .ofNat 0, .ofNat 0))], [(1, [(.ofNat 0, .ofNat 1)]), (2, [(.ofNat 5, .ofNat 5)])], [], []),
  (0, [], [.inl (false, (0, .ofNat 0, .ofNat 0))], [(2, 0, (1, .ofNat 1, .ofNat 0), (0, .ofNat 0, .ofNat 0), (0, .ofNat 0, .ofNat 0)), (2, 5, (2, .ofNat 1, .ofNat 0), (0, .ofNat 0, .ofNat 4), (0, .ofNat 0, .ofNat 0))], [(1, [(.ofNat 0, .ofNat 0)]), (2, [(.ofNat 0, .ofNat 4)])], [], []),
  (43, [(0, .inr (.inl [45])), (1, .inl (false, (0, .ofNat 0, .ofNat 1))), (2, .inl (false, (2, .ofNat 1, .ofNat 0)))], [.inr (.inl [45])], [(2, 1, (1, .ofNat 1, .ofNat 0), (0, .ofNat 0, .ofNat 0), (0, .ofNat 0, .ofNat 0)), (2, 5, (2, .ofNat 1, .ofNat 0), (0, .ofNat 0, .ofNat 4), (0, .ofNat 0, .ofNat 0))], [(1, [(.ofNat 1, .ofNat 1)]), (2, [(.ofNat 0, .ofNat 4)])], [], [])]
set_option maxRecDepth 1000000 in
theorem sg_al_c_g : sg_go [] [42] 3000 67 32 0 3 [(0, [(.ofNat 0, .ofNat 0)]), (1, [(.ofNat 0, .ofNat 1)]), (2, [(.ofNat 0, .ofNat 5)])] [] [] [] [(0, .inr (.inl [45])), (1, .inl (false, (1, .ofNat 1, .ofNat 0))), (2, .inl (false, (2, .ofNat 1, .ofNat 0)))] [] [] sg_al_c_Z = true := by decide +kernel
set_option maxRecDepth 100000 in
theorem sg_al_c {Q : Option Value × am_S → Prop} {d : Nat} {S : am_S} {L : am_L} {x1 x2 : Int} (hd : 0 ≤ d) (hP : ax_P0 none S) (l0 : lc L 0 45) (l1 : li L 1 x1) (l2 : li L 2 x2) (b1 : (0 ≤ x1 ∧ x1 ≤ 1)) (b2 : (0 ≤ x2 ∧ x2 ≤ 5))
    (k0 : ∀ (i1 : Int32), 4 < x2 → (0 ≤ x1 ∧ x1 ≤ 1) → (5 ≤ x2 ∧ x2 ≤ 5) → i1.toInt = 0 → Q (some (.int i1), S))
    (k1 : ∀ (i1 : Int32), x2 ≤ 4 → x1 = 0 → (0 ≤ x1 ∧ x1 ≤ 0) → (0 ≤ x2 ∧ x2 ≤ 4) → i1.toInt = 0 → Q (some (.int i1), S))
    (k2 : ∀ (L' : am_L), x2 ≤ 4 → x1 ≠ 0 → (1 ≤ x1 ∧ x1 ≤ 1) → (0 ≤ x2 ∧ x2 ≤ 4) → lc L' 0 45 → li L' 1 1 → li L' 2 x2 → am_V none d 67 42 L' ((.ref 45) :: []) S Q) : am_V none d 67 32 L ([]) S Q := by
  refine sg_use sg_al_c_g hd hP (sg_xs [0, x1, x2]) ⟨⟨Int.le_refl 0, Int.le_refl 0⟩, b1, b2, trivial⟩ trivial trivial trivial ⟨l0, l1, l2, trivial⟩ trivial ?_
  intro z hz x' L' st' S' hx hP' hW hL' hs' hJ hE' hT' hD'
  have q1 : x' 1 = x1 := hx 1 (by decide)
  subst q1
  have q2 : x' 2 = x2 := hx 2 (by decide)
  subst q2
  have eS : S' = S := hW.1 rfl
  subst eS
  simp only [sg_al_c_Z, List.mem_cons, List.not_mem_nil, or_false] at hz
  rcases hz with rfl | rfl | rfl
  · obtain ⟨f0, hσ⟩ := hJ
    obtain ⟨e0, e1, -⟩ := hE'
    intro v hv
    subst hv
    cases v with
    | none => exact hs'.elim
    | some v1 =>
      obtain ⟨⟨i1, rfl, g1⟩, -⟩ := hs'
      exact k0 i1 f0 e0 e1 g1
  · obtain ⟨f0, f1, hσ⟩ := hJ
    obtain ⟨e0, e1, -⟩ := hE'
    intro v hv
    subst hv
    cases v with
    | none => exact hs'.elim
    | some v1 =>
      obtain ⟨⟨i1, rfl, g1⟩, -⟩ := hs'
      exact k1 i1 f0 f1 e0 e1 g1
  · obtain ⟨f0, f1, hσ⟩ := hJ
    obtain ⟨e0, e1, -⟩ := hE'
    obtain ⟨p0, p1, p2, -⟩ := hL'
    obtain ⟨v1, r1, rfl, rfl, hs1⟩ := sg_tc hs'
    obtain rfl := sg_tn hs1
    exact k2 L' f0 f1 e0 e1 p0 p1 p2
def sg_al_d_Z : List sg_z := [(33, [(0, .inr (.inl [45])), (1, .inl (false, (0, .ofNat 0, .ofNat 0))), (2, .inl (false, (1, .ofNat 1, .ofNat 1)))], [], [(2, 0, (2, .ofNat 1, .ofNat 0), (0, .ofNat 0, .ofNat 0), (0, .ofNat 0, .ofNat 0))], [(1, [(.ofNat 0, .ofNat 4)]), (2, [(.ofNat 0, .ofNat 0)])], [], []),
  (33, [(0, .inr (.inl [45])), (1, .inl (false, (0, .ofNat 0, .ofNat 1))), (2, .inl (false, (1, .ofNat 1, .ofNat 1)))], [], [(2, 1, (3, .ofNat 1, .ofNat 0), (0, .ofNat 0, .ofNat 0), (0, .ofNat 0, .ofNat 0)), (0, 45, (0, .ofNat 0, .ofNat 10), (3, .ofNat 1, .ofNat 0), (0, .ofNat 0, .ofNat 0)), (2, 1, (2, .ofNat 1, .ofNat 0), (0, .ofNat 0, .ofNat 0), (0, .ofNat 0, .ofNat 0))], [(1, [(.ofNat 0, .ofNat 4)]), (2, [(.ofNat 1, .ofNat 1)]), (3, [(.ofNat 1, .ofNat 3)])], [], []),
  (0, [], [.inl (false, (0, .ofNat 0, .ofNat 1))], [(2, 0, (3, .ofNat 1, .ofNat 0), (0, .ofNat 0, .ofNat 0), (0, .ofNat 0, .ofNat 0)), (0, 45, (0, .ofNat 0, .ofNat 10), (3, .ofNat 1, .ofNat 0), (0, .ofNat 0, .ofNat 0)), (2, 1, (2, .ofNat 1, .ofNat 0), (0, .ofNat 0, .ofNat 0), (0, .ofNat 0, .ofNat 0))], [(1, [(.ofNat 0, .ofNat 4)]), (2, [(.ofNat 1, .ofNat 1)]), (3, [(.ofNat 0, .ofNat 0)])], [], [])]
set_option maxRecDepth 1000000 in
theorem sg_al_d_g : sg_go [] [32] 3000 67 45 0 3 [(0, [(.ofNat 0, .ofNat 0)]), (1, [(.ofNat 0, .ofNat 4)]), (2, [(.ofNat 0, .ofNat 1)])] [] [] [] [(0, .inr (.inl [45])), (2, .inl (false, (1, .ofNat 1, .ofNat 0)))] [.inl (false, (2, .ofNat 1, .ofNat 0))] [] sg_al_d_Z = true := by decide +kernel
set_option maxRecDepth 100000 in
theorem sg_al_d {Q : Option Value × am_S → Prop} {d : Nat} {S : am_S} {L : am_L} {x1 x2 : Int} {i1 : Int32} (hd : 0 ≤ d) (hP : ax_P0 none S) (l0 : lc L 0 45) (l2 : li L 2 x1) (b1 : (0 ≤ x1 ∧ x1 ≤ 4)) (b2 : (0 ≤ x2 ∧ x2 ≤ 1)) (s1 : i1.toInt = x2)
    (k0 : ∀ (L' : am_L), x2 = 0 → (0 ≤ x1 ∧ x1 ≤ 4) → (0 ≤ x2 ∧ x2 ≤ 0) → lc L' 0 45 → li L' 1 0 → li L' 2 (x1 + 1) → am_V none d 67 32 L' ([]) S Q)
    (k1 : ∀ (x3 : Int) (L' : am_L), x2 ≠ 0 → rd S 45 10 = x3 → x3 ≠ 0 → (0 ≤ x1 ∧ x1 ≤ 4) → (1 ≤ x2 ∧ x2 ≤ 1) → (1 ≤ x3 ∧ x3 ≤ 3) → lc L' 0 45 → li L' 1 1 → li L' 2 (x1 + 1) → am_V none d 67 32 L' ([]) S Q)
    (k2 : ∀ (x3 : Int) (i1 : Int32), x2 ≠ 0 → rd S 45 10 = x3 → x3 = 0 → (0 ≤ x1 ∧ x1 ≤ 4) → (1 ≤ x2 ∧ x2 ≤ 1) → (0 ≤ x3 ∧ x3 ≤ 0) → i1.toInt = 1 → Q (some (.int i1), S)) : am_V none d 67 45 L ((.int i1) :: []) S Q := by
  refine sg_use sg_al_d_g hd hP (sg_xs [0, x1, x2]) ⟨⟨Int.le_refl 0, Int.le_refl 0⟩, b1, b2, trivial⟩ trivial trivial trivial ⟨l0, l2, trivial⟩ ⟨⟨_, rfl, s1⟩, trivial⟩ ?_
  intro z hz x' L' st' S' hx hP' hW hL' hs' hJ hE' hT' hD'
  have q1 : x' 1 = x1 := hx 1 (by decide)
  subst q1
  have q2 : x' 2 = x2 := hx 2 (by decide)
  subst q2
  have eS : S' = S := hW.1 rfl
  subst eS
  simp only [sg_al_d_Z, List.mem_cons, List.not_mem_nil, or_false] at hz
  rcases hz with rfl | rfl | rfl
  · obtain ⟨f0, hσ⟩ := hJ
    obtain ⟨e0, e1, -⟩ := hE'
    obtain ⟨p0, p1, p2, -⟩ := hL'
    obtain rfl := sg_tn hs'
    exact k0 L' f0 e0 e1 p0 p1 p2
  · obtain ⟨f0, f1, f2, hσ⟩ := hJ
    obtain ⟨e0, e1, e2, -⟩ := hE'
    obtain ⟨p0, p1, p2, -⟩ := hL'
    obtain rfl := sg_tn hs'
    exact k1 (x' 3) L' f0 f1 f2 e0 e1 e2 p0 p1 p2
  · obtain ⟨f0, f1, f2, hσ⟩ := hJ
    obtain ⟨e0, e1, e2, -⟩ := hE'
    intro v hv
    subst hv
    cases v with
    | none => exact hs'.elim
    | some v1 =>
      obtain ⟨⟨i1, rfl, g1⟩, -⟩ := hs'
      exact k2 (x' 3) i1 f0 f1 f2 e0 e1 e2 g1
def sg_nx_a_Z : List sg_z := [(9, [(0, .inr (.inl [122]))], [], [(2, 5, (1, .ofNat 1, .ofNat 0), (0, .ofNat 0, .ofNat 0), (0, .ofNat 0, .ofNat 0)), (0, 122, (0, .ofNat 0, .ofNat 28), (1, .ofNat 1, .ofNat 0), (0, .ofNat 0, .ofNat 0))], [(1, [(.ofNat 0, .ofNat 0)])], [], []),
  (0, [], [], [(2, 4, (1, .ofNat 1, .ofNat 0), (0, .ofNat 0, .ofNat 0), (0, .ofNat 0, .ofNat 0)), (0, 122, (0, .ofNat 0, .ofNat 28), (1, .ofNat 1, .ofNat 0), (0, .ofNat 0, .ofNat 0))], [(1, [(.ofNat 1, .ofNat 5)])], [], [])]
set_option maxRecDepth 1000000 in
theorem sg_nx_a_g : sg_go [] [8] 3000 209 0 0 1 [(0, [(.ofNat 0, .ofNat 0)])] [] [] [] [(0, .inr (.inl [122]))] [] [] sg_nx_a_Z = true := by decide +kernel
set_option maxRecDepth 100000 in
theorem sg_nx_a {Q : Option Value × am_S → Prop} {d : Nat} {S : am_S} {L : am_L} (hd : 0 ≤ d) (hP : ax_P0 none S) (l0 : lc L 0 122)
    (k0 : ∀ (x1 : Int) (L' : am_L), rd S 122 28 = x1 → x1 ≤ 0 → (0 ≤ x1 ∧ x1 ≤ 0) → lc L' 0 122 → am_V none d 209 8 L' ([]) S Q)
    (k1 : ∀ (x1 : Int), rd S 122 28 = x1 → 0 < x1 → (1 ≤ x1 ∧ x1 ≤ 5) → Q (none, S)) : am_V none d 209 0 L ([]) S Q := by
  refine sg_use sg_nx_a_g hd hP (sg_xs [0]) ⟨⟨Int.le_refl 0, Int.le_refl 0⟩, trivial⟩ trivial trivial trivial ⟨l0, trivial⟩ trivial ?_
  intro z hz x' L' st' S' hx hP' hW hL' hs' hJ hE' hT' hD'
  have eS : S' = S := hW.1 rfl
  subst eS
  simp only [sg_nx_a_Z, List.mem_cons, List.not_mem_nil, or_false] at hz
  rcases hz with rfl | rfl
  · obtain ⟨f0, f1, hσ⟩ := hJ
    obtain ⟨e0, -⟩ := hE'
    obtain ⟨p0, -⟩ := hL'
    obtain rfl := sg_tn hs'
    exact k0 (x' 1) L' f0 f1 e0 p0
  · obtain ⟨f0, f1, hσ⟩ := hJ
    obtain ⟨e0, -⟩ := hE'
    intro v hv
    subst hv
    cases v with
    | some _ => exact hs'.elim
    | none =>
      exact k1 (x' 1) f0 f1 e0
def sg_nx_b_Z : List sg_z := [(35, [(0, .inr (.inl [122]))], [], [(2, 1, (0, .ofNat 0, .negSucc 3), (0, .ofNat 0, .ofNat 32), (0, .ofNat 0, .ofNat 0)), (2, 3, (1, .ofNat 1, .ofNat 0), (2, .ofNat 1, .ofNat 0), (0, .ofNat 0, .ofNat 0)), (0, 122, (0, .ofNat 0, .ofNat 26), (2, .ofNat 1, .ofNat 0), (0, .ofNat 0, .ofNat 0)), (0, 122, (0, .ofNat 0, .ofNat 30), (1, .ofNat 1, .ofNat 0), (0, .ofNat 0, .ofNat 0))], [(1, [(.ofNat 0, .ofNat 80)]), (2, [(.ofNat 0, .ofNat 80)])], [], []),
  (35, [(0, .inr (.inl [122]))], [], [(2, 1, (3, .ofNat 1, .ofNat 0), (0, .ofNat 0, .ofNat 32), (0, .ofNat 0, .ofNat 0)), (0, 141, (1, .ofNat 1, .ofNat 0), (3, .ofNat 1, .ofNat 0), (0, .ofNat 0, .ofNat 0)), (2, 2, (1, .ofNat 1, .ofNat 0), (2, .ofNat 1, .ofNat 0), (0, .ofNat 0, .ofNat 0)), (0, 122, (0, .ofNat 0, .ofNat 26), (2, .ofNat 1, .ofNat 0), (0, .ofNat 0, .ofNat 0)), (0, 122, (0, .ofNat 0, .ofNat 30), (1, .ofNat 1, .ofNat 0), (0, .ofNat 0, .ofNat 0))], [(1, [(.ofNat 0, .ofNat 79)]), (2, [(.ofNat 1, .ofNat 80)]), (3, [(.ofNat 0, .ofNat 31), (.ofNat 33, .ofNat 255)])], [], []),
  (9, [(0, .inr (.inl [122]))], [], [(1, 122, (0, .ofNat 0, .ofNat 30), (1, .ofNat 1, .ofNat 1), (0, .ofNat 0, .ofNat 0)), (0, 122, (0, .ofNat 0, .ofNat 30), (1, .ofNat 1, .ofNat 0), (0, .ofNat 0, .ofNat 0)), (2, 0, (3, .ofNat 1, .ofNat 0), (0, .ofNat 0, .ofNat 32), (0, .ofNat 0, .ofNat 0)), (0, 141, (1, .ofNat 1, .ofNat 0), (3, .ofNat 1, .ofNat 0), (0, .ofNat 0, .ofNat 0)), (2, 2, (1, .ofNat 1, .ofNat 0), (2, .ofNat 1, .ofNat 0), (0, .ofNat 0, .ofNat 0)), (0, 122, (0, .ofNat 0, .ofNat 26), (2, .ofNat 1, .ofNat 0), (0, .ofNat 0, .ofNat 0)), (0, 122, (0, .ofNat 0, .ofNat 30), (1, .ofNat 1, .ofNat 0), (0, .ofNat 0, .ofNat 0))], [(1, [(.ofNat 0, .ofNat 79)]), (2, [(.ofNat 1, .ofNat 80)]), (3, [(.ofNat 32, .ofNat 32)])], [], [])]
set_option maxRecDepth 1000000 in
theorem sg_nx_b_g : sg_go [] [8, 34] 3000 209 8 1 1 [(0, [(.ofNat 0, .ofNat 0)])] [] [] [] [(0, .inr (.inl [122]))] [] [(122, some 30)] sg_nx_b_Z = true := by decide +kernel
set_option maxRecDepth 100000 in
theorem sg_nx_b {Q : Option Value × am_S → Prop} {d : Nat} {S : am_S} {L : am_L} (hd : 1 ≤ d) (hP : ax_P0 none S) (l0 : lc L 0 122)
    (k0 : ∀ (x1 x2 : Int) (L' : am_L) (S' : am_S), ax_P0 none S' → rd S' = rd S → rd S 122 30 = x1 → rd S 122 26 = x2 → x2 ≤ x1 → (0 ≤ x1 ∧ x1 ≤ 80) → (0 ≤ x2 ∧ x2 ≤ 80) → lc L' 0 122 → am_V none d 209 34 L' ([]) S' Q)
    (k1 : ∀ (x1 x2 x3 : Int) (L' : am_L) (S' : am_S), ax_P0 none S' → rd S' = rd S → rd S 122 30 = x1 → rd S 122 26 = x2 → x1 < x2 → rd S 141 x1 = x3 → x3 ≠ 32 → (0 ≤ x1 ∧ x1 ≤ 79) → (1 ≤ x2 ∧ x2 ≤ 80) → (0 ≤ x3 ∧ x3 ≤ 31) ∨ (33 ≤ x3 ∧ x3 ≤ 255) → lc L' 0 122 → am_V none d 209 34 L' ([]) S' Q)
    (k2 : ∀ (x1 x2 x3 : Int) (L' : am_L) (S' : am_S), ax_P0 none S' → rd S' = sg_up (rd S) 122 30 (x1 + 1) → rd S 122 30 = x1 → rd S 122 26 = x2 → x1 < x2 → rd S 141 x1 = x3 → x3 = 32 → (0 ≤ x1 ∧ x1 ≤ 79) → (1 ≤ x2 ∧ x2 ≤ 80) → (32 ≤ x3 ∧ x3 ≤ 32) → lc L' 0 122 → am_V none d 209 8 L' ([]) S' Q) : am_V none d 209 8 L ([]) S Q := by
  refine sg_use sg_nx_b_g hd hP (sg_xs [0]) ⟨⟨Int.le_refl 0, Int.le_refl 0⟩, trivial⟩ trivial trivial trivial ⟨l0, trivial⟩ trivial ?_
  intro z hz x' L' st' S' hx hP' hW hL' hs' hJ hE' hT' hD'
  simp only [sg_nx_b_Z, List.mem_cons, List.not_mem_nil, or_false] at hz
  rcases hz with rfl | rfl | rfl
  · obtain ⟨f0, f1, f2, -, hσ⟩ := hJ
    obtain ⟨e0, e1, -⟩ := hE'
    obtain ⟨p0, -⟩ := hL'
    obtain rfl := sg_tn hs'
    exact k0 (x' 1) (x' 2) L' S' hP' hσ f0 f1 f2 e0 e1 p0
  · obtain ⟨f0, f1, f2, f3, f4, hσ⟩ := hJ
    obtain ⟨e0, e1, e2, -⟩ := hE'
    obtain ⟨p0, -⟩ := hL'
    obtain rfl := sg_tn hs'
    exact k1 (x' 1) (x' 2) (x' 3) L' S' hP' hσ f0 f1 f2 f3 f4 e0 e1 e2 p0
  · obtain ⟨f0, f1, f2, f3, f4, -, hσ⟩ := hJ
    obtain ⟨e0, e1, e2, -⟩ := hE'
    obtain ⟨p0, -⟩ := hL'
    obtain rfl := sg_tn hs'
    exact k2 (x' 1) (x' 2) (x' 3) L' S' hP' hσ f0 f1 f2 f3 f4 e0 e1 e2 p0
def sg_nx_c_Z : List sg_z := [(0, [], [], [(1, 122, (0, .ofNat 0, .ofNat 32), (0, .ofNat 0, .ofNat 0), (0, .ofNat 0, .ofNat 0)), (2, 0, (0, .ofNat 0, .negSucc 3), (0, .ofNat 0, .negSucc 3), (0, .ofNat 0, .ofNat 0)), (2, 3, (1, .ofNat 1, .ofNat 0), (2, .ofNat 1, .ofNat 0), (0, .ofNat 0, .ofNat 0)), (0, 122, (0, .ofNat 0, .ofNat 26), (2, .ofNat 1, .ofNat 0), (0, .ofNat 0, .ofNat 0)), (0, 122, (0, .ofNat 0, .ofNat 30), (1, .ofNat 1, .ofNat 0), (0, .ofNat 0, .ofNat 0)), (1, 122, (0, .ofNat 0, .ofNat 31), (1, .ofNat 1, .ofNat 0), (0, .ofNat 0, .ofNat 0)), (0, 122, (0, .ofNat 0, .ofNat 30), (1, .ofNat 1, .ofNat 0), (0, .ofNat 0, .ofNat 0))], [(1, [(.ofNat 0, .ofNat 80)]), (2, [(.ofNat 0, .ofNat 80)])], [], []),
  (0, [], [], [(1, 122, (0, .ofNat 0, .ofNat 30), (1, .ofNat 1, .ofNat 1), (0, .ofNat 0, .ofNat 0)), (0, 122, (0, .ofNat 0, .ofNat 30), (1, .ofNat 1, .ofNat 0), (0, .ofNat 0, .ofNat 0)), (1, 122, (0, .ofNat 0, .ofNat 33), (0, .ofNat 0, .ofNat 0), (0, .ofNat 0, .ofNat 0)), (2, 0, (0, .ofNat 0, .ofNat 115), (0, .ofNat 0, .ofNat 115), (0, .ofNat 0, .ofNat 0)), (1, 122, (0, .ofNat 0, .ofNat 32), (0, .ofNat 0, .ofNat 2), (0, .ofNat 0, .ofNat 0)), (2, 0, (3, .ofNat 1, .ofNat 0), (0, .ofNat 0, .ofNat 115), (0, .ofNat 0, .ofNat 0)), (2, 1, (3, .ofNat 1, .ofNat 0), (0, .ofNat 0, .negSucc 3), (0, .ofNat 0, .ofNat 0)), (0, 141, (1, .ofNat 1, .ofNat 0), (3, .ofNat 1, .ofNat 0), (0, .ofNat 0, .ofNat 0)), (2, 2, (1, .ofNat 1, .ofNat 0), (2, .ofNat 1, .ofNat 0), (0, .ofNat 0, .ofNat 0)), (0, 122, (0, .ofNat 0, .ofNat 26), (2, .ofNat 1, .ofNat 0), (0, .ofNat 0, .ofNat 0)), (0, 122, (0, .ofNat 0, .ofNat 30), (1, .ofNat 1, .ofNat 0), (0, .ofNat 0, .ofNat 0)), (1, 122, (0, .ofNat 0, .ofNat 31), (1, .ofNat 1, .ofNat 0), (0, .ofNat 0, .ofNat 0)), (0, 122, (0, .ofNat 0, .ofNat 30), (1, .ofNat 1, .ofNat 0), (0, .ofNat 0, .ofNat 0))], [(1, [(.ofNat 0, .ofNat 79)]), (2, [(.ofNat 1, .ofNat 80)]), (3, [(.ofNat 115, .ofNat 115)])], [], []),
  (0, [], [], [(1, 122, (0, .ofNat 0, .ofNat 30), (1, .ofNat 1, .ofNat 1), (0, .ofNat 0, .ofNat 0)), (0, 122, (0, .ofNat 0, .ofNat 30), (1, .ofNat 1, .ofNat 0), (0, .ofNat 0, .ofNat 0)), (1, 122, (0, .ofNat 0, .ofNat 33), (0, .ofNat 0, .ofNat 1), (0, .ofNat 0, .ofNat 0)), (2, 0, (0, .ofNat 0, .ofNat 112), (0, .ofNat 0, .ofNat 112), (0, .ofNat 0, .ofNat 0)), (2, 1, (0, .ofNat 0, .ofNat 112), (0, .ofNat 0, .ofNat 115), (0, .ofNat 0, .ofNat 0)), (1, 122, (0, .ofNat 0, .ofNat 32), (0, .ofNat 0, .ofNat 2), (0, .ofNat 0, .ofNat 0)), (2, 0, (3, .ofNat 1, .ofNat 0), (0, .ofNat 0, .ofNat 112), (0, .ofNat 0, .ofNat 0)), (2, 1, (3, .ofNat 1, .ofNat 0), (0, .ofNat 0, .ofNat 115), (0, .ofNat 0, .ofNat 0)), (2, 1, (3, .ofNat 1, .ofNat 0), (0, .ofNat 0, .negSucc 3), (0, .ofNat 0, .ofNat 0)), (0, 141, (1, .ofNat 1, .ofNat 0), (3, .ofNat 1, .ofNat 0), (0, .ofNat 0, .ofNat 0)), (2, 2, (1, .ofNat 1, .ofNat 0), (2, .ofNat 1, .ofNat 0), (0, .ofNat 0, .ofNat 0)), (0, 122, (0, .ofNat 0, .ofNat 26), (2, .ofNat 1, .ofNat 0), (0, .ofNat 0, .ofNat 0)), (0, 122, (0, .ofNat 0, .ofNat 30), (1, .ofNat 1, .ofNat 0), (0, .ofNat 0, .ofNat 0)), (1, 122, (0, .ofNat 0, .ofNat 31), (1, .ofNat 1, .ofNat 0), (0, .ofNat 0, .ofNat 0)), (0, 122, (0, .ofNat 0, .ofNat 30), (1, .ofNat 1, .ofNat 0), (0, .ofNat 0, .ofNat 0))], [(1, [(.ofNat 0, .ofNat 79)]), (2, [(.ofNat 1, .ofNat 80)]), (3, [(.ofNat 112, .ofNat 112)])], [], []),
  (0, [], [], [(1, 122, (0, .ofNat 0, .ofNat 30), (1, .ofNat 1, .ofNat 1), (0, .ofNat 0, .ofNat 0)), (0, 122, (0, .ofNat 0, .ofNat 30), (1, .ofNat 1, .ofNat 0), (0, .ofNat 0, .ofNat 0)), (1, 122, (0, .ofNat 0, .ofNat 33), (0, .ofNat 0, .ofNat 2), (0, .ofNat 0, .ofNat 0)), (2, 0, (0, .ofNat 0, .ofNat 100), (0, .ofNat 0, .ofNat 100), (0, .ofNat 0, .ofNat 0)), (2, 1, (0, .ofNat 0, .ofNat 100), (0, .ofNat 0, .ofNat 112), (0, .ofNat 0, .ofNat 0)), (2, 1, (0, .ofNat 0, .ofNat 100), (0, .ofNat 0, .ofNat 115), (0, .ofNat 0, .ofNat 0)), (1, 122, (0, .ofNat 0, .ofNat 32), (0, .ofNat 0, .ofNat 2), (0, .ofNat 0, .ofNat 0)), (2, 0, (3, .ofNat 1, .ofNat 0), (0, .ofNat 0, .ofNat 100), (0, .ofNat 0, .ofNat 0)), (2, 1, (3, .ofNat 1, .ofNat 0), (0, .ofNat 0, .ofNat 112), (0, .ofNat 0, .ofNat 0)), (2, 1, (3, .ofNat 1, .ofNat 0), (0, .ofNat 0, .ofNat 115), (0, .ofNat 0, .ofNat 0)), (2, 1, (3, .ofNat 1, .ofNat 0), (0, .ofNat 0, .negSucc 3), (0, .ofNat 0, .ofNat 0)), (0, 141, (1, .ofNat 1, .ofNat 0), (3, .ofNat 1, .ofNat 0), (0, .ofNat 0, .ofNat 0)), (2, 2, (1, .ofNat 1, .ofNat 0), (2, .ofNat 1, .ofNat 0), (0, .ofNat 0, .ofNat 0)), (0, 122, (0, .ofNat 0, .ofNat 26), (2, .ofNat 1, .ofNat 0), (0, .ofNat 0, .ofNat 0)), (0, 122, (0, .ofNat 0, .ofNat 30), (1, .ofNat 1, .ofNat 0), (0, .ofNat 0, .ofNat 0)), (1, 122, (0, .ofNat 0, .ofNat 31), (1, .ofNat 1, .ofNat 0), (0, .ofNat 0, .ofNat 0)), (0, 122, (0, .ofNat 0, .ofNat 30), (1, .ofNat 1, .ofNat 0), (0, .ofNat 0, .ofNat 0))], [(1, [(.ofNat 0, .ofNat 79)]), (2, [(.ofNat 1, .ofNat 80)]), (3, [(.ofNat 100, .ofNat 100)])], [], []),
  (0, [], [], [(2, 1, (4, .ofNat 1, .ofNat 0), (0, .ofNat 0, .ofNat 0), (0, .ofNat 0, .ofNat 0)), (0, 122, (0, .ofNat 0, .ofNat 28), (4, .ofNat 1, .ofNat 0), (0, .ofNat 0, .ofNat 0)), (0, 122, (0, .ofNat 0, .ofNat 31), (1, .ofNat 1, .ofNat 0), (0, .ofNat 0, .ofNat 0)), (2, 0, (0, .ofNat 0, .ofNat 0), (0, .ofNat 0, .ofNat 0), (0, .ofNat 0, .ofNat 0)), (2, 2, (3, .ofNat 1, .ofNat 0), (0, .ofNat 0, .ofNat 48), (0, .ofNat 0, .ofNat 0)), (2, 1, (3, .ofNat 1, .ofNat 0), (0, .ofNat 0, .ofNat 94), (0, .ofNat 0, .ofNat 0)), (2, 1, (3, .ofNat 1, .ofNat 0), (0, .ofNat 0, .ofNat 102), (0, .ofNat 0, .ofNat 0)), (2, 1, (3, .ofNat 1, .ofNat 0), (0, .ofNat 0, .ofNat 100), (0, .ofNat 0, .ofNat 0)), (2, 1, (3, .ofNat 1, .ofNat 0), (0, .ofNat 0, .ofNat 112), (0, .ofNat 0, .ofNat 0)), (2, 1, (3, .ofNat 1, .ofNat 0), (0, .ofNat 0, .ofNat 115), (0, .ofNat 0, .ofNat 0)), (2, 1, (3, .ofNat 1, .ofNat 0), (0, .ofNat 0, .negSucc 3), (0, .ofNat 0, .ofNat 0)), (0, 141, (1, .ofNat 1, .ofNat 0), (3, .ofNat 1, .ofNat 0), (0, .ofNat 0, .ofNat 0)), (2, 2, (1, .ofNat 1, .ofNat 0), (2, .ofNat 1, .ofNat 0), (0, .ofNat 0, .ofNat 0)), (0, 122, (0, .ofNat 0, .ofNat 26), (2, .ofNat 1, .ofNat 0), (0, .ofNat 0, .ofNat 0)), (0, 122, (0, .ofNat 0, .ofNat 30), (1, .ofNat 1, .ofNat 0), (0, .ofNat 0, .ofNat 0)), (1, 122, (0, .ofNat 0, .ofNat 31), (1, .ofNat 1, .ofNat 0), (0, .ofNat 0, .ofNat 0)), (0, 122, (0, .ofNat 0, .ofNat 30), (1, .ofNat 1, .ofNat 0), (0, .ofNat 0, .ofNat 0))], [(1, [(.ofNat 0, .ofNat 79)]), (2, [(.ofNat 1, .ofNat 80)]), (3, [(.ofNat 0, .ofNat 47)]), (4, [(.ofNat 1, .ofNat 5)])], [], []),
  (0, [], [], [(1, 122, (0, .ofNat 0, .ofNat 29), (1, .ofNat 1, .ofNat 0), (0, .ofNat 0, .ofNat 0)), (1, 122, (0, .ofNat 0, .ofNat 28), (0, .ofNat 0, .ofNat 1), (0, .ofNat 0, .ofNat 0)), (2, 0, (4, .ofNat 1, .ofNat 0), (0, .ofNat 0, .ofNat 0), (0, .ofNat 0, .ofNat 0)), (0, 122, (0, .ofNat 0, .ofNat 28), (4, .ofNat 1, .ofNat 0), (0, .ofNat 0, .ofNat 0)), (0, 122, (0, .ofNat 0, .ofNat 31), (1, .ofNat 1, .ofNat 0), (0, .ofNat 0, .ofNat 0)), (2, 0, (0, .ofNat 0, .ofNat 0), (0, .ofNat 0, .ofNat 0), (0, .ofNat 0, .ofNat 0)), (2, 2, (3, .ofNat 1, .ofNat 0), (0, .ofNat 0, .ofNat 48), (0, .ofNat 0, .ofNat 0)), (2, 1, (3, .ofNat 1, .ofNat 0), (0, .ofNat 0, .ofNat 94), (0, .ofNat 0, .ofNat 0)), (2, 1, (3, .ofNat 1, .ofNat 0), (0, .ofNat 0, .ofNat 102), (0, .ofNat 0, .ofNat 0)), (2, 1, (3, .ofNat 1, .ofNat 0), (0, .ofNat 0, .ofNat 100), (0, .ofNat 0, .ofNat 0)), (2, 1, (3, .ofNat 1, .ofNat 0), (0, .ofNat 0, .ofNat 112), (0, .ofNat 0, .ofNat 0)), (2, 1, (3, .ofNat 1, .ofNat 0), (0, .ofNat 0, .ofNat 115), (0, .ofNat 0, .ofNat 0)), (2, 1, (3, .ofNat 1, .ofNat 0), (0, .ofNat 0, .negSucc 3), (0, .ofNat 0, .ofNat 0)), (0, 141, (1, .ofNat 1, .ofNat 0), (3, .ofNat 1, .ofNat 0), (0, .ofNat 0, .ofNat 0)), (2, 2, (1, .ofNat 1, .ofNat 0), (2, .ofNat 1, .ofNat 0), (0, .ofNat 0, .ofNat 0)), (0, 122, (0, .ofNat 0, .ofNat 26), (2, .ofNat 1, .ofNat 0), (0, .ofNat 0, .ofNat 0)), (0, 122, (0, .ofNat 0, .ofNat 30), (1, .ofNat 1, .ofNat 0), (0, .ofNat 0, .ofNat 0)), (1, 122, (0, .ofNat 0, .ofNat 31), (1, .ofNat 1, .ofNat 0), (0, .ofNat 0, .ofNat 0)), (0, 122, (0, .ofNat 0, .ofNat 30), (1, .ofNat 1, .ofNat 0), (0, .ofNat 0, .ofNat 0))], [(1, [(.ofNat 0, .ofNat 79)]), (2, [(.ofNat 1, .ofNat 80)]), (3, [(.ofNat 0, .ofNat 47)]), (4, [(.ofNat 0, .ofNat 0)])], [], []),
  (0, [], [], [(2, 1, (4, .ofNat 1, .ofNat 0), (0, .ofNat 0, .ofNat 0), (0, .ofNat 0, .ofNat 0)), (0, 122, (0, .ofNat 0, .ofNat 28), (4, .ofNat 1, .ofNat 0), (0, .ofNat 0, .ofNat 0)), (0, 122, (0, .ofNat 0, .ofNat 31), (1, .ofNat 1, .ofNat 0), (0, .ofNat 0, .ofNat 0)), (2, 0, (0, .ofNat 0, .ofNat 0), (0, .ofNat 0, .ofNat 0), (0, .ofNat 0, .ofNat 0)), (2, 4, (3, .ofNat 1, .ofNat 0), (0, .ofNat 0, .ofNat 57), (0, .ofNat 0, .ofNat 0)), (2, 3, (3, .ofNat 1, .ofNat 0), (0, .ofNat 0, .ofNat 48), (0, .ofNat 0, .ofNat 0)), (2, 1, (3, .ofNat 1, .ofNat 0), (0, .ofNat 0, .ofNat 94), (0, .ofNat 0, .ofNat 0)), (2, 1, (3, .ofNat 1, .ofNat 0), (0, .ofNat 0, .ofNat 102), (0, .ofNat 0, .ofNat 0)), (2, 1, (3, .ofNat 1, .ofNat 0), (0, .ofNat 0, .ofNat 100), (0, .ofNat 0, .ofNat 0)), (2, 1, (3, .ofNat 1, .ofNat 0), (0, .ofNat 0, .ofNat 112), (0, .ofNat 0, .ofNat 0)), (2, 1, (3, .ofNat 1, .ofNat 0), (0, .ofNat 0, .ofNat 115), (0, .ofNat 0, .ofNat 0)), (2, 1, (3, .ofNat 1, .ofNat 0), (0, .ofNat 0, .negSucc 3), (0, .ofNat 0, .ofNat 0)), (0, 141, (1, .ofNat 1, .ofNat 0), (3, .ofNat 1, .ofNat 0), (0, .ofNat 0, .ofNat 0)), (2, 2, (1, .ofNat 1, .ofNat 0), (2, .ofNat 1, .ofNat 0), (0, .ofNat 0, .ofNat 0)), (0, 122, (0, .ofNat 0, .ofNat 26), (2, .ofNat 1, .ofNat 0), (0, .ofNat 0, .ofNat 0)), (0, 122, (0, .ofNat 0, .ofNat 30), (1, .ofNat 1, .ofNat 0), (0, .ofNat 0, .ofNat 0)), (1, 122, (0, .ofNat 0, .ofNat 31), (1, .ofNat 1, .ofNat 0), (0, .ofNat 0, .ofNat 0)), (0, 122, (0, .ofNat 0, .ofNat 30), (1, .ofNat 1, .ofNat 0), (0, .ofNat 0, .ofNat 0))], [(1, [(.ofNat 0, .ofNat 79)]), (2, [(.ofNat 1, .ofNat 80)]), (3, [(.ofNat 58, .ofNat 93), (.ofNat 95, .ofNat 99), (.ofNat 101, .ofNat 101), (.ofNat 103, .ofNat 111), (.ofNat 113, .ofNat 114), (.ofNat 116, .ofNat 255)]), (4, [(.ofNat 1, .ofNat 5)])], [], []),
  (0, [], [], [(1, 122, (0, .ofNat 0, .ofNat 29), (1, .ofNat 1, .ofNat 0), (0, .ofNat 0, .ofNat 0)), (1, 122, (0, .ofNat 0, .ofNat 28), (0, .ofNat 0, .ofNat 1), (0, .ofNat 0, .ofNat 0)), (2, 0, (4, .ofNat 1, .ofNat 0), (0, .ofNat 0, .ofNat 0), (0, .ofNat 0, .ofNat 0)), (0, 122, (0, .ofNat 0, .ofNat 28), (4, .ofNat 1, .ofNat 0), (0, .ofNat 0, .ofNat 0)), (0, 122, (0, .ofNat 0, .ofNat 31), (1, .ofNat 1, .ofNat 0), (0, .ofNat 0, .ofNat 0)), (2, 0, (0, .ofNat 0, .ofNat 0), (0, .ofNat 0, .ofNat 0), (0, .ofNat 0, .ofNat 0)), (2, 4, (3, .ofNat 1, .ofNat 0), (0, .ofNat 0, .ofNat 57), (0, .ofNat 0, .ofNat 0)), (2, 3, (3, .ofNat 1, .ofNat 0), (0, .ofNat 0, .ofNat 48), (0, .ofNat 0, .ofNat 0)), (2, 1, (3, .ofNat 1, .ofNat 0), (0, .ofNat 0, .ofNat 94), (0, .ofNat 0, .ofNat 0)), (2, 1, (3, .ofNat 1, .ofNat 0), (0, .ofNat 0, .ofNat 102), (0, .ofNat 0, .ofNat 0)), (2, 1, (3, .ofNat 1, .ofNat 0), (0, .ofNat 0, .ofNat 100), (0, .ofNat 0, .ofNat 0)), (2, 1, (3, .ofNat 1, .ofNat 0), (0, .ofNat 0, .ofNat 112), (0, .ofNat 0, .ofNat 0)), (2, 1, (3, .ofNat 1, .ofNat 0), (0, .ofNat 0, .ofNat 115), (0, .ofNat 0, .ofNat 0)), (2, 1, (3, .ofNat 1, .ofNat 0), (0, .ofNat 0, .negSucc 3), (0, .ofNat 0, .ofNat 0)), (0, 141, (1, .ofNat 1, .ofNat 0), (3, .ofNat 1, .ofNat 0), (0, .ofNat 0, .ofNat 0)), (2, 2, (1, .ofNat 1, .ofNat 0), (2, .ofNat 1, .ofNat 0), (0, .ofNat 0, .ofNat 0)), (0, 122, (0, .ofNat 0, .ofNat 26), (2, .ofNat 1, .ofNat 0), (0, .ofNat 0, .ofNat 0)), (0, 122, (0, .ofNat 0, .ofNat 30), (1, .ofNat 1, .ofNat 0), (0, .ofNat 0, .ofNat 0)), (1, 122, (0, .ofNat 0, .ofNat 31), (1, .ofNat 1, .ofNat 0), (0, .ofNat 0, .ofNat 0)), (0, 122, (0, .ofNat 0, .ofNat 30), (1, .ofNat 1, .ofNat 0), (0, .ofNat 0, .ofNat 0))], [(1, [(.ofNat 0, .ofNat 79)]), (2, [(.ofNat 1, .ofNat 80)]), (3, [(.ofNat 58, .ofNat 93), (.ofNat 95, .ofNat 99), (.ofNat 101, .ofNat 101), (.ofNat 103, .ofNat 111), (.ofNat 113, .ofNat 114), (.ofNat 116, .ofNat 255)]), (4, [(.ofNat 0, .ofNat 0)])], [], []),
  (191, [(0, .inr (.inl [122])), (1, .inl (false, (3, .ofNat 1, .ofNat 0)))], [], [(1, 122, (0, .ofNat 0, .ofNat 33), (0, .ofNat 0, .ofNat 0), (0, .ofNat 0, .ofNat 0)), (1, 122, (0, .ofNat 0, .ofNat 32), (0, .ofNat 0, .ofNat 1), (0, .ofNat 0, .ofNat 0)), (2, 1, (0, .ofNat 0, .ofNat 1), (0, .ofNat 0, .ofNat 0), (0, .ofNat 0, .ofNat 0)), (2, 5, (3, .ofNat 1, .ofNat 0), (0, .ofNat 0, .ofNat 57), (0, .ofNat 0, .ofNat 0)), (2, 3, (3, .ofNat 1, .ofNat 0), (0, .ofNat 0, .ofNat 48), (0, .ofNat 0, .ofNat 0)), (2, 1, (3, .ofNat 1, .ofNat 0), (0, .ofNat 0, .ofNat 94), (0, .ofNat 0, .ofNat 0)), (2, 1, (3, .ofNat 1, .ofNat 0), (0, .ofNat 0, .ofNat 102), (0, .ofNat 0, .ofNat 0)), (2, 1, (3, .ofNat 1, .ofNat 0), (0, .ofNat 0, .ofNat 100), (0, .ofNat 0, .ofNat 0)), (2, 1, (3, .ofNat 1, .ofNat 0), (0, .ofNat 0, .ofNat 112), (0, .ofNat 0, .ofNat 0)), (2, 1, (3, .ofNat 1, .ofNat 0), (0, .ofNat 0, .ofNat 115), (0, .ofNat 0, .ofNat 0)), (2, 1, (3, .ofNat 1, .ofNat 0), (0, .ofNat 0, .negSucc 3), (0, .ofNat 0, .ofNat 0)), (0, 141, (1, .ofNat 1, .ofNat 0), (3, .ofNat 1, .ofNat 0), (0, .ofNat 0, .ofNat 0)), (2, 2, (1, .ofNat 1, .ofNat 0), (2, .ofNat 1, .ofNat 0), (0, .ofNat 0, .ofNat 0)), (0, 122, (0, .ofNat 0, .ofNat 26), (2, .ofNat 1, .ofNat 0), (0, .ofNat 0, .ofNat 0)), (0, 122, (0, .ofNat 0, .ofNat 30), (1, .ofNat 1, .ofNat 0), (0, .ofNat 0, .ofNat 0)), (1, 122, (0, .ofNat 0, .ofNat 31), (1, .ofNat 1, .ofNat 0), (0, .ofNat 0, .ofNat 0)), (0, 122, (0, .ofNat 0, .ofNat 30), (1, .ofNat 1, .ofNat 0), (0, .ofNat 0, .ofNat 0))], [(1, [(.ofNat 0, .ofNat 79)]), (2, [(.ofNat 1, .ofNat 80)]), (3, [(.ofNat 48, .ofNat 57)])], [], []),
  (0, [], [], [(1, 122, (0, .ofNat 0, .ofNat 30), (1, .ofNat 1, .ofNat 1), (0, .ofNat 0, .ofNat 0)), (0, 122, (0, .ofNat 0, .ofNat 30), (1, .ofNat 1, .ofNat 0), (0, .ofNat 0, .ofNat 0)), (1, 122, (0, .ofNat 0, .ofNat 32), (0, .ofNat 0, .ofNat 3), (0, .ofNat 0, .ofNat 0)), (2, 0, (3, .ofNat 1, .ofNat 0), (0, .ofNat 0, .ofNat 94), (0, .ofNat 0, .ofNat 0)), (2, 1, (3, .ofNat 1, .ofNat 0), (0, .ofNat 0, .ofNat 102), (0, .ofNat 0, .ofNat 0)), (2, 1, (3, .ofNat 1, .ofNat 0), (0, .ofNat 0, .ofNat 100), (0, .ofNat 0, .ofNat 0)), (2, 1, (3, .ofNat 1, .ofNat 0), (0, .ofNat 0, .ofNat 112), (0, .ofNat 0, .ofNat 0)), (2, 1, (3, .ofNat 1, .ofNat 0), (0, .ofNat 0, .ofNat 115), (0, .ofNat 0, .ofNat 0)), (2, 1, (3, .ofNat 1, .ofNat 0), (0, .ofNat 0, .negSucc 3), (0, .ofNat 0, .ofNat 0)), (0, 141, (1, .ofNat 1, .ofNat 0), (3, .ofNat 1, .ofNat 0), (0, .ofNat 0, .ofNat 0)), (2, 2, (1, .ofNat 1, .ofNat 0), (2, .ofNat 1, .ofNat 0), (0, .ofNat 0, .ofNat 0)), (0, 122, (0, .ofNat 0, .ofNat 26), (2, .ofNat 1, .ofNat 0), (0, .ofNat 0, .ofNat 0)), (0, 122, (0, .ofNat 0, .ofNat 30), (1, .ofNat 1, .ofNat 0), (0, .ofNat 0, .ofNat 0)), (1, 122, (0, .ofNat 0, .ofNat 31), (1, .ofNat 1, .ofNat 0), (0, .ofNat 0, .ofNat 0)), (0, 122, (0, .ofNat 0, .ofNat 30), (1, .ofNat 1, .ofNat 0), (0, .ofNat 0, .ofNat 0))], [(1, [(.ofNat 0, .ofNat 79)]), (2, [(.ofNat 1, .ofNat 80)]), (3, [(.ofNat 94, .ofNat 94)])], [], []),
  (0, [], [], [(1, 122, (0, .ofNat 0, .ofNat 30), (1, .ofNat 1, .ofNat 1), (0, .ofNat 0, .ofNat 0)), (0, 122, (0, .ofNat 0, .ofNat 30), (1, .ofNat 1, .ofNat 0), (0, .ofNat 0, .ofNat 0)), (1, 122, (0, .ofNat 0, .ofNat 33), (0, .ofNat 0, .ofNat 3), (0, .ofNat 0, .ofNat 0)), (2, 1, (0, .ofNat 0, .ofNat 102), (0, .ofNat 0, .ofNat 100), (0, .ofNat 0, .ofNat 0)), (2, 1, (0, .ofNat 0, .ofNat 102), (0, .ofNat 0, .ofNat 112), (0, .ofNat 0, .ofNat 0)), (2, 1, (0, .ofNat 0, .ofNat 102), (0, .ofNat 0, .ofNat 115), (0, .ofNat 0, .ofNat 0)), (1, 122, (0, .ofNat 0, .ofNat 32), (0, .ofNat 0, .ofNat 2), (0, .ofNat 0, .ofNat 0)), (2, 0, (3, .ofNat 1, .ofNat 0), (0, .ofNat 0, .ofNat 102), (0, .ofNat 0, .ofNat 0)), (2, 1, (3, .ofNat 1, .ofNat 0), (0, .ofNat 0, .ofNat 100), (0, .ofNat 0, .ofNat 0)), (2, 1, (3, .ofNat 1, .ofNat 0), (0, .ofNat 0, .ofNat 112), (0, .ofNat 0, .ofNat 0)), (2, 1, (3, .ofNat 1, .ofNat 0), (0, .ofNat 0, .ofNat 115), (0, .ofNat 0, .ofNat 0)), (2, 1, (3, .ofNat 1, .ofNat 0), (0, .ofNat 0, .negSucc 3), (0, .ofNat 0, .ofNat 0)), (0, 141, (1, .ofNat 1, .ofNat 0), (3, .ofNat 1, .ofNat 0), (0, .ofNat 0, .ofNat 0)), (2, 2, (1, .ofNat 1, .ofNat 0), (2, .ofNat 1, .ofNat 0), (0, .ofNat 0, .ofNat 0)), (0, 122, (0, .ofNat 0, .ofNat 26), (2, .ofNat 1, .ofNat 0), (0, .ofNat 0, .ofNat 0)), (0, 122, (0, .ofNat 0, .ofNat 30), (1, .ofNat 1, .ofNat 0), (0, .ofNat 0, .ofNat 0)), (1, 122, (0, .ofNat 0, .ofNat 31), (1, .ofNat 1, .ofNat 0), (0, .ofNat 0, .ofNat 0)), (0, 122, (0, .ofNat 0, .ofNat 30), (1, .ofNat 1, .ofNat 0), (0, .ofNat 0, .ofNat 0))], [(1, [(.ofNat 0, .ofNat 79)]), (2, [(.ofNat 1, .ofNat 80)]), (3, [(.ofNat 102, .ofNat 102)])], [], [])]
set_option maxRecDepth 1000000 in
theorem sg_nx_c_g : sg_go [] [190] 3000 209 34 1 1 [(0, [(.ofNat 0, .ofNat 0)])] [] [] [] [(0, .inr (.inl [122]))] [] [(122, some 28), (122, some 29), (122, some 30), (122, some 31), (122, some 32), (122, some 33)] sg_nx_c_Z = true := by decide +kernel
set_option maxRecDepth 100000 in
theorem sg_nx_c {Q : Option Value × am_S → Prop} {d : Nat} {S : am_S} {L : am_L} (hd : 1 ≤ d) (hP : ax_P0 none S) (l0 : lc L 0 122)
    (k0 : ∀ (x1 x2 : Int) (S' : am_S), ax_P0 none S' → rd S' = sg_up (sg_up (rd S) 122 31 x1) 122 32 0 → rd S 122 30 = x1 → (sg_up (rd S) 122 31 x1) 122 26 = x2 → x2 ≤ x1 → (0 ≤ x1 ∧ x1 ≤ 80) → (0 ≤ x2 ∧ x2 ≤ 80) → Q (none, S'))
    (k1 : ∀ (x1 x2 x3 : Int) (S' : am_S), ax_P0 none S' → rd S' = sg_up (sg_up (sg_up (sg_up (rd S) 122 31 x1) 122 32 2) 122 33 0) 122 30 (x1 + 1) → rd S 122 30 = x1 → (sg_up (rd S) 122 31 x1) 122 26 = x2 → x1 < x2 → (sg_up (rd S) 122 31 x1) 141 x1 = x3 → x3 ≠ (-4) → x3 = 115 → (0 ≤ x1 ∧ x1 ≤ 79) → (1 ≤ x2 ∧ x2 ≤ 80) → (115 ≤ x3 ∧ x3 ≤ 115) → Q (none, S'))
    (k2 : ∀ (x1 x2 x3 : Int) (S' : am_S), ax_P0 none S' → rd S' = sg_up (sg_up (sg_up (sg_up (rd S) 122 31 x1) 122 32 2) 122 33 1) 122 30 (x1 + 1) → rd S 122 30 = x1 → (sg_up (rd S) 122 31 x1) 122 26 = x2 → x1 < x2 → (sg_up (rd S) 122 31 x1) 141 x1 = x3 → x3 ≠ (-4) → x3 ≠ 115 → x3 = 112 → (0 ≤ x1 ∧ x1 ≤ 79) → (1 ≤ x2 ∧ x2 ≤ 80) → (112 ≤ x3 ∧ x3 ≤ 112) → Q (none, S'))
    (k3 : ∀ (x1 x2 x3 : Int) (S' : am_S), ax_P0 none S' → rd S' = sg_up (sg_up (sg_up (sg_up (rd S) 122 31 x1) 122 32 2) 122 33 2) 122 30 (x1 + 1) → rd S 122 30 = x1 → (sg_up (rd S) 122 31 x1) 122 26 = x2 → x1 < x2 → (sg_up (rd S) 122 31 x1) 141 x1 = x3 → x3 ≠ (-4) → x3 ≠ 115 → x3 ≠ 112 → x3 = 100 → (0 ≤ x1 ∧ x1 ≤ 79) → (1 ≤ x2 ∧ x2 ≤ 80) → (100 ≤ x3 ∧ x3 ≤ 100) → Q (none, S'))
    (k4 : ∀ (x1 x2 x3 x4 : Int) (S' : am_S), ax_P0 none S' → rd S' = sg_up (rd S) 122 31 x1 → rd S 122 30 = x1 → (sg_up (rd S) 122 31 x1) 122 26 = x2 → x1 < x2 → (sg_up (rd S) 122 31 x1) 141 x1 = x3 → x3 ≠ (-4) → x3 ≠ 115 → x3 ≠ 112 → x3 ≠ 100 → x3 ≠ 102 → x3 ≠ 94 → x3 < 48 → (sg_up (rd S) 122 31 x1) 122 28 = x4 → x4 ≠ 0 → (0 ≤ x1 ∧ x1 ≤ 79) → (1 ≤ x2 ∧ x2 ≤ 80) → (0 ≤ x3 ∧ x3 ≤ 47) → (1 ≤ x4 ∧ x4 ≤ 5) → Q (none, S'))
    (k5 : ∀ (x1 x2 x3 x4 : Int) (S' : am_S), ax_P0 none S' → rd S' = sg_up (sg_up (sg_up (rd S) 122 31 x1) 122 28 1) 122 29 x1 → rd S 122 30 = x1 → (sg_up (rd S) 122 31 x1) 122 26 = x2 → x1 < x2 → (sg_up (rd S) 122 31 x1) 141 x1 = x3 → x3 ≠ (-4) → x3 ≠ 115 → x3 ≠ 112 → x3 ≠ 100 → x3 ≠ 102 → x3 ≠ 94 → x3 < 48 → (sg_up (rd S) 122 31 x1) 122 28 = x4 → x4 = 0 → (0 ≤ x1 ∧ x1 ≤ 79) → (1 ≤ x2 ∧ x2 ≤ 80) → (0 ≤ x3 ∧ x3 ≤ 47) → (0 ≤ x4 ∧ x4 ≤ 0) → Q (none, S'))
    (k6 : ∀ (x1 x2 x3 x4 : Int) (S' : am_S), ax_P0 none S' → rd S' = sg_up (rd S) 122 31 x1 → rd S 122 30 = x1 → (sg_up (rd S) 122 31 x1) 122 26 = x2 → x1 < x2 → (sg_up (rd S) 122 31 x1) 141 x1 = x3 → x3 ≠ (-4) → x3 ≠ 115 → x3 ≠ 112 → x3 ≠ 100 → x3 ≠ 102 → x3 ≠ 94 → 48 ≤ x3 → 57 < x3 → (sg_up (rd S) 122 31 x1) 122 28 = x4 → x4 ≠ 0 → (0 ≤ x1 ∧ x1 ≤ 79) → (1 ≤ x2 ∧ x2 ≤ 80) → (58 ≤ x3 ∧ x3 ≤ 93) ∨ (95 ≤ x3 ∧ x3 ≤ 99) ∨ (101 ≤ x3 ∧ x3 ≤ 101) ∨ (103 ≤ x3 ∧ x3 ≤ 111) ∨ (113 ≤ x3 ∧ x3 ≤ 114) ∨ (116 ≤ x3 ∧ x3 ≤ 255) → (1 ≤ x4 ∧ x4 ≤ 5) → Q (none, S'))
    (k7 : ∀ (x1 x2 x3 x4 : Int) (S' : am_S), ax_P0 none S' → rd S' = sg_up (sg_up (sg_up (rd S) 122 31 x1) 122 28 1) 122 29 x1 → rd S 122 30 = x1 → (sg_up (rd S) 122 31 x1) 122 26 = x2 → x1 < x2 → (sg_up (rd S) 122 31 x1) 141 x1 = x3 → x3 ≠ (-4) → x3 ≠ 115 → x3 ≠ 112 → x3 ≠ 100 → x3 ≠ 102 → x3 ≠ 94 → 48 ≤ x3 → 57 < x3 → (sg_up (rd S) 122 31 x1) 122 28 = x4 → x4 = 0 → (0 ≤ x1 ∧ x1 ≤ 79) → (1 ≤ x2 ∧ x2 ≤ 80) → (58 ≤ x3 ∧ x3 ≤ 93) ∨ (95 ≤ x3 ∧ x3 ≤ 99) ∨ (101 ≤ x3 ∧ x3 ≤ 101) ∨ (103 ≤ x3 ∧ x3 ≤ 111) ∨ (113 ≤ x3 ∧ x3 ≤ 114) ∨ (116 ≤ x3 ∧ x3 ≤ 255) → (0 ≤ x4 ∧ x4 ≤ 0) → Q (none, S'))
    (k8 : ∀ (x1 x2 x3 : Int) (L' : am_L) (S' : am_S), ax_P0 none S' → rd S' = sg_up (sg_up (sg_up (rd S) 122 31 x1) 122 32 1) 122 33 0 → rd S 122 30 = x1 → (sg_up (rd S) 122 31 x1) 122 26 = x2 → x1 < x2 → (sg_up (rd S) 122 31 x1) 141 x1 = x3 → x3 ≠ (-4) → x3 ≠ 115 → x3 ≠ 112 → x3 ≠ 100 → x3 ≠ 102 → x3 ≠ 94 → 48 ≤ x3 → x3 ≤ 57 → (0 ≤ x1 ∧ x1 ≤ 79) → (1 ≤ x2 ∧ x2 ≤ 80) → (48 ≤ x3 ∧ x3 ≤ 57) → lc L' 0 122 → li L' 1 x3 → am_V none d 209 190 L' ([]) S' Q)
    (k9 : ∀ (x1 x2 x3 : Int) (S' : am_S), ax_P0 none S' → rd S' = sg_up (sg_up (sg_up (rd S) 122 31 x1) 122 32 3) 122 30 (x1 + 1) → rd S 122 30 = x1 → (sg_up (rd S) 122 31 x1) 122 26 = x2 → x1 < x2 → (sg_up (rd S) 122 31 x1) 141 x1 = x3 → x3 ≠ (-4) → x3 ≠ 115 → x3 ≠ 112 → x3 ≠ 100 → x3 ≠ 102 → x3 = 94 → (0 ≤ x1 ∧ x1 ≤ 79) → (1 ≤ x2 ∧ x2 ≤ 80) → (94 ≤ x3 ∧ x3 ≤ 94) → Q (none, S'))
    (k10 : ∀ (x1 x2 x3 : Int) (S' : am_S), ax_P0 none S' → rd S' = sg_up (sg_up (sg_up (sg_up (rd S) 122 31 x1) 122 32 2) 122 33 3) 122 30 (x1 + 1) → rd S 122 30 = x1 → (sg_up (rd S) 122 31 x1) 122 26 = x2 → x1 < x2 → (sg_up (rd S) 122 31 x1) 141 x1 = x3 → x3 ≠ (-4) → x3 ≠ 115 → x3 ≠ 112 → x3 ≠ 100 → x3 = 102 → (0 ≤ x1 ∧ x1 ≤ 79) → (1 ≤ x2 ∧ x2 ≤ 80) → (102 ≤ x3 ∧ x3 ≤ 102) → Q (none, S')) : am_V none d 209 34 L ([]) S Q := by
  refine sg_use sg_nx_c_g hd hP (sg_xs [0]) ⟨⟨Int.le_refl 0, Int.le_refl 0⟩, trivial⟩ trivial trivial trivial ⟨l0, trivial⟩ trivial ?_
  intro z hz x' L' st' S' hx hP' hW hL' hs' hJ hE' hT' hD'
  simp only [sg_nx_c_Z, List.mem_cons, List.not_mem_nil, or_false] at hz
  rcases hz with rfl | rfl | rfl | rfl | rfl | rfl | rfl | rfl | rfl | rfl | rfl
  · obtain ⟨f0, -, f2, f3, -, hσ⟩ := hJ
    obtain ⟨e0, e1, -⟩ := hE'
    intro v hv
    subst hv
    cases v with
    | some _ => exact hs'.elim
    | none =>
      exact k0 (x' 1) (x' 2) S' hP' hσ f0 f2 f3 e0 e1
  · obtain ⟨f0, -, f2, f3, f4, f5, f6, -, -, hσ⟩ := hJ
    obtain ⟨e0, e1, e2, -⟩ := hE'
    intro v hv
    subst hv
    cases v with
    | some _ => exact hs'.elim
    | none =>
      exact k1 (x' 1) (x' 2) (x' 3) S' hP' hσ f0 f2 f3 f4 f5 f6 e0 e1 e2
  · obtain ⟨f0, -, f2, f3, f4, f5, f6, f7, -, -, -, hσ⟩ := hJ
    obtain ⟨e0, e1, e2, -⟩ := hE'
    intro v hv
    subst hv
    cases v with
    | some _ => exact hs'.elim
    | none =>
      exact k2 (x' 1) (x' 2) (x' 3) S' hP' hσ f0 f2 f3 f4 f5 f6 f7 e0 e1 e2
  · obtain ⟨f0, -, f2, f3, f4, f5, f6, f7, f8, -, -, -, -, hσ⟩ := hJ
    obtain ⟨e0, e1, e2, -⟩ := hE'
    intro v hv
    subst hv
    cases v with
    | some _ => exact hs'.elim
    | none =>
      exact k3 (x' 1) (x' 2) (x' 3) S' hP' hσ f0 f2 f3 f4 f5 f6 f7 f8 e0 e1 e2
  · obtain ⟨f0, -, f2, f3, f4, f5, f6, f7, f8, f9, f10, f11, -, -, f14, f15, hσ⟩ := hJ
    obtain ⟨e0, e1, e2, e3, -⟩ := hE'
    intro v hv
    subst hv
    cases v with
    | some _ => exact hs'.elim
    | none =>
      exact k4 (x' 1) (x' 2) (x' 3) (x' 4) S' hP' hσ f0 f2 f3 f4 f5 f6 f7 f8 f9 f10 f11 f14 f15 e0 e1 e2 e3
  · obtain ⟨f0, -, f2, f3, f4, f5, f6, f7, f8, f9, f10, f11, -, -, f14, f15, hσ⟩ := hJ
    obtain ⟨e0, e1, e2, e3, -⟩ := hE'
    intro v hv
    subst hv
    cases v with
    | some _ => exact hs'.elim
    | none =>
      exact k5 (x' 1) (x' 2) (x' 3) (x' 4) S' hP' hσ f0 f2 f3 f4 f5 f6 f7 f8 f9 f10 f11 f14 f15 e0 e1 e2 e3
  · obtain ⟨f0, -, f2, f3, f4, f5, f6, f7, f8, f9, f10, f11, f12, -, -, f15, f16, hσ⟩ := hJ
    obtain ⟨e0, e1, e2, e3, -⟩ := hE'
    intro v hv
    subst hv
    cases v with
    | some _ => exact hs'.elim
    | none =>
      exact k6 (x' 1) (x' 2) (x' 3) (x' 4) S' hP' hσ f0 f2 f3 f4 f5 f6 f7 f8 f9 f10 f11 f12 f15 f16 e0 e1 e2 e3
  · obtain ⟨f0, -, f2, f3, f4, f5, f6, f7, f8, f9, f10, f11, f12, -, -, f15, f16, hσ⟩ := hJ
    obtain ⟨e0, e1, e2, e3, -⟩ := hE'
    intro v hv
    subst hv
    cases v with
    | some _ => exact hs'.elim
    | none =>
      exact k7 (x' 1) (x' 2) (x' 3) (x' 4) S' hP' hσ f0 f2 f3 f4 f5 f6 f7 f8 f9 f10 f11 f12 f15 f16 e0 e1 e2 e3
  · obtain ⟨f0, -, f2, f3, f4, f5, f6, f7, f8, f9, f10, f11, f12, -, hσ⟩ := hJ
    obtain ⟨e0, e1, e2, -⟩ := hE'
    obtain ⟨p0, p1, -⟩ := hL'
    obtain rfl := sg_tn hs'
    exact k8 (x' 1) (x' 2) (x' 3) L' S' hP' hσ f0 f2 f3 f4 f5 f6 f7 f8 f9 f10 f11 f12 e0 e1 e2 p0 p1
  · obtain ⟨f0, -, f2, f3, f4, f5, f6, f7, f8, f9, f10, -, hσ⟩ := hJ
    obtain ⟨e0, e1, e2, -⟩ := hE'
    intro v hv
    subst hv
    cases v with
    | some _ => exact hs'.elim
    | none =>
      exact k9 (x' 1) (x' 2) (x' 3) S' hP' hσ f0 f2 f3 f4 f5 f6 f7 f8 f9 f10 e0 e1 e2
  · obtain ⟨f0, -, f2, f3, f4, f5, f6, f7, f8, f9, -, -, -, -, hσ⟩ := hJ
    obtain ⟨e0, e1, e2, -⟩ := hE'
    intro v hv
    subst hv
    cases v with
    | some _ => exact hs'.elim
    | none =>
      exact k10 (x' 1) (x' 2) (x' 3) S' hP' hσ f0 f2 f3 f4 f5 f6 f7 f8 f9 e0 e1 e2
def sg_nx_d_Z : List sg_z := [(268, [(0, .inr (.inl [122]))], [], [(2, 0, (0, .ofNat 0, .ofNat 0), (0, .ofNat 0, .ofNat 0), (0, .ofNat 0, .ofNat 0)), (2, 2, (0, .ofNat 0, .negSucc 3), (0, .ofNat 0, .ofNat 48), (0, .ofNat 0, .ofNat 0)), (2, 3, (2, .ofNat 1, .ofNat 0), (3, .ofNat 1, .ofNat 0), (0, .ofNat 0, .ofNat 0)), (0, 122, (0, .ofNat 0, .ofNat 26), (3, .ofNat 1, .ofNat 0), (0, .ofNat 0, .ofNat 0)), (0, 122, (0, .ofNat 0, .ofNat 30), (2, .ofNat 1, .ofNat 0), (0, .ofNat 0, .ofNat 0))], [(1, [(.ofNat 0, .ofNat 99)]), (2, [(.ofNat 0, .ofNat 80)]), (3, [(.ofNat 0, .ofNat 80)])], [], []),
  (268, [(0, .inr (.inl [122]))], [], [(2, 0, (0, .ofNat 0, .ofNat 0), (0, .ofNat 0, .ofNat 0), (0, .ofNat 0, .ofNat 0)), (2, 2, (4, .ofNat 1, .ofNat 0), (0, .ofNat 0, .ofNat 48), (0, .ofNat 0, .ofNat 0)), (0, 141, (2, .ofNat 1, .ofNat 0), (4, .ofNat 1, .ofNat 0), (0, .ofNat 0, .ofNat 0)), (2, 2, (2, .ofNat 1, .ofNat 0), (3, .ofNat 1, .ofNat 0), (0, .ofNat 0, .ofNat 0)), (0, 122, (0, .ofNat 0, .ofNat 26), (3, .ofNat 1, .ofNat 0), (0, .ofNat 0, .ofNat 0)), (0, 122, (0, .ofNat 0, .ofNat 30), (2, .ofNat 1, .ofNat 0), (0, .ofNat 0, .ofNat 0))], [(1, [(.ofNat 0, .ofNat 99)]), (2, [(.ofNat 0, .ofNat 79)]), (3, [(.ofNat 1, .ofNat 80)]), (4, [(.ofNat 0, .ofNat 47)])], [], []),
  (268, [(0, .inr (.inl [122]))], [], [(2, 0, (0, .ofNat 0, .ofNat 0), (0, .ofNat 0, .ofNat 0), (0, .ofNat 0, .ofNat 0)), (2, 4, (4, .ofNat 1, .ofNat 0), (0, .ofNat 0, .ofNat 57), (0, .ofNat 0, .ofNat 0)), (2, 3, (4, .ofNat 1, .ofNat 0), (0, .ofNat 0, .ofNat 48), (0, .ofNat 0, .ofNat 0)), (0, 141, (2, .ofNat 1, .ofNat 0), (4, .ofNat 1, .ofNat 0), (0, .ofNat 0, .ofNat 0)), (2, 2, (2, .ofNat 1, .ofNat 0), (3, .ofNat 1, .ofNat 0), (0, .ofNat 0, .ofNat 0)), (0, 122, (0, .ofNat 0, .ofNat 26), (3, .ofNat 1, .ofNat 0), (0, .ofNat 0, .ofNat 0)), (0, 122, (0, .ofNat 0, .ofNat 30), (2, .ofNat 1, .ofNat 0), (0, .ofNat 0, .ofNat 0))], [(1, [(.ofNat 0, .ofNat 99)]), (2, [(.ofNat 0, .ofNat 79)]), (3, [(.ofNat 1, .ofNat 80)]), (4, [(.ofNat 58, .ofNat 255)])], [], []),
  (191, [(0, .inr (.inl [122]))], [], [(1, 122, (0, .ofNat 0, .ofNat 30), (2, .ofNat 1, .ofNat 1), (0, .ofNat 0, .ofNat 0)), (0, 122, (0, .ofNat 0, .ofNat 30), (2, .ofNat 1, .ofNat 0), (0, .ofNat 0, .ofNat 0)), (1, 122, (0, .ofNat 0, .ofNat 33), (1, .ofNat 1, .ofNat 0), (0, .ofNat 0, .ofNat 0)), (0, 122, (0, .ofNat 0, .ofNat 33), (1, .ofNat 1, .ofNat 0), (0, .ofNat 0, .ofNat 0)), (2, 3, (6, .ofNat 1, .ofNat 0), (0, .ofNat 0, .ofNat 2), (0, .ofNat 0, .ofNat 0)), (0, 122, (0, .ofNat 0, .ofNat 31), (5, .ofNat 1, .ofNat 0), (0, .ofNat 0, .ofNat 0)), (0, 122, (0, .ofNat 0, .ofNat 30), (2, .ofNat 1, .ofNat 0), (0, .ofNat 0, .ofNat 0)), (2, 1, (0, .ofNat 0, .ofNat 1), (0, .ofNat 0, .ofNat 0), (0, .ofNat 0, .ofNat 0)), (2, 5, (4, .ofNat 1, .ofNat 0), (0, .ofNat 0, .ofNat 57), (0, .ofNat 0, .ofNat 0)), (2, 3, (4, .ofNat 1, .ofNat 0), (0, .ofNat 0, .ofNat 48), (0, .ofNat 0, .ofNat 0)), (0, 141, (2, .ofNat 1, .ofNat 0), (4, .ofNat 1, .ofNat 0), (0, .ofNat 0, .ofNat 0)), (2, 2, (2, .ofNat 1, .ofNat 0), (3, .ofNat 1, .ofNat 0), (0, .ofNat 0, .ofNat 0)), (0, 122, (0, .ofNat 0, .ofNat 26), (3, .ofNat 1, .ofNat 0), (0, .ofNat 0, .ofNat 0)), (0, 122, (0, .ofNat 0, .ofNat 30), (2, .ofNat 1, .ofNat 0), (0, .ofNat 0, .ofNat 0))], [(1, [(.ofNat 0, .ofNat 99)]), (2, [(.ofNat 0, .ofNat 79)]), (3, [(.ofNat 1, .ofNat 80)]), (4, [(.ofNat 48, .ofNat 57)]), (5, [(.ofNat 0, .ofNat 80)]), (6, [(.ofNat 2, .ofNat 79)])], [((2, .ofNat 1, .ofNat 0), (5, .negSucc 0, .ofNat 0), (6, .ofNat 1, .ofNat 0))], []),
  (191, [(0, .inr (.inl [122]))], [], [(1, 122, (0, .ofNat 0, .ofNat 30), (2, .ofNat 1, .ofNat 1), (0, .ofNat 0, .ofNat 0)), (0, 122, (0, .ofNat 0, .ofNat 30), (2, .ofNat 1, .ofNat 0), (0, .ofNat 0, .ofNat 0)), (1, 122, (0, .ofNat 0, .ofNat 33), (1, .ofNat 10, .negSucc 51), (0, .ofNat 0, .ofNat 0)), (2, 3, (2, .ofNat 1, .ofNat 0), (3, .ofNat 1, .ofNat 0), (0, .ofNat 0, .ofNat 0)), (0, 122, (0, .ofNat 0, .ofNat 26), (3, .ofNat 1, .ofNat 0), (0, .ofNat 0, .ofNat 0)), (0, 122, (0, .ofNat 0, .ofNat 30), (2, .ofNat 1, .ofNat 0), (0, .ofNat 0, .ofNat 0)), (0, 122, (0, .ofNat 0, .ofNat 33), (1, .ofNat 1, .ofNat 0), (0, .ofNat 0, .ofNat 0)), (2, 2, (6, .ofNat 1, .ofNat 0), (0, .ofNat 0, .ofNat 2), (0, .ofNat 0, .ofNat 0)), (0, 122, (0, .ofNat 0, .ofNat 31), (5, .ofNat 1, .ofNat 0), (0, .ofNat 0, .ofNat 0)), (0, 122, (0, .ofNat 0, .ofNat 30), (2, .ofNat 1, .ofNat 0), (0, .ofNat 0, .ofNat 0)), (2, 1, (0, .ofNat 0, .ofNat 1), (0, .ofNat 0, .ofNat 0), (0, .ofNat 0, .ofNat 0)), (2, 5, (4, .ofNat 1, .ofNat 0), (0, .ofNat 0, .ofNat 57), (0, .ofNat 0, .ofNat 0)), (2, 3, (4, .ofNat 1, .ofNat 0), (0, .ofNat 0, .ofNat 48), (0, .ofNat 0, .ofNat 0)), (0, 141, (2, .ofNat 1, .ofNat 0), (4, .ofNat 1, .ofNat 0), (0, .ofNat 0, .ofNat 0)), (2, 2, (2, .ofNat 1, .ofNat 0), (3, .ofNat 1, .ofNat 0), (0, .ofNat 0, .ofNat 0)), (0, 122, (0, .ofNat 0, .ofNat 26), (3, .ofNat 1, .ofNat 0), (0, .ofNat 0, .ofNat 0)), (0, 122, (0, .ofNat 0, .ofNat 30), (2, .ofNat 1, .ofNat 0), (0, .ofNat 0, .ofNat 0))], [(1, [(.ofNat 0, .ofNat 99)]), (2, [(.ofNat 1, .ofNat 78)]), (3, [(.ofNat 1, .ofNat 79)]), (4, [(.ofNat 48, .ofNat 57)]), (5, [(.ofNat 0, .ofNat 80)]), (6, [(.negSucc 79, .ofNat 1)])], [((2, .ofNat 1, .ofNat 0), (5, .negSucc 0, .ofNat 0), (6, .ofNat 1, .ofNat 0))], []),
  (191, [(0, .inr (.inl [122]))], [], [(1, 122, (0, .ofNat 0, .ofNat 30), (2, .ofNat 1, .ofNat 1), (0, .ofNat 0, .ofNat 0)), (0, 122, (0, .ofNat 0, .ofNat 30), (2, .ofNat 1, .ofNat 0), (0, .ofNat 0, .ofNat 0)), (1, 122, (0, .ofNat 0, .ofNat 33), (7, .ofNat 1, .negSucc 47), (0, .ofNat 0, .ofNat 0)), (0, 141, (2, .ofNat 1, .ofNat 0), (4, .ofNat 1, .ofNat 0), (0, .ofNat 0, .ofNat 0)), (2, 2, (2, .ofNat 1, .ofNat 0), (3, .ofNat 1, .ofNat 0), (0, .ofNat 0, .ofNat 0)), (0, 122, (0, .ofNat 0, .ofNat 26), (3, .ofNat 1, .ofNat 0), (0, .ofNat 0, .ofNat 0)), (0, 122, (0, .ofNat 0, .ofNat 30), (2, .ofNat 1, .ofNat 0), (0, .ofNat 0, .ofNat 0)), (0, 122, (0, .ofNat 0, .ofNat 33), (1, .ofNat 1, .ofNat 0), (0, .ofNat 0, .ofNat 0)), (2, 2, (6, .ofNat 1, .ofNat 0), (0, .ofNat 0, .ofNat 2), (0, .ofNat 0, .ofNat 0)), (0, 122, (0, .ofNat 0, .ofNat 31), (5, .ofNat 1, .ofNat 0), (0, .ofNat 0, .ofNat 0)), (0, 122, (0, .ofNat 0, .ofNat 30), (2, .ofNat 1, .ofNat 0), (0, .ofNat 0, .ofNat 0)), (2, 1, (0, .ofNat 0, .ofNat 1), (0, .ofNat 0, .ofNat 0), (0, .ofNat 0, .ofNat 0)), (2, 5, (4, .ofNat 1, .ofNat 0), (0, .ofNat 0, .ofNat 57), (0, .ofNat 0, .ofNat 0)), (2, 3, (4, .ofNat 1, .ofNat 0), (0, .ofNat 0, .ofNat 48), (0, .ofNat 0, .ofNat 0)), (0, 141, (2, .ofNat 1, .ofNat 0), (4, .ofNat 1, .ofNat 0), (0, .ofNat 0, .ofNat 0)), (2, 2, (2, .ofNat 1, .ofNat 0), (3, .ofNat 1, .ofNat 0), (0, .ofNat 0, .ofNat 0)), (0, 122, (0, .ofNat 0, .ofNat 26), (3, .ofNat 1, .ofNat 0), (0, .ofNat 0, .ofNat 0)), (0, 122, (0, .ofNat 0, .ofNat 30), (2, .ofNat 1, .ofNat 0), (0, .ofNat 0, .ofNat 0))], [(1, [(.ofNat 0, .ofNat 99)]), (2, [(.ofNat 0, .ofNat 79)]), (3, [(.ofNat 1, .ofNat 80)]), (4, [(.ofNat 48, .ofNat 57)]), (5, [(.ofNat 0, .ofNat 80)]), (6, [(.negSucc 79, .ofNat 1)]), (7, [(.ofNat 48, .ofNat 1047)])], [((1, .ofNat 10, .ofNat 0), (4, .ofNat 1, .ofNat 0), (7, .ofNat 1, .ofNat 0)), ((2, .ofNat 1, .ofNat 0), (5, .negSucc 0, .ofNat 0), (6, .ofNat 1, .ofNat 0))], [])]
set_option maxRecDepth 1000000 in
theorem sg_nx_d_g : sg_go [] [190, 267] 3000 209 190 1 2 [(0, [(.ofNat 0, .ofNat 0)]), (1, [(.ofNat 0, .ofNat 99)])] [(122, (0, .ofNat 0, .ofNat 33), (1, .ofNat 1, .ofNat 0))] [] [] [(0, .inr (.inl [122]))] [] [(122, some 30), (122, some 33)] sg_nx_d_Z = true := by decide +kernel
set_option maxRecDepth 100000 in
theorem sg_nx_d {Q : Option Value × am_S → Prop} {d : Nat} {S : am_S} {L : am_L} {x1 : Int} (hd : 1 ≤ d) (hP : ax_P0 none S) (l0 : lc L 0 122) (b1 : (0 ≤ x1 ∧ x1 ≤ 99)) (m122_33 : rd S 122 33 = x1)
    (k0 : ∀ (x2 x3 : Int) (L' : am_L) (S' : am_S), ax_P0 none S' → rd S' = rd S → rd S 122 30 = x2 → rd S 122 26 = x3 → x3 ≤ x2 → (0 ≤ x1 ∧ x1 ≤ 99) → (0 ≤ x2 ∧ x2 ≤ 80) → (0 ≤ x3 ∧ x3 ≤ 80) → lc L' 0 122 → am_V none d 209 267 L' ([]) S' Q)
    (k1 : ∀ (x2 x3 x4 : Int) (L' : am_L) (S' : am_S), ax_P0 none S' → rd S' = rd S → rd S 122 30 = x2 → rd S 122 26 = x3 → x2 < x3 → rd S 141 x2 = x4 → x4 < 48 → (0 ≤ x1 ∧ x1 ≤ 99) → (0 ≤ x2 ∧ x2 ≤ 79) → (1 ≤ x3 ∧ x3 ≤ 80) → (0 ≤ x4 ∧ x4 ≤ 47) → lc L' 0 122 → am_V none d 209 267 L' ([]) S' Q)
    (k2 : ∀ (x2 x3 x4 : Int) (L' : am_L) (S' : am_S), ax_P0 none S' → rd S' = rd S → rd S 122 30 = x2 → rd S 122 26 = x3 → x2 < x3 → rd S 141 x2 = x4 → 48 ≤ x4 → 57 < x4 → (0 ≤ x1 ∧ x1 ≤ 99) → (0 ≤ x2 ∧ x2 ≤ 79) → (1 ≤ x3 ∧ x3 ≤ 80) → (58 ≤ x4 ∧ x4 ≤ 255) → lc L' 0 122 → am_V none d 209 267 L' ([]) S' Q)
    (k3 : ∀ (x2 x3 x4 x5 x6 : Int) (L' : am_L) (S' : am_S), ax_P0 none S' → rd S' = sg_up (sg_up (rd S) 122 33 x1) 122 30 (x2 + 1) → rd S 122 30 = x2 → rd S 122 26 = x3 → x2 < x3 → rd S 141 x2 = x4 → 48 ≤ x4 → x4 ≤ 57 → rd S 122 31 = x5 → 2 ≤ x6 → rd S 122 33 = x1 → (0 ≤ x1 ∧ x1 ≤ 99) → (0 ≤ x2 ∧ x2 ≤ 79) → (1 ≤ x3 ∧ x3 ≤ 80) → (48 ≤ x4 ∧ x4 ≤ 57) → (0 ≤ x5 ∧ x5 ≤ 80) → (2 ≤ x6 ∧ x6 ≤ 79) → x2 + ((-1) * x5 + 0) = x6 → lc L' 0 122 → am_V none d 209 190 L' ([]) S' Q)
    (k4 : ∀ (x2 x3 x4 x5 x6 : Int) (L' : am_L) (S' : am_S), ax_P0 none S' → rd S' = sg_up (sg_up (rd S) 122 33 (10 * x1 + (-52))) 122 30 (x2 + 1) → rd S 122 30 = x2 → rd S 122 26 = x3 → x2 < x3 → rd S 141 x2 = x4 → 48 ≤ x4 → x4 ≤ 57 → rd S 122 31 = x5 → x6 < 2 → rd S 122 33 = x1 → x3 ≤ x2 → (0 ≤ x1 ∧ x1 ≤ 99) → (1 ≤ x2 ∧ x2 ≤ 78) → (1 ≤ x3 ∧ x3 ≤ 79) → (48 ≤ x4 ∧ x4 ≤ 57) → (0 ≤ x5 ∧ x5 ≤ 80) → ((-80) ≤ x6 ∧ x6 ≤ 1) → x2 + ((-1) * x5 + 0) = x6 → lc L' 0 122 → am_V none d 209 190 L' ([]) S' Q)
    (k5 : ∀ (x2 x3 x4 x5 x6 x7 : Int) (L' : am_L) (S' : am_S), ax_P0 none S' → rd S' = sg_up (sg_up (rd S) 122 33 (x7 + (-48))) 122 30 (x2 + 1) → rd S 122 30 = x2 → rd S 122 26 = x3 → x2 < x3 → rd S 141 x2 = x4 → 48 ≤ x4 → x4 ≤ 57 → rd S 122 31 = x5 → x6 < 2 → rd S 122 33 = x1 → x2 < x3 → (0 ≤ x1 ∧ x1 ≤ 99) → (0 ≤ x2 ∧ x2 ≤ 79) → (1 ≤ x3 ∧ x3 ≤ 80) → (48 ≤ x4 ∧ x4 ≤ 57) → (0 ≤ x5 ∧ x5 ≤ 80) → ((-80) ≤ x6 ∧ x6 ≤ 1) → (48 ≤ x7 ∧ x7 ≤ 1047) → (10 * x1 + 0) + x4 = x7 → x2 + ((-1) * x5 + 0) = x6 → lc L' 0 122 → am_V none d 209 190 L' ([]) S' Q) : am_V none d 209 190 L ([]) S Q := by
  refine sg_use sg_nx_d_g hd hP (sg_xs [0, x1]) ⟨⟨Int.le_refl 0, Int.le_refl 0⟩, b1, trivial⟩ ⟨sg_fs hP rfl m122_33, trivial⟩ trivial trivial ⟨l0, trivial⟩ trivial ?_
  intro z hz x' L' st' S' hx hP' hW hL' hs' hJ hE' hT' hD'
  have q1 : x' 1 = x1 := hx 1 (by decide)
  subst q1
  simp only [sg_nx_d_Z, List.mem_cons, List.not_mem_nil, or_false] at hz
  rcases hz with rfl | rfl | rfl | rfl | rfl | rfl
  · obtain ⟨f0, f1, f2, -, -, hσ⟩ := hJ
    obtain ⟨e0, e1, e2, -⟩ := hE'
    obtain ⟨p0, -⟩ := hL'
    obtain rfl := sg_tn hs'
    exact k0 (x' 2) (x' 3) L' S' hP' hσ f0 f1 f2 e0 e1 e2 p0
  · obtain ⟨f0, f1, f2, f3, f4, -, hσ⟩ := hJ
    obtain ⟨e0, e1, e2, e3, -⟩ := hE'
    obtain ⟨p0, -⟩ := hL'
    obtain rfl := sg_tn hs'
    exact k1 (x' 2) (x' 3) (x' 4) L' S' hP' hσ f0 f1 f2 f3 f4 e0 e1 e2 e3 p0
  · obtain ⟨f0, f1, f2, f3, f4, f5, -, hσ⟩ := hJ
    obtain ⟨e0, e1, e2, e3, -⟩ := hE'
    obtain ⟨p0, -⟩ := hL'
    obtain rfl := sg_tn hs'
    exact k2 (x' 2) (x' 3) (x' 4) L' S' hP' hσ f0 f1 f2 f3 f4 f5 e0 e1 e2 e3 p0
  · obtain ⟨f0, f1, f2, f3, f4, f5, -, -, f8, f9, f10, -, hσ⟩ := hJ
    obtain ⟨e0, e1, e2, e3, e4, e5, -⟩ := hE'
    obtain ⟨t0, -⟩ := hT'
    obtain ⟨p0, -⟩ := hL'
    obtain rfl := sg_tn hs'
    exact k3 (x' 2) (x' 3) (x' 4) (x' 5) (x' 6) L' S' hP' hσ f0 f1 f2 f3 f4 f5 f8 f9 f10 e0 e1 e2 e3 e4 e5 t0 p0
  · obtain ⟨f0, f1, f2, f3, f4, f5, -, -, f8, f9, f10, -, -, f13, -, hσ⟩ := hJ
    obtain ⟨e0, e1, e2, e3, e4, e5, -⟩ := hE'
    obtain ⟨t0, -⟩ := hT'
    obtain ⟨p0, -⟩ := hL'
    obtain rfl := sg_tn hs'
    exact k4 (x' 2) (x' 3) (x' 4) (x' 5) (x' 6) L' S' hP' hσ f0 f1 f2 f3 f4 f5 f8 f9 f10 f13 e0 e1 e2 e3 e4 e5 t0 p0
  · obtain ⟨f0, f1, f2, f3, f4, f5, -, -, f8, f9, f10, -, -, f13, -, -, hσ⟩ := hJ
    obtain ⟨e0, e1, e2, e3, e4, e5, e6, -⟩ := hE'
    obtain ⟨t0, t1, -⟩ := hT'
    obtain ⟨p0, -⟩ := hL'
    obtain rfl := sg_tn hs'
    exact k5 (x' 2) (x' 3) (x' 4) (x' 5) (x' 6) (x' 7) L' S' hP' hσ f0 f1 f2 f3 f4 f5 f8 f9 f10 f13 e0 e1 e2 e3 e4 e5 e6 t0 t1 p0
def sg_nx_e_Z : List sg_z := [(0, [], [], [(2, 5, (3, .ofNat 1, .ofNat 0), (0, .ofNat 0, .ofNat 2), (0, .ofNat 0, .ofNat 0)), (0, 122, (0, .ofNat 0, .ofNat 31), (2, .ofNat 1, .ofNat 0), (0, .ofNat 0, .ofNat 0)), (0, 122, (0, .ofNat 0, .ofNat 30), (1, .ofNat 1, .ofNat 0), (0, .ofNat 0, .ofNat 0))], [(1, [(.ofNat 0, .ofNat 80)]), (2, [(.ofNat 0, .ofNat 80)]), (3, [(.negSucc 79, .ofNat 2)])], [((1, .ofNat 1, .ofNat 0), (2, .negSucc 0, .ofNat 0), (3, .ofNat 1, .ofNat 0))], []),
  (0, [], [], [(2, 1, (4, .ofNat 1, .ofNat 0), (0, .ofNat 0, .ofNat 0), (0, .ofNat 0, .ofNat 0)), (0, 122, (0, .ofNat 0, .ofNat 28), (4, .ofNat 1, .ofNat 0), (0, .ofNat 0, .ofNat 0)), (0, 122, (0, .ofNat 0, .ofNat 31), (2, .ofNat 1, .ofNat 0), (0, .ofNat 0, .ofNat 0)), (2, 4, (3, .ofNat 1, .ofNat 0), (0, .ofNat 0, .ofNat 2), (0, .ofNat 0, .ofNat 0)), (0, 122, (0, .ofNat 0, .ofNat 31), (2, .ofNat 1, .ofNat 0), (0, .ofNat 0, .ofNat 0)), (0, 122, (0, .ofNat 0, .ofNat 30), (1, .ofNat 1, .ofNat 0), (0, .ofNat 0, .ofNat 0))], [(1, [(.ofNat 0, .ofNat 80)]), (2, [(.ofNat 0, .ofNat 80)]), (3, [(.ofNat 3, .ofNat 80)]), (4, [(.ofNat 1, .ofNat 5)])], [((1, .ofNat 1, .ofNat 0), (2, .negSucc 0, .ofNat 0), (3, .ofNat 1, .ofNat 0))], []),
  (0, [], [], [(1, 122, (0, .ofNat 0, .ofNat 29), (2, .ofNat 1, .ofNat 0), (0, .ofNat 0, .ofNat 0)), (1, 122, (0, .ofNat 0, .ofNat 28), (0, .ofNat 0, .ofNat 1), (0, .ofNat 0, .ofNat 0)), (2, 0, (4, .ofNat 1, .ofNat 0), (0, .ofNat 0, .ofNat 0), (0, .ofNat 0, .ofNat 0)), (0, 122, (0, .ofNat 0, .ofNat 28), (4, .ofNat 1, .ofNat 0), (0, .ofNat 0, .ofNat 0)), (0, 122, (0, .ofNat 0, .ofNat 31), (2, .ofNat 1, .ofNat 0), (0, .ofNat 0, .ofNat 0)), (2, 4, (3, .ofNat 1, .ofNat 0), (0, .ofNat 0, .ofNat 2), (0, .ofNat 0, .ofNat 0)), (0, 122, (0, .ofNat 0, .ofNat 31), (2, .ofNat 1, .ofNat 0), (0, .ofNat 0, .ofNat 0)), (0, 122, (0, .ofNat 0, .ofNat 30), (1, .ofNat 1, .ofNat 0), (0, .ofNat 0, .ofNat 0))], [(1, [(.ofNat 0, .ofNat 80)]), (2, [(.ofNat 0, .ofNat 80)]), (3, [(.ofNat 3, .ofNat 80)]), (4, [(.ofNat 0, .ofNat 0)])], [((1, .ofNat 1, .ofNat 0), (2, .negSucc 0, .ofNat 0), (3, .ofNat 1, .ofNat 0))], [])]
set_option maxRecDepth 1000000 in
theorem sg_nx_e_g : sg_go [] [] 3000 209 267 1 1 [(0, [(.ofNat 0, .ofNat 0)])] [] [] [] [(0, .inr (.inl [122]))] [] [(122, some 28), (122, some 29)] sg_nx_e_Z = true := by decide +kernel
set_option maxRecDepth 100000 in
theorem sg_nx_e {Q : Option Value × am_S → Prop} {d : Nat} {S : am_S} {L : am_L} (hd : 1 ≤ d) (hP : ax_P0 none S) (l0 : lc L 0 122)
    (k0 : ∀ (x1 x2 x3 : Int) (S' : am_S), ax_P0 none S' → rd S' = rd S → rd S 122 30 = x1 → rd S 122 31 = x2 → x3 ≤ 2 → (0 ≤ x1 ∧ x1 ≤ 80) → (0 ≤ x2 ∧ x2 ≤ 80) → ((-80) ≤ x3 ∧ x3 ≤ 2) → x1 + ((-1) * x2 + 0) = x3 → Q (none, S'))
    (k1 : ∀ (x1 x2 x3 x4 : Int) (S' : am_S), ax_P0 none S' → rd S' = rd S → rd S 122 30 = x1 → rd S 122 31 = x2 → 2 < x3 → rd S 122 28 = x4 → x4 ≠ 0 → (0 ≤ x1 ∧ x1 ≤ 80) → (0 ≤ x2 ∧ x2 ≤ 80) → (3 ≤ x3 ∧ x3 ≤ 80) → (1 ≤ x4 ∧ x4 ≤ 5) → x1 + ((-1) * x2 + 0) = x3 → Q (none, S'))
    (k2 : ∀ (x1 x2 x3 x4 : Int) (S' : am_S), ax_P0 none S' → rd S' = sg_up (sg_up (rd S) 122 28 1) 122 29 x2 → rd S 122 30 = x1 → rd S 122 31 = x2 → 2 < x3 → rd S 122 28 = x4 → x4 = 0 → (0 ≤ x1 ∧ x1 ≤ 80) → (0 ≤ x2 ∧ x2 ≤ 80) → (3 ≤ x3 ∧ x3 ≤ 80) → (0 ≤ x4 ∧ x4 ≤ 0) → x1 + ((-1) * x2 + 0) = x3 → Q (none, S')) : am_V none d 209 267 L ([]) S Q := by
  refine sg_use sg_nx_e_g hd hP (sg_xs [0]) ⟨⟨Int.le_refl 0, Int.le_refl 0⟩, trivial⟩ trivial trivial trivial ⟨l0, trivial⟩ trivial ?_
  intro z hz x' L' st' S' hx hP' hW hL' hs' hJ hE' hT' hD'
  simp only [sg_nx_e_Z, List.mem_cons, List.not_mem_nil, or_false] at hz
  rcases hz with rfl | rfl | rfl
  · obtain ⟨f0, f1, f2, hσ⟩ := hJ
    obtain ⟨e0, e1, e2, -⟩ := hE'
    obtain ⟨t0, -⟩ := hT'
    intro v hv
    subst hv
    cases v with
    | some _ => exact hs'.elim
    | none =>
      exact k0 (x' 1) (x' 2) (x' 3) S' hP' hσ f0 f1 f2 e0 e1 e2 t0
  · obtain ⟨f0, f1, f2, -, f4, f5, hσ⟩ := hJ
    obtain ⟨e0, e1, e2, e3, -⟩ := hE'
    obtain ⟨t0, -⟩ := hT'
    intro v hv
    subst hv
    cases v with
    | some _ => exact hs'.elim
    | none =>
      exact k1 (x' 1) (x' 2) (x' 3) (x' 4) S' hP' hσ f0 f1 f2 f4 f5 e0 e1 e2 e3 t0
  · obtain ⟨f0, f1, f2, -, f4, f5, hσ⟩ := hJ
    obtain ⟨e0, e1, e2, e3, -⟩ := hE'
    obtain ⟨t0, -⟩ := hT'
    intro v hv
    subst hv
    cases v with
    | some _ => exact hs'.elim
    | none =>
      exact k2 (x' 1) (x' 2) (x' 3) (x' 4) S' hP' hσ f0 f1 f2 f4 f5 e0 e1 e2 e3 t0
def sg_sh_a_Z : List sg_z := [(57, [(0, .inr (.inl [122])), (1, .inl (false, (4, .ofNat 1, .ofNat 0))), (2, .inl (false, (5, .ofNat 1, .ofNat 0)))], [.inr (.inl [122])], [(0, 122, (0, .ofNat 0, .ofNat 31), (5, .ofNat 1, .ofNat 0), (0, .ofNat 0, .ofNat 0)), (0, 122, (0, .ofNat 0, .ofNat 33), (4, .ofNat 1, .ofNat 0), (0, .ofNat 0, .ofNat 0)), (2, 5, (3, .ofNat 1, .ofNat 0), (0, .ofNat 0, .ofNat 0), (0, .ofNat 0, .ofNat 0)), (0, 122, (0, .ofNat 0, .ofNat 28), (3, .ofNat 1, .ofNat 0), (0, .ofNat 0, .ofNat 0)), (2, 1, (2, .ofNat 1, .ofNat 0), (0, .ofNat 0, .ofNat 4), (0, .ofNat 0, .ofNat 0)), (0, 122, (0, .ofNat 0, .ofNat 38), (2, .ofNat 1, .ofNat 0), (0, .ofNat 0, .ofNat 0)), (2, 0, (1, .ofNat 1, .ofNat 0), (0, .ofNat 0, .ofNat 1), (0, .ofNat 0, .ofNat 0)), (0, 122, (0, .ofNat 0, .ofNat 32), (1, .ofNat 1, .ofNat 0), (0, .ofNat 0, .ofNat 0))], [(1, [(.ofNat 1, .ofNat 1)]), (2, [(.ofNat 0, .ofNat 3)]), (3, [(.ofNat 0, .ofNat 0)]), (5, [(.ofNat 0, .ofNat 80)])], [], []),
  (0, [], [], [(2, 4, (3, .ofNat 1, .ofNat 0), (0, .ofNat 0, .ofNat 0), (0, .ofNat 0, .ofNat 0)), (0, 122, (0, .ofNat 0, .ofNat 28), (3, .ofNat 1, .ofNat 0), (0, .ofNat 0, .ofNat 0)), (2, 1, (2, .ofNat 1, .ofNat 0), (0, .ofNat 0, .ofNat 4), (0, .ofNat 0, .ofNat 0)), (0, 122, (0, .ofNat 0, .ofNat 38), (2, .ofNat 1, .ofNat 0), (0, .ofNat 0, .ofNat 0)), (2, 0, (1, .ofNat 1, .ofNat 0), (0, .ofNat 0, .ofNat 1), (0, .ofNat 0, .ofNat 0)), (0, 122, (0, .ofNat 0, .ofNat 32), (1, .ofNat 1, .ofNat 0), (0, .ofNat 0, .ofNat 0))], [(1, [(.ofNat 1, .ofNat 1)]), (2, [(.ofNat 0, .ofNat 3)]), (3, [(.ofNat 1, .ofNat 5)])], [], []),
  (0, [], [], [(2, 4, (4, .ofNat 1, .ofNat 0), (0, .ofNat 0, .ofNat 0), (0, .ofNat 0, .ofNat 0)), (0, 122, (0, .ofNat 0, .ofNat 28), (4, .ofNat 1, .ofNat 0), (0, .ofNat 0, .ofNat 0)), (2, 1, (4, .ofNat 1, .ofNat 0), (0, .ofNat 0, .ofNat 0), (0, .ofNat 0, .ofNat 0)), (0, 122, (0, .ofNat 0, .ofNat 28), (4, .ofNat 1, .ofNat 0), (0, .ofNat 0, .ofNat 0)), (0, 122, (0, .ofNat 0, .ofNat 31), (3, .ofNat 1, .ofNat 0), (0, .ofNat 0, .ofNat 0)), (2, 0, (2, .ofNat 1, .ofNat 0), (0, .ofNat 0, .ofNat 4), (0, .ofNat 0, .ofNat 0)), (0, 122, (0, .ofNat 0, .ofNat 38), (2, .ofNat 1, .ofNat 0), (0, .ofNat 0, .ofNat 0)), (2, 0, (1, .ofNat 1, .ofNat 0), (0, .ofNat 0, .ofNat 1), (0, .ofNat 0, .ofNat 0)), (0, 122, (0, .ofNat 0, .ofNat 32), (1, .ofNat 1, .ofNat 0), (0, .ofNat 0, .ofNat 0))], [(1, [(.ofNat 1, .ofNat 1)]), (2, [(.ofNat 4, .ofNat 4)]), (3, [(.ofNat 0, .ofNat 80)]), (4, [(.ofNat 1, .ofNat 5)])], [], []),
  (0, [], [], [(2, 4, (0, .ofNat 0, .ofNat 5), (0, .ofNat 0, .ofNat 0), (0, .ofNat 0, .ofNat 0)), (0, 122, (0, .ofNat 0, .ofNat 28), (0, .ofNat 0, .ofNat 5), (0, .ofNat 0, .ofNat 0)), (1, 122, (0, .ofNat 0, .ofNat 29), (3, .ofNat 1, .ofNat 0), (0, .ofNat 0, .ofNat 0)), (1, 122, (0, .ofNat 0, .ofNat 28), (0, .ofNat 0, .ofNat 5), (0, .ofNat 0, .ofNat 0)), (2, 0, (4, .ofNat 1, .ofNat 0), (0, .ofNat 0, .ofNat 0), (0, .ofNat 0, .ofNat 0)), (0, 122, (0, .ofNat 0, .ofNat 28), (4, .ofNat 1, .ofNat 0), (0, .ofNat 0, .ofNat 0)), (0, 122, (0, .ofNat 0, .ofNat 31), (3, .ofNat 1, .ofNat 0), (0, .ofNat 0, .ofNat 0)), (2, 0, (2, .ofNat 1, .ofNat 0), (0, .ofNat 0, .ofNat 4), (0, .ofNat 0, .ofNat 0)), (0, 122, (0, .ofNat 0, .ofNat 38), (2, .ofNat 1, .ofNat 0), (0, .ofNat 0, .ofNat 0)), (2, 0, (1, .ofNat 1, .ofNat 0), (0, .ofNat 0, .ofNat 1), (0, .ofNat 0, .ofNat 0)), (0, 122, (0, .ofNat 0, .ofNat 32), (1, .ofNat 1, .ofNat 0), (0, .ofNat 0, .ofNat 0))], [(1, [(.ofNat 1, .ofNat 1)]), (2, [(.ofNat 4, .ofNat 4)]), (3, [(.ofNat 0, .ofNat 80)]), (4, [(.ofNat 0, .ofNat 0)])], [], []),
  (0, [], [], [(2, 4, (3, .ofNat 1, .ofNat 0), (0, .ofNat 0, .ofNat 0), (0, .ofNat 0, .ofNat 0)), (0, 122, (0, .ofNat 0, .ofNat 28), (3, .ofNat 1, .ofNat 0), (0, .ofNat 0, .ofNat 0)), (2, 1, (3, .ofNat 1, .ofNat 0), (0, .ofNat 0, .ofNat 0), (0, .ofNat 0, .ofNat 0)), (0, 122, (0, .ofNat 0, .ofNat 28), (3, .ofNat 1, .ofNat 0), (0, .ofNat 0, .ofNat 0)), (0, 122, (0, .ofNat 0, .ofNat 31), (2, .ofNat 1, .ofNat 0), (0, .ofNat 0, .ofNat 0)), (2, 1, (1, .ofNat 1, .ofNat 0), (0, .ofNat 0, .ofNat 1), (0, .ofNat 0, .ofNat 0)), (0, 122, (0, .ofNat 0, .ofNat 32), (1, .ofNat 1, .ofNat 0), (0, .ofNat 0, .ofNat 0))], [(1, [(.ofNat 0, .ofNat 0), (.ofNat 2, .ofNat 3)]), (2, [(.ofNat 0, .ofNat 80)]), (3, [(.ofNat 1, .ofNat 5)])], [], []),
  (0, [], [], [(2, 4, (0, .ofNat 0, .ofNat 2), (0, .ofNat 0, .ofNat 0), (0, .ofNat 0, .ofNat 0)), (0, 122, (0, .ofNat 0, .ofNat 28), (0, .ofNat 0, .ofNat 2), (0, .ofNat 0, .ofNat 0)), (1, 122, (0, .ofNat 0, .ofNat 29), (2, .ofNat 1, .ofNat 0), (0, .ofNat 0, .ofNat 0)), (1, 122, (0, .ofNat 0, .ofNat 28), (0, .ofNat 0, .ofNat 2), (0, .ofNat 0, .ofNat 0)), (2, 0, (3, .ofNat 1, .ofNat 0), (0, .ofNat 0, .ofNat 0), (0, .ofNat 0, .ofNat 0)), (0, 122, (0, .ofNat 0, .ofNat 28), (3, .ofNat 1, .ofNat 0), (0, .ofNat 0, .ofNat 0)), (0, 122, (0, .ofNat 0, .ofNat 31), (2, .ofNat 1, .ofNat 0), (0, .ofNat 0, .ofNat 0)), (2, 1, (1, .ofNat 1, .ofNat 0), (0, .ofNat 0, .ofNat 1), (0, .ofNat 0, .ofNat 0)), (0, 122, (0, .ofNat 0, .ofNat 32), (1, .ofNat 1, .ofNat 0), (0, .ofNat 0, .ofNat 0))], [(1, [(.ofNat 0, .ofNat 0), (.ofNat 2, .ofNat 3)]), (2, [(.ofNat 0, .ofNat 80)]), (3, [(.ofNat 0, .ofNat 0)])], [], [])]
set_option maxRecDepth 1000000 in
theorem sg_sh_a_g : sg_go [] [56] 3000 211 0 1 1 [(0, [(.ofNat 0, .ofNat 0)])] [] [] [] [(0, .inr (.inl [122]))] [] [(122, some 28), (122, some 29)] sg_sh_a_Z = true := by decide +kernel
set_option maxRecDepth 100000 in
theorem sg_sh_a {Q : Option Value × am_S → Prop} {d : Nat} {S : am_S} {L : am_L} (hd : 1 ≤ d) (hP : ax_P0 none S) (l0 : lc L 0 122)
    (k0 : ∀ (x1 x2 x3 x4 x5 : Int) (L' : am_L) (S' : am_S), ax_P0 none S' → rd S' = rd S → rd S 122 32 = x1 → x1 = 1 → rd S 122 38 = x2 → x2 ≠ 4 → rd S 122 28 = x3 → x3 ≤ 0 → rd S 122 33 = x4 → rd S 122 31 = x5 → (1 ≤ x1 ∧ x1 ≤ 1) → (0 ≤ x2 ∧ x2 ≤ 3) → (0 ≤ x3 ∧ x3 ≤ 0) → (0 ≤ x5 ∧ x5 ≤ 80) → lc L' 0 122 → li L' 1 x4 → li L' 2 x5 → am_V none d 211 56 L' ((.ref 122) :: []) S' Q)
    (k1 : ∀ (x1 x2 x3 : Int) (S' : am_S), ax_P0 none S' → rd S' = rd S → rd S 122 32 = x1 → x1 = 1 → rd S 122 38 = x2 → x2 ≠ 4 → rd S 122 28 = x3 → 0 < x3 → (1 ≤ x1 ∧ x1 ≤ 1) → (0 ≤ x2 ∧ x2 ≤ 3) → (1 ≤ x3 ∧ x3 ≤ 5) → Q (none, S'))
    (k2 : ∀ (x1 x2 x3 x4 : Int) (S' : am_S), ax_P0 none S' → rd S' = rd S → rd S 122 32 = x1 → x1 = 1 → rd S 122 38 = x2 → x2 = 4 → rd S 122 31 = x3 → rd S 122 28 = x4 → x4 ≠ 0 → 0 < x4 → (1 ≤ x1 ∧ x1 ≤ 1) → (4 ≤ x2 ∧ x2 ≤ 4) → (0 ≤ x3 ∧ x3 ≤ 80) → (1 ≤ x4 ∧ x4 ≤ 5) → Q (none, S'))
    (k3 : ∀ (x1 x2 x3 x4 : Int) (S' : am_S), ax_P0 none S' → rd S' = sg_up (sg_up (rd S) 122 28 5) 122 29 x3 → rd S 122 32 = x1 → x1 = 1 → rd S 122 38 = x2 → x2 = 4 → rd S 122 31 = x3 → rd S 122 28 = x4 → x4 = 0 → (1 ≤ x1 ∧ x1 ≤ 1) → (4 ≤ x2 ∧ x2 ≤ 4) → (0 ≤ x3 ∧ x3 ≤ 80) → (0 ≤ x4 ∧ x4 ≤ 0) → Q (none, S'))
    (k4 : ∀ (x1 x2 x3 : Int) (S' : am_S), ax_P0 none S' → rd S' = rd S → rd S 122 32 = x1 → x1 ≠ 1 → rd S 122 31 = x2 → rd S 122 28 = x3 → x3 ≠ 0 → 0 < x3 → (0 ≤ x1 ∧ x1 ≤ 0) ∨ (2 ≤ x1 ∧ x1 ≤ 3) → (0 ≤ x2 ∧ x2 ≤ 80) → (1 ≤ x3 ∧ x3 ≤ 5) → Q (none, S'))
    (k5 : ∀ (x1 x2 x3 : Int) (S' : am_S), ax_P0 none S' → rd S' = sg_up (sg_up (rd S) 122 28 2) 122 29 x2 → rd S 122 32 = x1 → x1 ≠ 1 → rd S 122 31 = x2 → rd S 122 28 = x3 → x3 = 0 → (0 ≤ x1 ∧ x1 ≤ 0) ∨ (2 ≤ x1 ∧ x1 ≤ 3) → (0 ≤ x2 ∧ x2 ≤ 80) → (0 ≤ x3 ∧ x3 ≤ 0) → Q (none, S')) : am_V none d 211 0 L ([]) S Q := by
  refine sg_use sg_sh_a_g hd hP (sg_xs [0]) ⟨⟨Int.le_refl 0, Int.le_refl 0⟩, trivial⟩ trivial trivial trivial ⟨l0, trivial⟩ trivial ?_
  intro z hz x' L' st' S' hx hP' hW hL' hs' hJ hE' hT' hD'
  simp only [sg_sh_a_Z, List.mem_cons, List.not_mem_nil, or_false] at hz
  rcases hz with rfl | rfl | rfl | rfl | rfl | rfl
  · obtain ⟨f0, f1, f2, f3, f4, f5, f6, f7, hσ⟩ := hJ
    obtain ⟨e0, e1, e2, e3, -⟩ := hE'
    obtain ⟨p0, p1, p2, -⟩ := hL'
    obtain ⟨v1, r1, rfl, rfl, hs1⟩ := sg_tc hs'
    obtain rfl := sg_tn hs1
    exact k0 (x' 1) (x' 2) (x' 3) (x' 4) (x' 5) L' S' hP' hσ f0 f1 f2 f3 f4 f5 f6 f7 e0 e1 e2 e3 p0 p1 p2
  · obtain ⟨f0, f1, f2, f3, f4, f5, hσ⟩ := hJ
    obtain ⟨e0, e1, e2, -⟩ := hE'
    intro v hv
    subst hv
    cases v with
    | some _ => exact hs'.elim
    | none =>
      exact k1 (x' 1) (x' 2) (x' 3) S' hP' hσ f0 f1 f2 f3 f4 f5 e0 e1 e2
  · obtain ⟨f0, f1, f2, f3, f4, f5, f6, -, f8, hσ⟩ := hJ
    obtain ⟨e0, e1, e2, e3, -⟩ := hE'
    intro v hv
    subst hv
    cases v with
    | some _ => exact hs'.elim
    | none =>
      exact k2 (x' 1) (x' 2) (x' 3) (x' 4) S' hP' hσ f0 f1 f2 f3 f4 f5 f6 f8 e0 e1 e2 e3
  · obtain ⟨f0, f1, f2, f3, f4, f5, f6, -, -, hσ⟩ := hJ
    obtain ⟨e0, e1, e2, e3, -⟩ := hE'
    intro v hv
    subst hv
    cases v with
    | some _ => exact hs'.elim
    | none =>
      exact k3 (x' 1) (x' 2) (x' 3) (x' 4) S' hP' hσ f0 f1 f2 f3 f4 f5 f6 e0 e1 e2 e3
  · obtain ⟨f0, f1, f2, f3, f4, -, f6, hσ⟩ := hJ
    obtain ⟨e0, e1, e2, -⟩ := hE'
    intro v hv
    subst hv
    cases v with
    | some _ => exact hs'.elim
    | none =>
      exact k4 (x' 1) (x' 2) (x' 3) S' hP' hσ f0 f1 f2 f3 f4 f6 e0 e1 e2
  · obtain ⟨f0, f1, f2, f3, f4, -, -, hσ⟩ := hJ
    obtain ⟨e0, e1, e2, -⟩ := hE'
    intro v hv
    subst hv
    cases v with
    | some _ => exact hs'.elim
    | none =>
      exact k5 (x' 1) (x' 2) (x' 3) S' hP' hσ f0 f1 f2 f3 f4 e0 e1 e2
def sg_sh_b_Z : List sg_z := [(0, [], [], [(2, 4, (3, .ofNat 1, .ofNat 0), (0, .ofNat 0, .ofNat 0), (0, .ofNat 0, .ofNat 0)), (0, 122, (0, .ofNat 0, .ofNat 28), (3, .ofNat 1, .ofNat 0), (0, .ofNat 0, .ofNat 0)), (2, 1, (3, .ofNat 1, .ofNat 0), (0, .ofNat 0, .ofNat 0), (0, .ofNat 0, .ofNat 0)), (0, 122, (0, .ofNat 0, .ofNat 28), (3, .ofNat 1, .ofNat 0), (0, .ofNat 0, .ofNat 0))], [(1, [(.ofNat 0, .ofNat 99)]), (2, [(.ofNat 0, .ofNat 80)]), (3, [(.ofNat 1, .ofNat 5)])], [], []),
  (127, [(0, .inr (.inl [122])), (1, .inl (false, (1, .ofNat 1, .ofNat 0))), (2, .inl (false, (2, .ofNat 1, .ofNat 0))), (3, .inl (false, (5, .ofNat 1, .ofNat 0))), (4, .inl (false, (6, .ofNat 1, .ofNat 0))), (5, .inl (false, (0, .ofNat 0, .ofNat 0)))], [], [(1, 122, (0, .ofNat 0, .ofNat 29), (2, .ofNat 1, .ofNat 0), (0, .ofNat 0, .ofNat 0)), (1, 122, (0, .ofNat 0, .ofNat 28), (0, .ofNat 0, .ofNat 3), (0, .ofNat 0, .ofNat 0)), (2, 0, (0, .ofNat 0, .ofNat 0), (0, .ofNat 0, .ofNat 0), (0, .ofNat 0, .ofNat 0)), (0, 122, (0, .ofNat 0, .ofNat 28), (0, .ofNat 0, .ofNat 0), (0, .ofNat 0, .ofNat 0)), (2, 0, (0, .ofNat 0, .ofNat 0), (0, .ofNat 0, .ofNat 0), (0, .ofNat 0, .ofNat 0)), (2, 2, (1, .ofNat 1, .ofNat 0), (7, .ofNat 1, .ofNat 0), (0, .ofNat 0, .ofNat 0)), (3, 9, (5, .ofNat 1, .ofNat 0), (0, .ofNat 0, .ofNat 1), (7, .ofNat 1, .ofNat 0)), (0, 122, (0, .ofNat 0, .ofNat 31), (6, .ofNat 1, .ofNat 0), (0, .ofNat 0, .ofNat 0)), (0, 122, (0, .ofNat 0, .ofNat 33), (5, .ofNat 1, .ofNat 0), (0, .ofNat 0, .ofNat 0)), (2, 5, (0, .ofNat 0, .ofNat 0), (0, .ofNat 0, .ofNat 0), (0, .ofNat 0, .ofNat 0)), (0, 122, (0, .ofNat 0, .ofNat 28), (0, .ofNat 0, .ofNat 0), (0, .ofNat 0, .ofNat 0)), (2, 0, (4, .ofNat 1, .ofNat 0), (0, .ofNat 0, .ofNat 2), (0, .ofNat 0, .ofNat 0)), (0, 122, (0, .ofNat 0, .ofNat 32), (4, .ofNat 1, .ofNat 0), (0, .ofNat 0, .ofNat 0)), (2, 0, (3, .ofNat 1, .ofNat 0), (0, .ofNat 0, .ofNat 0), (0, .ofNat 0, .ofNat 0)), (0, 122, (0, .ofNat 0, .ofNat 28), (3, .ofNat 1, .ofNat 0), (0, .ofNat 0, .ofNat 0))], [(1, [(.ofNat 0, .ofNat 99)]), (2, [(.ofNat 0, .ofNat 80)]), (3, [(.ofNat 0, .ofNat 0)]), (4, [(.ofNat 2, .ofNat 2)]), (6, [(.ofNat 0, .ofNat 80)]), (7, [(.ofNat 1, .ofNat 2147483647)])], [], []),
  (127, [(0, .inr (.inl [122])), (1, .inl (false, (1, .ofNat 1, .ofNat 0))), (2, .inl (false, (2, .ofNat 1, .ofNat 0))), (3, .inl (false, (5, .ofNat 1, .ofNat 0))), (4, .inl (false, (6, .ofNat 1, .ofNat 0))), (5, .inl (false, (0, .ofNat 0, .ofNat 0)))], [], [(1, 122, (0, .ofNat 0, .ofNat 29), (2, .ofNat 1, .ofNat 0), (0, .ofNat 0, .ofNat 0)), (1, 122, (0, .ofNat 0, .ofNat 28), (0, .ofNat 0, .ofNat 3), (0, .ofNat 0, .ofNat 0)), (2, 0, (0, .ofNat 0, .ofNat 0), (0, .ofNat 0, .ofNat 0), (0, .ofNat 0, .ofNat 0)), (0, 122, (0, .ofNat 0, .ofNat 28), (0, .ofNat 0, .ofNat 0), (0, .ofNat 0, .ofNat 0)), (2, 0, (0, .ofNat 0, .ofNat 0), (0, .ofNat 0, .ofNat 0), (0, .ofNat 0, .ofNat 0)), (2, 4, (1, .ofNat 1, .ofNat 0), (0, .ofNat 0, .ofNat 9), (0, .ofNat 0, .ofNat 0)), (2, 3, (1, .ofNat 1, .ofNat 0), (7, .ofNat 1, .ofNat 0), (0, .ofNat 0, .ofNat 0)), (3, 9, (5, .ofNat 1, .ofNat 0), (0, .ofNat 0, .ofNat 1), (7, .ofNat 1, .ofNat 0)), (0, 122, (0, .ofNat 0, .ofNat 31), (6, .ofNat 1, .ofNat 0), (0, .ofNat 0, .ofNat 0)), (0, 122, (0, .ofNat 0, .ofNat 33), (5, .ofNat 1, .ofNat 0), (0, .ofNat 0, .ofNat 0)), (2, 5, (0, .ofNat 0, .ofNat 0), (0, .ofNat 0, .ofNat 0), (0, .ofNat 0, .ofNat 0)), (0, 122, (0, .ofNat 0, .ofNat 28), (0, .ofNat 0, .ofNat 0), (0, .ofNat 0, .ofNat 0)), (2, 0, (4, .ofNat 1, .ofNat 0), (0, .ofNat 0, .ofNat 2), (0, .ofNat 0, .ofNat 0)), (0, 122, (0, .ofNat 0, .ofNat 32), (4, .ofNat 1, .ofNat 0), (0, .ofNat 0, .ofNat 0)), (2, 0, (3, .ofNat 1, .ofNat 0), (0, .ofNat 0, .ofNat 0), (0, .ofNat 0, .ofNat 0)), (0, 122, (0, .ofNat 0, .ofNat 28), (3, .ofNat 1, .ofNat 0), (0, .ofNat 0, .ofNat 0))], [(1, [(.ofNat 10, .ofNat 99)]), (2, [(.ofNat 0, .ofNat 80)]), (3, [(.ofNat 0, .ofNat 0)]), (4, [(.ofNat 2, .ofNat 2)]), (6, [(.ofNat 0, .ofNat 80)]), (7, [(.negSucc 2147483647, .ofNat 99)])], [], []),
  (127, [(0, .inr (.inl [122])), (1, .inl (false, (1, .ofNat 1, .ofNat 0))), (2, .inl (false, (2, .ofNat 1, .ofNat 0))), (3, .inl (false, (5, .ofNat 1, .ofNat 0))), (4, .inl (false, (6, .ofNat 1, .ofNat 0))), (5, .inl (false, (0, .ofNat 0, .ofNat 0)))], [], [(2, 1, (0, .ofNat 0, .ofNat 1), (0, .ofNat 0, .ofNat 0), (0, .ofNat 0, .ofNat 0)), (2, 5, (1, .ofNat 1, .ofNat 0), (0, .ofNat 0, .ofNat 9), (0, .ofNat 0, .ofNat 0)), (2, 3, (1, .ofNat 1, .ofNat 0), (7, .ofNat 1, .ofNat 0), (0, .ofNat 0, .ofNat 0)), (3, 9, (5, .ofNat 1, .ofNat 0), (0, .ofNat 0, .ofNat 1), (7, .ofNat 1, .ofNat 0)), (0, 122, (0, .ofNat 0, .ofNat 31), (6, .ofNat 1, .ofNat 0), (0, .ofNat 0, .ofNat 0)), (0, 122, (0, .ofNat 0, .ofNat 33), (5, .ofNat 1, .ofNat 0), (0, .ofNat 0, .ofNat 0)), (2, 5, (0, .ofNat 0, .ofNat 0), (0, .ofNat 0, .ofNat 0), (0, .ofNat 0, .ofNat 0)), (0, 122, (0, .ofNat 0, .ofNat 28), (0, .ofNat 0, .ofNat 0), (0, .ofNat 0, .ofNat 0)), (2, 0, (4, .ofNat 1, .ofNat 0), (0, .ofNat 0, .ofNat 2), (0, .ofNat 0, .ofNat 0)), (0, 122, (0, .ofNat 0, .ofNat 32), (4, .ofNat 1, .ofNat 0), (0, .ofNat 0, .ofNat 0)), (2, 0, (3, .ofNat 1, .ofNat 0), (0, .ofNat 0, .ofNat 0), (0, .ofNat 0, .ofNat 0)), (0, 122, (0, .ofNat 0, .ofNat 28), (3, .ofNat 1, .ofNat 0), (0, .ofNat 0, .ofNat 0))], [(1, [(.ofNat 0, .ofNat 9)]), (2, [(.ofNat 0, .ofNat 80)]), (3, [(.ofNat 0, .ofNat 0)]), (4, [(.ofNat 2, .ofNat 2)]), (6, [(.ofNat 0, .ofNat 80)]), (7, [(.negSucc 2147483647, .ofNat 99)])], [], []),
  (0, [], [], [(2, 4, (0, .ofNat 0, .ofNat 2), (0, .ofNat 0, .ofNat 0), (0, .ofNat 0, .ofNat 0)), (0, 122, (0, .ofNat 0, .ofNat 28), (0, .ofNat 0, .ofNat 2), (0, .ofNat 0, .ofNat 0)), (1, 122, (0, .ofNat 0, .ofNat 29), (5, .ofNat 1, .ofNat 0), (0, .ofNat 0, .ofNat 0)), (1, 122, (0, .ofNat 0, .ofNat 28), (0, .ofNat 0, .ofNat 2), (0, .ofNat 0, .ofNat 0)), (2, 0, (0, .ofNat 0, .ofNat 0), (0, .ofNat 0, .ofNat 0), (0, .ofNat 0, .ofNat 0)), (0, 122, (0, .ofNat 0, .ofNat 28), (0, .ofNat 0, .ofNat 0), (0, .ofNat 0, .ofNat 0)), (0, 122, (0, .ofNat 0, .ofNat 31), (5, .ofNat 1, .ofNat 0), (0, .ofNat 0, .ofNat 0)), (2, 1, (4, .ofNat 1, .ofNat 0), (0, .ofNat 0, .ofNat 2), (0, .ofNat 0, .ofNat 0)), (0, 122, (0, .ofNat 0, .ofNat 32), (4, .ofNat 1, .ofNat 0), (0, .ofNat 0, .ofNat 0)), (2, 0, (3, .ofNat 1, .ofNat 0), (0, .ofNat 0, .ofNat 0), (0, .ofNat 0, .ofNat 0)), (0, 122, (0, .ofNat 0, .ofNat 28), (3, .ofNat 1, .ofNat 0), (0, .ofNat 0, .ofNat 0))], [(1, [(.ofNat 0, .ofNat 99)]), (2, [(.ofNat 0, .ofNat 80)]), (3, [(.ofNat 0, .ofNat 0)]), (4, [(.ofNat 0, .ofNat 1), (.ofNat 3, .ofNat 3)]), (5, [(.ofNat 0, .ofNat 80)])], [], [])]
set_option maxRecDepth 1000000 in
theorem sg_sh_b_g : sg_go [] [126] 3000 211 59 1 3 [(0, [(.ofNat 0, .ofNat 0)]), (1, [(.ofNat 0, .ofNat 99)]), (2, [(.ofNat 0, .ofNat 80)])] [] [] [] [(0, .inr (.inl [122])), (1, .inl (false, (1, .ofNat 1, .ofNat 0))), (2, .inl (false, (2, .ofNat 1, .ofNat 0)))] [] [(122, some 28), (122, some 29)] sg_sh_b_Z = true := by decide +kernel
set_option maxRecDepth 100000 in
theorem sg_sh_b {Q : Option Value × am_S → Prop} {d : Nat} {S : am_S} {L : am_L} {x1 x2 : Int} (hd : 1 ≤ d) (hP : ax_P0 none S) (l0 : lc L 0 122) (l1 : li L 1 x1) (l2 : li L 2 x2) (b1 : (0 ≤ x1 ∧ x1 ≤ 99)) (b2 : (0 ≤ x2 ∧ x2 ≤ 80))
    (k0 : ∀ (x3 : Int) (S' : am_S), ax_P0 none S' → rd S' = rd S → rd S 122 28 = x3 → x3 ≠ 0 → 0 < x3 → (0 ≤ x1 ∧ x1 ≤ 99) → (0 ≤ x2 ∧ x2 ≤ 80) → (1 ≤ x3 ∧ x3 ≤ 5) → Q (none, S'))
    (k1 : ∀ (x3 x4 x5 x6 x7 : Int) (L' : am_L) (S' : am_S), ax_P0 none S' → rd S' = sg_up (sg_up (rd S) 122 28 3) 122 29 x2 → rd S 122 28 = x3 → x3 = 0 → rd S 122 32 = x4 → x4 = 2 → rd S 122 28 = 0 → rd S 122 33 = x5 → rd S 122 31 = x6 → (∃ a b : Int32, a.toInt = x5 ∧ b.toInt = 1 ∧ (a + b).toInt = x7) → x1 < x7 → (0 ≤ x1 ∧ x1 ≤ 99) → (0 ≤ x2 ∧ x2 ≤ 80) → (0 ≤ x3 ∧ x3 ≤ 0) → (2 ≤ x4 ∧ x4 ≤ 2) → (0 ≤ x6 ∧ x6 ≤ 80) → (1 ≤ x7 ∧ x7 ≤ 2147483647) → lc L' 0 122 → li L' 1 x1 → li L' 2 x2 → li L' 3 x5 → li L' 4 x6 → li L' 5 0 → am_V none d 211 126 L' ([]) S' Q)
    (k2 : ∀ (x3 x4 x5 x6 x7 : Int) (L' : am_L) (S' : am_S), ax_P0 none S' → rd S' = sg_up (sg_up (rd S) 122 28 3) 122 29 x2 → rd S 122 28 = x3 → x3 = 0 → rd S 122 32 = x4 → x4 = 2 → rd S 122 28 = 0 → rd S 122 33 = x5 → rd S 122 31 = x6 → (∃ a b : Int32, a.toInt = x5 ∧ b.toInt = 1 ∧ (a + b).toInt = x7) → x7 ≤ x1 → 9 < x1 → (10 ≤ x1 ∧ x1 ≤ 99) → (0 ≤ x2 ∧ x2 ≤ 80) → (0 ≤ x3 ∧ x3 ≤ 0) → (2 ≤ x4 ∧ x4 ≤ 2) → (0 ≤ x6 ∧ x6 ≤ 80) → ((-2147483648) ≤ x7 ∧ x7 ≤ 99) → lc L' 0 122 → li L' 1 x1 → li L' 2 x2 → li L' 3 x5 → li L' 4 x6 → li L' 5 0 → am_V none d 211 126 L' ([]) S' Q)
    (k3 : ∀ (x3 x4 x5 x6 x7 : Int) (L' : am_L) (S' : am_S), ax_P0 none S' → rd S' = rd S → rd S 122 28 = x3 → x3 = 0 → rd S 122 32 = x4 → x4 = 2 → rd S 122 28 = 0 → rd S 122 33 = x5 → rd S 122 31 = x6 → (∃ a b : Int32, a.toInt = x5 ∧ b.toInt = 1 ∧ (a + b).toInt = x7) → x7 ≤ x1 → x1 ≤ 9 → (0 ≤ x1 ∧ x1 ≤ 9) → (0 ≤ x2 ∧ x2 ≤ 80) → (0 ≤ x3 ∧ x3 ≤ 0) → (2 ≤ x4 ∧ x4 ≤ 2) → (0 ≤ x6 ∧ x6 ≤ 80) → ((-2147483648) ≤ x7 ∧ x7 ≤ 99) → lc L' 0 122 → li L' 1 x1 → li L' 2 x2 → li L' 3 x5 → li L' 4 x6 → li L' 5 0 → am_V none d 211 126 L' ([]) S' Q)
    (k4 : ∀ (x3 x4 x5 : Int) (S' : am_S), ax_P0 none S' → rd S' = sg_up (sg_up (rd S) 122 28 2) 122 29 x5 → rd S 122 28 = x3 → x3 = 0 → rd S 122 32 = x4 → x4 ≠ 2 → rd S 122 31 = x5 → rd S 122 28 = 0 → (0 ≤ x1 ∧ x1 ≤ 99) → (0 ≤ x2 ∧ x2 ≤ 80) → (0 ≤ x3 ∧ x3 ≤ 0) → (0 ≤ x4 ∧ x4 ≤ 1) ∨ (3 ≤ x4 ∧ x4 ≤ 3) → (0 ≤ x5 ∧ x5 ≤ 80) → Q (none, S')) : am_V none d 211 59 L ([]) S Q := by
  refine sg_use sg_sh_b_g hd hP (sg_xs [0, x1, x2]) ⟨⟨Int.le_refl 0, Int.le_refl 0⟩, b1, b2, trivial⟩ trivial trivial trivial ⟨l0, l1, l2, trivial⟩ trivial ?_
  intro z hz x' L' st' S' hx hP' hW hL' hs' hJ hE' hT' hD'
  have q1 : x' 1 = x1 := hx 1 (by decide)
  subst q1
  have q2 : x' 2 = x2 := hx 2 (by decide)
  subst q2
  simp only [sg_sh_b_Z, List.mem_cons, List.not_mem_nil, or_false] at hz
  rcases hz with rfl | rfl | rfl | rfl | rfl
  · obtain ⟨f0, f1, -, f3, hσ⟩ := hJ
    obtain ⟨e0, e1, e2, -⟩ := hE'
    intro v hv
    subst hv
    cases v with
    | some _ => exact hs'.elim
    | none =>
      exact k0 (x' 3) S' hP' hσ f0 f1 f3 e0 e1 e2
  · obtain ⟨f0, f1, f2, f3, f4, -, f6, f7, f8, f9, -, -, -, hσ⟩ := hJ
    obtain ⟨e0, e1, e2, e3, e4, e5, -⟩ := hE'
    obtain ⟨p0, p1, p2, p3, p4, p5, -⟩ := hL'
    obtain rfl := sg_tn hs'
    exact k1 (x' 3) (x' 4) (x' 5) (x' 6) (x' 7) L' S' hP' hσ f0 f1 f2 f3 f4 f6 f7 f8 f9 e0 e1 e2 e3 e4 e5 p0 p1 p2 p3 p4 p5
  · obtain ⟨f0, f1, f2, f3, f4, -, f6, f7, f8, f9, f10, -, -, -, hσ⟩ := hJ
    obtain ⟨e0, e1, e2, e3, e4, e5, -⟩ := hE'
    obtain ⟨p0, p1, p2, p3, p4, p5, -⟩ := hL'
    obtain rfl := sg_tn hs'
    exact k2 (x' 3) (x' 4) (x' 5) (x' 6) (x' 7) L' S' hP' hσ f0 f1 f2 f3 f4 f6 f7 f8 f9 f10 e0 e1 e2 e3 e4 e5 p0 p1 p2 p3 p4 p5
  · obtain ⟨f0, f1, f2, f3, f4, -, f6, f7, f8, f9, f10, -, hσ⟩ := hJ
    obtain ⟨e0, e1, e2, e3, e4, e5, -⟩ := hE'
    obtain ⟨p0, p1, p2, p3, p4, p5, -⟩ := hL'
    obtain rfl := sg_tn hs'
    exact k3 (x' 3) (x' 4) (x' 5) (x' 6) (x' 7) L' S' hP' hσ f0 f1 f2 f3 f4 f6 f7 f8 f9 f10 e0 e1 e2 e3 e4 e5 p0 p1 p2 p3 p4 p5
  · obtain ⟨f0, f1, f2, f3, f4, f5, -, -, -, hσ⟩ := hJ
    obtain ⟨e0, e1, e2, e3, e4, -⟩ := hE'
    intro v hv
    subst hv
    cases v with
    | some _ => exact hs'.elim
    | none =>
      exact k4 (x' 3) (x' 4) (x' 5) S' hP' hσ f0 f1 f2 f3 f4 f5 e0 e1 e2 e3 e4
def sg_sh_c_Z : List sg_z := [(172, [(0, .inr (.inl [122])), (1, .inl (false, (1, .ofNat 1, .ofNat 0))), (2, .inl (false, (2, .ofNat 1, .ofNat 0))), (3, .inl (false, (3, .ofNat 1, .ofNat 0))), (4, .inl (false, (4, .ofNat 1, .ofNat 0))), (5, .inl (false, (5, .ofNat 1, .ofNat 0)))], [.inr (.inl [122])], [(2, 3, (5, .ofNat 1, .ofNat 0), (6, .ofNat 1, .ofNat 0), (0, .ofNat 0, .ofNat 0)), (0, 122, (0, .ofNat 0, .ofNat 38), (6, .ofNat 1, .ofNat 0), (0, .ofNat 0, .ofNat 0))], [(1, [(.ofNat 0, .ofNat 99)]), (2, [(.ofNat 0, .ofNat 80)]), (3, [(.ofNat 0, .ofNat 99)]), (4, [(.ofNat 0, .ofNat 80)]), (5, [(.ofNat 0, .ofNat 4)]), (6, [(.ofNat 0, .ofNat 4)])], [], []),
  (127, [(0, .inr (.inl [122])), (1, .inl (false, (1, .ofNat 1, .ofNat 0))), (2, .inl (false, (2, .ofNat 1, .ofNat 0))), (3, .inl (false, (3, .ofNat 1, .ofNat 0))), (4, .inl (false, (4, .ofNat 1, .ofNat 0))), (5, .inl (false, (5, .ofNat 1, .ofNat 1)))], [], [(2, 1, (7, .ofNat 1, .ofNat 0), (1, .ofNat 1, .ofNat 0), (0, .ofNat 0, .ofNat 0)), (0, 145, (5, .ofNat 1, .ofNat 0), (7, .ofNat 1, .ofNat 0), (0, .ofNat 0, .ofNat 0)), (2, 2, (5, .ofNat 1, .ofNat 0), (6, .ofNat 1, .ofNat 0), (0, .ofNat 0, .ofNat 0)), (0, 122, (0, .ofNat 0, .ofNat 38), (6, .ofNat 1, .ofNat 0), (0, .ofNat 0, .ofNat 0))], [(1, [(.ofNat 0, .ofNat 99)]), (2, [(.ofNat 0, .ofNat 80)]), (3, [(.ofNat 0, .ofNat 99)]), (4, [(.ofNat 0, .ofNat 80)]), (5, [(.ofNat 0, .ofNat 3)]), (6, [(.ofNat 1, .ofNat 4)])], [], []),
  (127, [(0, .inr (.inl [122])), (1, .inl (false, (1, .ofNat 1, .ofNat 0))), (2, .inl (false, (2, .ofNat 1, .ofNat 0))), (3, .inl (false, (3, .ofNat 1, .ofNat 0))), (4, .inl (false, (4, .ofNat 1, .ofNat 0))), (5, .inl (false, (5, .ofNat 1, .ofNat 1)))], [], [(2, 1, (8, .ofNat 1, .ofNat 0), (3, .ofNat 1, .ofNat 0), (0, .ofNat 0, .ofNat 0)), (0, 146, (5, .ofNat 1, .ofNat 0), (8, .ofNat 1, .ofNat 0), (0, .ofNat 0, .ofNat 0)), (2, 0, (7, .ofNat 1, .ofNat 0), (1, .ofNat 1, .ofNat 0), (0, .ofNat 0, .ofNat 0)), (0, 145, (5, .ofNat 1, .ofNat 0), (7, .ofNat 1, .ofNat 0), (0, .ofNat 0, .ofNat 0)), (2, 2, (5, .ofNat 1, .ofNat 0), (6, .ofNat 1, .ofNat 0), (0, .ofNat 0, .ofNat 0)), (0, 122, (0, .ofNat 0, .ofNat 38), (6, .ofNat 1, .ofNat 0), (0, .ofNat 0, .ofNat 0))], [(1, [(.ofNat 0, .ofNat 99)]), (2, [(.ofNat 0, .ofNat 80)]), (3, [(.ofNat 0, .ofNat 99)]), (4, [(.ofNat 0, .ofNat 80)]), (5, [(.ofNat 0, .ofNat 3)]), (6, [(.ofNat 1, .ofNat 4)]), (7, [(.ofNat 0, .ofNat 99)]), (8, [(.ofNat 0, .ofNat 3)])], [], []),
  (127, [(0, .inr (.inl [122])), (1, .inl (false, (1, .ofNat 1, .ofNat 0))), (2, .inl (false, (2, .ofNat 1, .ofNat 0))), (3, .inl (false, (3, .ofNat 1, .ofNat 0))), (4, .inl (false, (4, .ofNat 1, .ofNat 0))), (5, .inl (false, (5, .ofNat 1, .ofNat 1)))], [], [(2, 1, (9, .ofNat 1, .ofNat 0), (0, .ofNat 0, .ofNat 0), (0, .ofNat 0, .ofNat 0)), (0, 122, (0, .ofNat 0, .ofNat 28), (9, .ofNat 1, .ofNat 0), (0, .ofNat 0, .ofNat 0)), (2, 0, (8, .ofNat 1, .ofNat 0), (3, .ofNat 1, .ofNat 0), (0, .ofNat 0, .ofNat 0)), (0, 146, (5, .ofNat 1, .ofNat 0), (8, .ofNat 1, .ofNat 0), (0, .ofNat 0, .ofNat 0)), (2, 0, (7, .ofNat 1, .ofNat 0), (1, .ofNat 1, .ofNat 0), (0, .ofNat 0, .ofNat 0)), (0, 145, (5, .ofNat 1, .ofNat 0), (7, .ofNat 1, .ofNat 0), (0, .ofNat 0, .ofNat 0)), (2, 2, (5, .ofNat 1, .ofNat 0), (6, .ofNat 1, .ofNat 0), (0, .ofNat 0, .ofNat 0)), (0, 122, (0, .ofNat 0, .ofNat 38), (6, .ofNat 1, .ofNat 0), (0, .ofNat 0, .ofNat 0))], [(1, [(.ofNat 0, .ofNat 99)]), (2, [(.ofNat 0, .ofNat 80)]), (3, [(.ofNat 0, .ofNat 3)]), (4, [(.ofNat 0, .ofNat 80)]), (5, [(.ofNat 0, .ofNat 3)]), (6, [(.ofNat 1, .ofNat 4)]), (7, [(.ofNat 0, .ofNat 99)]), (8, [(.ofNat 0, .ofNat 3)]), (9, [(.ofNat 1, .ofNat 5)])], [], []),
  (127, [(0, .inr (.inl [122])), (1, .inl (false, (1, .ofNat 1, .ofNat 0))), (2, .inl (false, (2, .ofNat 1, .ofNat 0))), (3, .inl (false, (3, .ofNat 1, .ofNat 0))), (4, .inl (false, (4, .ofNat 1, .ofNat 0))), (5, .inl (false, (5, .ofNat 1, .ofNat 1)))], [], [(1, 122, (0, .ofNat 0, .ofNat 29), (4, .ofNat 1, .ofNat 0), (0, .ofNat 0, .ofNat 0)), (1, 122, (0, .ofNat 0, .ofNat 28), (0, .ofNat 0, .ofNat 4), (0, .ofNat 0, .ofNat 0)), (2, 0, (9, .ofNat 1, .ofNat 0), (0, .ofNat 0, .ofNat 0), (0, .ofNat 0, .ofNat 0)), (0, 122, (0, .ofNat 0, .ofNat 28), (9, .ofNat 1, .ofNat 0), (0, .ofNat 0, .ofNat 0)), (2, 0, (8, .ofNat 1, .ofNat 0), (3, .ofNat 1, .ofNat 0), (0, .ofNat 0, .ofNat 0)), (0, 146, (5, .ofNat 1, .ofNat 0), (8, .ofNat 1, .ofNat 0), (0, .ofNat 0, .ofNat 0)), (2, 0, (7, .ofNat 1, .ofNat 0), (1, .ofNat 1, .ofNat 0), (0, .ofNat 0, .ofNat 0)), (0, 145, (5, .ofNat 1, .ofNat 0), (7, .ofNat 1, .ofNat 0), (0, .ofNat 0, .ofNat 0)), (2, 2, (5, .ofNat 1, .ofNat 0), (6, .ofNat 1, .ofNat 0), (0, .ofNat 0, .ofNat 0)), (0, 122, (0, .ofNat 0, .ofNat 38), (6, .ofNat 1, .ofNat 0), (0, .ofNat 0, .ofNat 0))], [(1, [(.ofNat 0, .ofNat 99)]), (2, [(.ofNat 0, .ofNat 80)]), (3, [(.ofNat 0, .ofNat 3)]), (4, [(.ofNat 0, .ofNat 80)]), (5, [(.ofNat 0, .ofNat 3)]), (6, [(.ofNat 1, .ofNat 4)]), (7, [(.ofNat 0, .ofNat 99)]), (8, [(.ofNat 0, .ofNat 3)]), (9, [(.ofNat 0, .ofNat 0)])], [], [])]
set_option maxRecDepth 1000000 in
theorem sg_sh_c_g : sg_go [] [126, 171] 3000 211 126 1 6 [(0, [(.ofNat 0, .ofNat 0)]), (1, [(.ofNat 0, .ofNat 99)]), (2, [(.ofNat 0, .ofNat 80)]), (3, [(.ofNat 0, .ofNat 99)]), (4, [(.ofNat 0, .ofNat 80)]), (5, [(.ofNat 0, .ofNat 4)])] [] [] [] [(0, .inr (.inl [122])), (1, .inl (false, (1, .ofNat 1, .ofNat 0))), (2, .inl (false, (2, .ofNat 1, .ofNat 0))), (3, .inl (false, (3, .ofNat 1, .ofNat 0))), (4, .inl (false, (4, .ofNat 1, .ofNat 0))), (5, .inl (false, (5, .ofNat 1, .ofNat 0)))] [] [(122, some 28), (122, some 29)] sg_sh_c_Z = true := by decide +kernel
set_option maxRecDepth 100000 in
theorem sg_sh_c {Q : Option Value × am_S → Prop} {d : Nat} {S : am_S} {L : am_L} {x1 x2 x3 x4 x5 : Int} (hd : 1 ≤ d) (hP : ax_P0 none S) (l0 : lc L 0 122) (l1 : li L 1 x1) (l2 : li L 2 x2) (l3 : li L 3 x3) (l4 : li L 4 x4) (l5 : li L 5 x5) (b1 : (0 ≤ x1 ∧ x1 ≤ 99)) (b2 : (0 ≤ x2 ∧ x2 ≤ 80)) (b3 : (0 ≤ x3 ∧ x3 ≤ 99)) (b4 : (0 ≤ x4 ∧ x4 ≤ 80)) (b5 : (0 ≤ x5 ∧ x5 ≤ 4))
    (k0 : ∀ (x6 : Int) (L' : am_L) (S' : am_S), ax_P0 none S' → rd S' = rd S → rd S 122 38 = x6 → x6 ≤ x5 → (0 ≤ x1 ∧ x1 ≤ 99) → (0 ≤ x2 ∧ x2 ≤ 80) → (0 ≤ x3 ∧ x3 ≤ 99) → (0 ≤ x4 ∧ x4 ≤ 80) → (0 ≤ x5 ∧ x5 ≤ 4) → (0 ≤ x6 ∧ x6 ≤ 4) → lc L' 0 122 → li L' 1 x1 → li L' 2 x2 → li L' 3 x3 → li L' 4 x4 → li L' 5 x5 → am_V none d 211 171 L' ((.ref 122) :: []) S' Q)
    (k1 : ∀ (x6 x7 : Int) (L' : am_L) (S' : am_S), ax_P0 none S' → rd S' = rd S → rd S 122 38 = x6 → x5 < x6 → rd S 145 x5 = x7 → x7 ≠ x1 → (0 ≤ x1 ∧ x1 ≤ 99) → (0 ≤ x2 ∧ x2 ≤ 80) → (0 ≤ x3 ∧ x3 ≤ 99) → (0 ≤ x4 ∧ x4 ≤ 80) → (0 ≤ x5 ∧ x5 ≤ 3) → (1 ≤ x6 ∧ x6 ≤ 4) → lc L' 0 122 → li L' 1 x1 → li L' 2 x2 → li L' 3 x3 → li L' 4 x4 → li L' 5 (x5 + 1) → am_V none d 211 126 L' ([]) S' Q)
    (k2 : ∀ (x6 x7 x8 : Int) (L' : am_L) (S' : am_S), ax_P0 none S' → rd S' = rd S → rd S 122 38 = x6 → x5 < x6 → rd S 145 x5 = x7 → x7 = x1 → rd S 146 x5 = x8 → x8 ≠ x3 → (0 ≤ x1 ∧ x1 ≤ 99) → (0 ≤ x2 ∧ x2 ≤ 80) → (0 ≤ x3 ∧ x3 ≤ 99) → (0 ≤ x4 ∧ x4 ≤ 80) → (0 ≤ x5 ∧ x5 ≤ 3) → (1 ≤ x6 ∧ x6 ≤ 4) → (0 ≤ x7 ∧ x7 ≤ 99) → (0 ≤ x8 ∧ x8 ≤ 3) → lc L' 0 122 → li L' 1 x1 → li L' 2 x2 → li L' 3 x3 → li L' 4 x4 → li L' 5 (x5 + 1) → am_V none d 211 126 L' ([]) S' Q)
    (k3 : ∀ (x6 x7 x8 x9 : Int) (L' : am_L) (S' : am_S), ax_P0 none S' → rd S' = rd S → rd S 122 38 = x6 → x5 < x6 → rd S 145 x5 = x7 → x7 = x1 → rd S 146 x5 = x8 → x8 = x3 → rd S 122 28 = x9 → x9 ≠ 0 → (0 ≤ x1 ∧ x1 ≤ 99) → (0 ≤ x2 ∧ x2 ≤ 80) → (0 ≤ x3 ∧ x3 ≤ 3) → (0 ≤ x4 ∧ x4 ≤ 80) → (0 ≤ x5 ∧ x5 ≤ 3) → (1 ≤ x6 ∧ x6 ≤ 4) → (0 ≤ x7 ∧ x7 ≤ 99) → (0 ≤ x8 ∧ x8 ≤ 3) → (1 ≤ x9 ∧ x9 ≤ 5) → lc L' 0 122 → li L' 1 x1 → li L' 2 x2 → li L' 3 x3 → li L' 4 x4 → li L' 5 (x5 + 1) → am_V none d 211 126 L' ([]) S' Q)
    (k4 : ∀ (x6 x7 x8 x9 : Int) (L' : am_L) (S' : am_S), ax_P0 none S' → rd S' = sg_up (sg_up (rd S) 122 28 4) 122 29 x4 → rd S 122 38 = x6 → x5 < x6 → rd S 145 x5 = x7 → x7 = x1 → rd S 146 x5 = x8 → x8 = x3 → rd S 122 28 = x9 → x9 = 0 → (0 ≤ x1 ∧ x1 ≤ 99) → (0 ≤ x2 ∧ x2 ≤ 80) → (0 ≤ x3 ∧ x3 ≤ 3) → (0 ≤ x4 ∧ x4 ≤ 80) → (0 ≤ x5 ∧ x5 ≤ 3) → (1 ≤ x6 ∧ x6 ≤ 4) → (0 ≤ x7 ∧ x7 ≤ 99) → (0 ≤ x8 ∧ x8 ≤ 3) → (0 ≤ x9 ∧ x9 ≤ 0) → lc L' 0 122 → li L' 1 x1 → li L' 2 x2 → li L' 3 x3 → li L' 4 x4 → li L' 5 (x5 + 1) → am_V none d 211 126 L' ([]) S' Q) : am_V none d 211 126 L ([]) S Q := by
  refine sg_use sg_sh_c_g hd hP (sg_xs [0, x1, x2, x3, x4, x5]) ⟨⟨Int.le_refl 0, Int.le_refl 0⟩, b1, b2, b3, b4, b5, trivial⟩ trivial trivial trivial ⟨l0, l1, l2, l3, l4, l5, trivial⟩ trivial ?_
  intro z hz x' L' st' S' hx hP' hW hL' hs' hJ hE' hT' hD'
  have q1 : x' 1 = x1 := hx 1 (by decide)
  subst q1
  have q2 : x' 2 = x2 := hx 2 (by decide)
  subst q2
  have q3 : x' 3 = x3 := hx 3 (by decide)
  subst q3
  have q4 : x' 4 = x4 := hx 4 (by decide)
  subst q4
  have q5 : x' 5 = x5 := hx 5 (by decide)
  subst q5
  simp only [sg_sh_c_Z, List.mem_cons, List.not_mem_nil, or_false] at hz
  rcases hz with rfl | rfl | rfl | rfl | rfl
  · obtain ⟨f0, f1, hσ⟩ := hJ
    obtain ⟨e0, e1, e2, e3, e4, e5, -⟩ := hE'
    obtain ⟨p0, p1, p2, p3, p4, p5, -⟩ := hL'
    obtain ⟨v1, r1, rfl, rfl, hs1⟩ := sg_tc hs'
    obtain rfl := sg_tn hs1
    exact k0 (x' 6) L' S' hP' hσ f0 f1 e0 e1 e2 e3 e4 e5 p0 p1 p2 p3 p4 p5
  · obtain ⟨f0, f1, f2, f3, hσ⟩ := hJ
    obtain ⟨e0, e1, e2, e3, e4, e5, -⟩ := hE'
    obtain ⟨p0, p1, p2, p3, p4, p5, -⟩ := hL'
    obtain rfl := sg_tn hs'
    exact k1 (x' 6) (x' 7) L' S' hP' hσ f0 f1 f2 f3 e0 e1 e2 e3 e4 e5 p0 p1 p2 p3 p4 p5
  · obtain ⟨f0, f1, f2, f3, f4, f5, hσ⟩ := hJ
    obtain ⟨e0, e1, e2, e3, e4, e5, e6, e7, -⟩ := hE'
    obtain ⟨p0, p1, p2, p3, p4, p5, -⟩ := hL'
    obtain rfl := sg_tn hs'
    exact k2 (x' 6) (x' 7) (x' 8) L' S' hP' hσ f0 f1 f2 f3 f4 f5 e0 e1 e2 e3 e4 e5 e6 e7 p0 p1 p2 p3 p4 p5
  · obtain ⟨f0, f1, f2, f3, f4, f5, f6, f7, hσ⟩ := hJ
    obtain ⟨e0, e1, e2, e3, e4, e5, e6, e7, e8, -⟩ := hE'
    obtain ⟨p0, p1, p2, p3, p4, p5, -⟩ := hL'
    obtain rfl := sg_tn hs'
    exact k3 (x' 6) (x' 7) (x' 8) (x' 9) L' S' hP' hσ f0 f1 f2 f3 f4 f5 f6 f7 e0 e1 e2 e3 e4 e5 e6 e7 e8 p0 p1 p2 p3 p4 p5
  · obtain ⟨f0, f1, f2, f3, f4, f5, f6, f7, hσ⟩ := hJ
    obtain ⟨e0, e1, e2, e3, e4, e5, e6, e7, e8, -⟩ := hE'
    obtain ⟨p0, p1, p2, p3, p4, p5, -⟩ := hL'
    obtain rfl := sg_tn hs'
    exact k4 (x' 6) (x' 7) (x' 8) (x' 9) L' S' hP' hσ f0 f1 f2 f3 f4 f5 f6 f7 e0 e1 e2 e3 e4 e5 e6 e7 e8 p0 p1 p2 p3 p4 p5
def sg_sh_d_Z : List sg_z := [(0, [], [], [(2, 1, (5, .ofNat 1, .ofNat 0), (0, .ofNat 0, .ofNat 0), (0, .ofNat 0, .ofNat 0)), (0, 122, (0, .ofNat 0, .ofNat 28), (5, .ofNat 1, .ofNat 0), (0, .ofNat 0, .ofNat 0))], [(1, [(.ofNat 0, .ofNat 99)]), (2, [(.ofNat 0, .ofNat 80)]), (3, [(.ofNat 0, .ofNat 99)]), (4, [(.ofNat 0, .ofNat 80)]), (5, [(.ofNat 1, .ofNat 5)])], [], []),
  (187, [(0, .inr (.inl [122])), (1, .inl (false, (1, .ofNat 1, .ofNat 0))), (2, .inl (false, (2, .ofNat 1, .ofNat 0))), (3, .inl (false, (3, .ofNat 1, .ofNat 0))), (4, .inl (false, (4, .ofNat 1, .ofNat 0)))], [.inl (false, (4, .ofNat 1, .ofNat 0)), .inl (false, (3, .ofNat 1, .ofNat 0)), .inl (false, (1, .ofNat 1, .ofNat 0)), .inr (.inl [122])], [(2, 0, (5, .ofNat 1, .ofNat 0), (0, .ofNat 0, .ofNat 0), (0, .ofNat 0, .ofNat 0)), (0, 122, (0, .ofNat 0, .ofNat 28), (5, .ofNat 1, .ofNat 0), (0, .ofNat 0, .ofNat 0))], [(1, [(.ofNat 0, .ofNat 99)]), (2, [(.ofNat 0, .ofNat 80)]), (3, [(.ofNat 0, .ofNat 99)]), (4, [(.ofNat 0, .ofNat 80)]), (5, [(.ofNat 0, .ofNat 0)])], [], [])]
set_option maxRecDepth 1000000 in
theorem sg_sh_d_g : sg_go [] [186] 3000 211 174 0 5 [(0, [(.ofNat 0, .ofNat 0)]), (1, [(.ofNat 0, .ofNat 99)]), (2, [(.ofNat 0, .ofNat 80)]), (3, [(.ofNat 0, .ofNat 99)]), (4, [(.ofNat 0, .ofNat 80)])] [] [] [] [(0, .inr (.inl [122])), (1, .inl (false, (1, .ofNat 1, .ofNat 0))), (2, .inl (false, (2, .ofNat 1, .ofNat 0))), (3, .inl (false, (3, .ofNat 1, .ofNat 0))), (4, .inl (false, (4, .ofNat 1, .ofNat 0)))] [] [] sg_sh_d_Z = true := by decide +kernel
set_option maxRecDepth 100000 in
theorem sg_sh_d {Q : Option Value × am_S → Prop} {d : Nat} {S : am_S} {L : am_L} {x1 x2 x3 x4 : Int} (hd : 0 ≤ d) (hP : ax_P0 none S) (l0 : lc L 0 122) (l1 : li L 1 x1) (l2 : li L 2 x2) (l3 : li L 3 x3) (l4 : li L 4 x4) (b1 : (0 ≤ x1 ∧ x1 ≤ 99)) (b2 : (0 ≤ x2 ∧ x2 ≤ 80)) (b3 : (0 ≤ x3 ∧ x3 ≤ 99)) (b4 : (0 ≤ x4 ∧ x4 ≤ 80))
    (k0 : ∀ (x5 : Int), rd S 122 28 = x5 → x5 ≠ 0 → (0 ≤ x1 ∧ x1 ≤ 99) → (0 ≤ x2 ∧ x2 ≤ 80) → (0 ≤ x3 ∧ x3 ≤ 99) → (0 ≤ x4 ∧ x4 ≤ 80) → (1 ≤ x5 ∧ x5 ≤ 5) → Q (none, S))
    (k1 : ∀ (x5 : Int) (L' : am_L) (i1 : Int32) (i2 : Int32) (i3 : Int32), rd S 122 28 = x5 → x5 = 0 → (0 ≤ x1 ∧ x1 ≤ 99) → (0 ≤ x2 ∧ x2 ≤ 80) → (0 ≤ x3 ∧ x3 ≤ 99) → (0 ≤ x4 ∧ x4 ≤ 80) → (0 ≤ x5 ∧ x5 ≤ 0) → lc L' 0 122 → li L' 1 x1 → li L' 2 x2 → li L' 3 x3 → li L' 4 x4 → i1.toInt = x4 → i2.toInt = x3 → i3.toInt = x1 → am_V none d 211 186 L' ((.int i1) :: (.int i2) :: (.int i3) :: (.ref 122) :: []) S Q) : am_V none d 211 174 L ([]) S Q := by
  refine sg_use sg_sh_d_g hd hP (sg_xs [0, x1, x2, x3, x4]) ⟨⟨Int.le_refl 0, Int.le_refl 0⟩, b1, b2, b3, b4, trivial⟩ trivial trivial trivial ⟨l0, l1, l2, l3, l4, trivial⟩ trivial ?_
  intro z hz x' L' st' S' hx hP' hW hL' hs' hJ hE' hT' hD'
  have q1 : x' 1 = x1 := hx 1 (by decide)
  subst q1
  have q2 : x' 2 = x2 := hx 2 (by decide)
  subst q2
  have q3 : x' 3 = x3 := hx 3 (by decide)
  subst q3
  have q4 : x' 4 = x4 := hx 4 (by decide)
  subst q4
  have eS : S' = S := hW.1 rfl
  subst eS
  simp only [sg_sh_d_Z, List.mem_cons, List.not_mem_nil, or_false] at hz
  rcases hz with rfl | rfl
  · obtain ⟨f0, f1, hσ⟩ := hJ
    obtain ⟨e0, e1, e2, e3, e4, -⟩ := hE'
    intro v hv
    subst hv
    cases v with
    | some _ => exact hs'.elim
    | none =>
      exact k0 (x' 5) f0 f1 e0 e1 e2 e3 e4
  · obtain ⟨f0, f1, hσ⟩ := hJ
    obtain ⟨e0, e1, e2, e3, e4, -⟩ := hE'
    obtain ⟨p0, p1, p2, p3, p4, -⟩ := hL'
    obtain ⟨v1, r1, rfl, ⟨i1, rfl, g1⟩, hs1⟩ := sg_tc hs'
    obtain ⟨v2, r2, rfl, ⟨i2, rfl, g2⟩, hs2⟩ := sg_tc hs1
    obtain ⟨v3, r3, rfl, ⟨i3, rfl, g3⟩, hs3⟩ := sg_tc hs2
    obtain ⟨v4, r4, rfl, rfl, hs4⟩ := sg_tc hs3
    obtain rfl := sg_tn hs4
    exact k1 (x' 5) L' i1 i2 i3 f0 f1 e0 e1 e2 e3 e4 p0 p1 p2 p3 p4 g1 g2 g3
def sg_sh_e_Z : List sg_z := [(0, [], [], [], [], [], [])]
set_option maxRecDepth 1000000 in
theorem sg_sh_e_g : sg_go [] [] 3000 211 189 0 1 [(0, [(.ofNat 0, .ofNat 0)])] [] [] [] [(0, .inr (.inl [122]))] [] [] sg_sh_e_Z = true := by decide +kernel
set_option maxRecDepth 100000 in
theorem sg_sh_e {Q : Option Value × am_S → Prop} {d : Nat} {S : am_S} {L : am_L} (hd : 0 ≤ d) (hP : ax_P0 none S) (l0 : lc L 0 122)
    (k0 : Q (none, S)) : am_V none d 211 189 L ([]) S Q := by
  refine sg_use sg_sh_e_g hd hP (sg_xs [0]) ⟨⟨Int.le_refl 0, Int.le_refl 0⟩, trivial⟩ trivial trivial trivial ⟨l0, trivial⟩ trivial ?_
  intro z hz x' L' st' S' hx hP' hW hL' hs' hJ hE' hT' hD'
  have eS : S' = S := hW.1 rfl
  subst eS
  simp only [sg_sh_e_Z, List.mem_cons, List.not_mem_nil, or_false] at hz
  rcases hz with rfl
  · have hσ := hJ
    intro v hv
    subst hv
    cases v with
    | some _ => exact hs'.elim
    | none =>
      exact k0 
def sg_fq_x_Z : List sg_z := [(0, [], [.inl (false, (1, .ofNat 1, .ofNat 0))], [(0, 45, (0, .ofNat 0, .ofNat 7), (1, .ofNat 1, .ofNat 0), (0, .ofNat 0, .ofNat 0))], [], [], [])]
set_option maxRecDepth 1000000 in
theorem sg_fq_x_g : sg_go [] [] 3000 120 0 0 1 [(0, [(.ofNat 0, .ofNat 0)])] [] [] [] [(0, .inr (.inl [0]))] [] [] sg_fq_x_Z = true := by decide +kernel
set_option maxRecDepth 100000 in
theorem sg_fq_x {Q : Option Value × am_S → Prop} {d : Nat} {S : am_S} {L : am_L} (hd : 0 ≤ d) (hP : ax_P0 none S) (l0 : lc L 0 0)
    (k0 : ∀ (x1 : Int) (i1 : Int32), rd S 45 7 = x1 → i1.toInt = x1 → Q (some (.int i1), S)) : am_V none d 120 0 L ([]) S Q := by
  refine sg_use sg_fq_x_g hd hP (sg_xs [0]) ⟨⟨Int.le_refl 0, Int.le_refl 0⟩, trivial⟩ trivial trivial trivial ⟨l0, trivial⟩ trivial ?_
  intro z hz x' L' st' S' hx hP' hW hL' hs' hJ hE' hT' hD'
  have eS : S' = S := hW.1 rfl
  subst eS
  simp only [sg_fq_x_Z, List.mem_cons, List.not_mem_nil, or_false] at hz
  rcases hz with rfl
  · obtain ⟨f0, hσ⟩ := hJ
    intro v hv
    subst hv
    cases v with
    | none => exact hs'.elim
    | some v1 =>
      obtain ⟨⟨i1, rfl, g1⟩, -⟩ := hs'
      exact k0 (x' 1) i1 f0 g1
def sg_fq_m_Z : List sg_z := [(0, [], [.inl (false, (1, .ofNat 1, .ofNat 0))], [(0, 122, (0, .ofNat 0, .ofNat 27), (1, .ofNat 1, .ofNat 0), (0, .ofNat 0, .ofNat 0))], [], [], [])]
set_option maxRecDepth 1000000 in
theorem sg_fq_m_g : sg_go [] [] 3000 215 0 0 1 [(0, [(.ofNat 0, .ofNat 0)])] [] [] [] [(0, .inr (.inl [122]))] [] [] sg_fq_m_Z = true := by decide +kernel
set_option maxRecDepth 100000 in
theorem sg_fq_m {Q : Option Value × am_S → Prop} {d : Nat} {S : am_S} {L : am_L} (hd : 0 ≤ d) (hP : ax_P0 none S) (l0 : lc L 0 122)
    (k0 : ∀ (x1 : Int) (i1 : Int32), rd S 122 27 = x1 → i1.toInt = x1 → Q (some (.int i1), S)) : am_V none d 215 0 L ([]) S Q := by
  refine sg_use sg_fq_m_g hd hP (sg_xs [0]) ⟨⟨Int.le_refl 0, Int.le_refl 0⟩, trivial⟩ trivial trivial trivial ⟨l0, trivial⟩ trivial ?_
  intro z hz x' L' st' S' hx hP' hW hL' hs' hJ hE' hT' hD'
  have eS : S' = S := hW.1 rfl
  subst eS
  simp only [sg_fq_m_Z, List.mem_cons, List.not_mem_nil, or_false] at hz
  rcases hz with rfl
  · obtain ⟨f0, hσ⟩ := hJ
    intro v hv
    subst hv
    cases v with
    | none => exact hs'.elim
    | some v1 =>
      obtain ⟨⟨i1, rfl, g1⟩, -⟩ := hs'
      exact k0 (x' 1) i1 f0 g1
def sg_be_a_Z : List sg_z := [(100, [(0, .inr (.inl [122])), (1, .inl (false, (1, .ofNat 1, .ofNat 0))), (2, .inl (false, (2, .ofNat 1, .ofNat 0))), (3, .inl (false, (3, .ofNat 1, .ofNat 0))), (4, .inl (false, (0, .ofNat 0, .ofNat 1))), (5, .inl (false, (3, .ofNat 1, .ofNat 0))), (6, .inl (false, (0, .ofNat 0, .ofNat 0)))], [.inr (.inl [122])], [(2, 0, (0, .ofNat 0, .ofNat 0), (0, .ofNat 0, .ofNat 0), (0, .ofNat 0, .ofNat 0)), (2, 1, (4, .ofNat 1, .ofNat 0), (0, .ofNat 0, .ofNat 3), (0, .ofNat 0, .ofNat 0)), (0, 122, (0, .ofNat 0, .ofNat 32), (4, .ofNat 1, .ofNat 0), (0, .ofNat 0, .ofNat 0))], [(1, [(.ofNat 1, .ofNat 9)]), (2, [(.ofNat 0, .ofNat 3)]), (3, [(.ofNat 0, .ofNat 80)]), (4, [(.ofNat 0, .ofNat 2)])], [], []),
  (28, [(0, .inr (.inl [122])), (1, .inl (false, (1, .ofNat 1, .ofNat 0))), (2, .inl (false, (2, .ofNat 1, .ofNat 0))), (3, .inl (false, (3, .ofNat 1, .ofNat 0))), (4, .inl (false, (0, .ofNat 0, .ofNat 1))), (5, .inl (false, (3, .ofNat 1, .ofNat 0))), (6, .inl (false, (0, .ofNat 0, .ofNat 1)))], [.inr (.inl [122])], [(2, 1, (0, .ofNat 0, .ofNat 1), (0, .ofNat 0, .ofNat 0), (0, .ofNat 0, .ofNat 0)), (2, 0, (4, .ofNat 1, .ofNat 0), (0, .ofNat 0, .ofNat 3), (0, .ofNat 0, .ofNat 0)), (0, 122, (0, .ofNat 0, .ofNat 32), (4, .ofNat 1, .ofNat 0), (0, .ofNat 0, .ofNat 0))], [(1, [(.ofNat 1, .ofNat 9)]), (2, [(.ofNat 0, .ofNat 3)]), (3, [(.ofNat 0, .ofNat 80)]), (4, [(.ofNat 3, .ofNat 3)])], [], [])]
set_option maxRecDepth 1000000 in
theorem sg_be_a_g : sg_go [] [27, 99] 3000 212 0 0 4 [(0, [(.ofNat 0, .ofNat 0)]), (1, [(.ofNat 1, .ofNat 9)]), (2, [(.ofNat 0, .ofNat 3)]), (3, [(.ofNat 0, .ofNat 80)])] [] [] [] [(0, .inr (.inl [122])), (1, .inl (false, (1, .ofNat 1, .ofNat 0))), (2, .inl (false, (2, .ofNat 1, .ofNat 0))), (3, .inl (false, (3, .ofNat 1, .ofNat 0)))] [] [] sg_be_a_Z = true := by decide +kernel
set_option maxRecDepth 100000 in
theorem sg_be_a {Q : Option Value × am_S → Prop} {d : Nat} {S : am_S} {L : am_L} {x1 x2 x3 : Int} (hd : 0 ≤ d) (hP : ax_P0 none S) (l0 : lc L 0 122) (l1 : li L 1 x1) (l2 : li L 2 x2) (l3 : li L 3 x3) (b1 : (1 ≤ x1 ∧ x1 ≤ 9)) (b2 : (0 ≤ x2 ∧ x2 ≤ 3)) (b3 : (0 ≤ x3 ∧ x3 ≤ 80))
    (k0 : ∀ (x4 : Int) (L' : am_L), rd S 122 32 = x4 → x4 ≠ 3 → (1 ≤ x1 ∧ x1 ≤ 9) → (0 ≤ x2 ∧ x2 ≤ 3) → (0 ≤ x3 ∧ x3 ≤ 80) → (0 ≤ x4 ∧ x4 ≤ 2) → lc L' 0 122 → li L' 1 x1 → li L' 2 x2 → li L' 3 x3 → li L' 4 1 → li L' 5 x3 → li L' 6 0 → am_V none d 212 99 L' ((.ref 122) :: []) S Q)
    (k1 : ∀ (x4 : Int) (L' : am_L), rd S 122 32 = x4 → x4 = 3 → (1 ≤ x1 ∧ x1 ≤ 9) → (0 ≤ x2 ∧ x2 ≤ 3) → (0 ≤ x3 ∧ x3 ≤ 80) → (3 ≤ x4 ∧ x4 ≤ 3) → lc L' 0 122 → li L' 1 x1 → li L' 2 x2 → li L' 3 x3 → li L' 4 1 → li L' 5 x3 → li L' 6 1 → am_V none d 212 27 L' ((.ref 122) :: []) S Q) : am_V none d 212 0 L ([]) S Q := by
  refine sg_use sg_be_a_g hd hP (sg_xs [0, x1, x2, x3]) ⟨⟨Int.le_refl 0, Int.le_refl 0⟩, b1, b2, b3, trivial⟩ trivial trivial trivial ⟨l0, l1, l2, l3, trivial⟩ trivial ?_
  intro z hz x' L' st' S' hx hP' hW hL' hs' hJ hE' hT' hD'
  have q1 : x' 1 = x1 := hx 1 (by decide)
  subst q1
  have q2 : x' 2 = x2 := hx 2 (by decide)
  subst q2
  have q3 : x' 3 = x3 := hx 3 (by decide)
  subst q3
  have eS : S' = S := hW.1 rfl
  subst eS
  simp only [sg_be_a_Z, List.mem_cons, List.not_mem_nil, or_false] at hz
  rcases hz with rfl | rfl
  · obtain ⟨f0, f1, -, hσ⟩ := hJ
    obtain ⟨e0, e1, e2, e3, -⟩ := hE'
    obtain ⟨p0, p1, p2, p3, p4, p5, p6, -⟩ := hL'
    obtain ⟨v1, r1, rfl, rfl, hs1⟩ := sg_tc hs'
    obtain rfl := sg_tn hs1
    exact k0 (x' 4) L' f0 f1 e0 e1 e2 e3 p0 p1 p2 p3 p4 p5 p6
  · obtain ⟨f0, f1, -, hσ⟩ := hJ
    obtain ⟨e0, e1, e2, e3, -⟩ := hE'
    obtain ⟨p0, p1, p2, p3, p4, p5, p6, -⟩ := hL'
    obtain ⟨v1, r1, rfl, rfl, hs1⟩ := sg_tc hs'
    obtain rfl := sg_tn hs1
    exact k1 (x' 4) L' f0 f1 e0 e1 e2 e3 p0 p1 p2 p3 p4 p5 p6
def sg_be_b_Z : List sg_z := [(100, [(0, .inr (.inl [122])), (1, .inl (false, (1, .ofNat 1, .ofNat 0))), (2, .inl (false, (2, .ofNat 1, .ofNat 0))), (3, .inl (false, (3, .ofNat 1, .ofNat 0))), (4, .inl (false, (8, .ofNat 1, .ofNat 0))), (5, .inl (false, (6, .ofNat 1, .ofNat 0))), (6, .inl (false, (5, .ofNat 1, .ofNat 0)))], [.inr (.inl [122])], [(2, 1, (7, .ofNat 1, .ofNat 0), (0, .ofNat 0, .ofNat 0), (0, .ofNat 0, .ofNat 0)), (0, 122, (0, .ofNat 0, .ofNat 28), (7, .ofNat 1, .ofNat 0), (0, .ofNat 0, .ofNat 0)), (0, 122, (0, .ofNat 0, .ofNat 33), (8, .ofNat 1, .ofNat 0), (0, .ofNat 0, .ofNat 0)), (2, 1, (7, .ofNat 1, .ofNat 0), (0, .ofNat 0, .ofNat 0), (0, .ofNat 0, .ofNat 0)), (0, 122, (0, .ofNat 0, .ofNat 28), (7, .ofNat 1, .ofNat 0), (0, .ofNat 0, .ofNat 0)), (0, 122, (0, .ofNat 0, .ofNat 31), (6, .ofNat 1, .ofNat 0), (0, .ofNat 0, .ofNat 0))], [(1, [(.ofNat 1, .ofNat 9)]), (2, [(.ofNat 0, .ofNat 3)]), (3, [(.ofNat 0, .ofNat 80)]), (4, [(.ofNat 1, .ofNat 1)]), (5, [(.ofNat 0, .ofNat 1)]), (6, [(.ofNat 0, .ofNat 80)]), (7, [(.ofNat 1, .ofNat 5)])], [], []),
  (100, [(0, .inr (.inl [122])), (1, .inl (false, (1, .ofNat 1, .ofNat 0))), (2, .inl (false, (2, .ofNat 1, .ofNat 0))), (3, .inl (false, (3, .ofNat 1, .ofNat 0))), (4, .inl (false, (9, .ofNat 1, .ofNat 0))), (5, .inl (false, (6, .ofNat 1, .ofNat 0))), (6, .inl (false, (5, .ofNat 1, .ofNat 0)))], [.inr (.inl [122])], [(1, 122, (0, .ofNat 0, .ofNat 29), (6, .ofNat 1, .ofNat 0), (0, .ofNat 0, .ofNat 0)), (1, 122, (0, .ofNat 0, .ofNat 28), (0, .ofNat 0, .ofNat 3), (0, .ofNat 0, .ofNat 0)), (2, 0, (0, .ofNat 0, .ofNat 0), (0, .ofNat 0, .ofNat 0), (0, .ofNat 0, .ofNat 0)), (0, 122, (0, .ofNat 0, .ofNat 28), (0, .ofNat 0, .ofNat 0), (0, .ofNat 0, .ofNat 0)), (0, 122, (0, .ofNat 0, .ofNat 31), (6, .ofNat 1, .ofNat 0), (0, .ofNat 0, .ofNat 0)), (2, 0, (0, .ofNat 0, .ofNat 0), (0, .ofNat 0, .ofNat 0), (0, .ofNat 0, .ofNat 0)), (2, 2, (9, .ofNat 1, .ofNat 0), (0, .ofNat 0, .ofNat 1), (0, .ofNat 0, .ofNat 0)), (2, 0, (0, .ofNat 0, .ofNat 0), (0, .ofNat 0, .ofNat 0), (0, .ofNat 0, .ofNat 0)), (0, 122, (0, .ofNat 0, .ofNat 28), (0, .ofNat 0, .ofNat 0), (0, .ofNat 0, .ofNat 0)), (0, 122, (0, .ofNat 0, .ofNat 33), (9, .ofNat 1, .ofNat 0), (0, .ofNat 0, .ofNat 0)), (2, 0, (8, .ofNat 1, .ofNat 0), (0, .ofNat 0, .ofNat 1), (0, .ofNat 0, .ofNat 0)), (0, 122, (0, .ofNat 0, .ofNat 32), (8, .ofNat 1, .ofNat 0), (0, .ofNat 0, .ofNat 0)), (2, 0, (7, .ofNat 1, .ofNat 0), (0, .ofNat 0, .ofNat 0), (0, .ofNat 0, .ofNat 0)), (0, 122, (0, .ofNat 0, .ofNat 28), (7, .ofNat 1, .ofNat 0), (0, .ofNat 0, .ofNat 0)), (0, 122, (0, .ofNat 0, .ofNat 31), (6, .ofNat 1, .ofNat 0), (0, .ofNat 0, .ofNat 0))], [(1, [(.ofNat 1, .ofNat 9)]), (2, [(.ofNat 0, .ofNat 3)]), (3, [(.ofNat 0, .ofNat 80)]), (4, [(.ofNat 1, .ofNat 1)]), (5, [(.ofNat 0, .ofNat 1)]), (6, [(.ofNat 0, .ofNat 80)]), (7, [(.ofNat 0, .ofNat 0)]), (8, [(.ofNat 1, .ofNat 1)]), (9, [(.negSucc 2147483647, .ofNat 0)])], [], []),
  (100, [(0, .inr (.inl [122])), (1, .inl (false, (1, .ofNat 1, .ofNat 0))), (2, .inl (false, (2, .ofNat 1, .ofNat 0))), (3, .inl (false, (3, .ofNat 1, .ofNat 0))), (4, .inl (false, (9, .ofNat 1, .ofNat 0))), (5, .inl (false, (6, .ofNat 1, .ofNat 0))), (6, .inl (false, (5, .ofNat 1, .ofNat 0)))], [.inr (.inl [122])], [(1, 122, (0, .ofNat 0, .ofNat 29), (6, .ofNat 1, .ofNat 0), (0, .ofNat 0, .ofNat 0)), (1, 122, (0, .ofNat 0, .ofNat 28), (0, .ofNat 0, .ofNat 3), (0, .ofNat 0, .ofNat 0)), (2, 0, (0, .ofNat 0, .ofNat 0), (0, .ofNat 0, .ofNat 0), (0, .ofNat 0, .ofNat 0)), (0, 122, (0, .ofNat 0, .ofNat 28), (0, .ofNat 0, .ofNat 0), (0, .ofNat 0, .ofNat 0)), (0, 122, (0, .ofNat 0, .ofNat 31), (6, .ofNat 1, .ofNat 0), (0, .ofNat 0, .ofNat 0)), (2, 0, (0, .ofNat 0, .ofNat 0), (0, .ofNat 0, .ofNat 0), (0, .ofNat 0, .ofNat 0)), (2, 4, (9, .ofNat 1, .ofNat 0), (2, .ofNat 4, .ofNat 2), (0, .ofNat 0, .ofNat 0)), (2, 3, (9, .ofNat 1, .ofNat 0), (0, .ofNat 0, .ofNat 1), (0, .ofNat 0, .ofNat 0)), (2, 0, (0, .ofNat 0, .ofNat 0), (0, .ofNat 0, .ofNat 0), (0, .ofNat 0, .ofNat 0)), (0, 122, (0, .ofNat 0, .ofNat 28), (0, .ofNat 0, .ofNat 0), (0, .ofNat 0, .ofNat 0)), (0, 122, (0, .ofNat 0, .ofNat 33), (9, .ofNat 1, .ofNat 0), (0, .ofNat 0, .ofNat 0)), (2, 0, (8, .ofNat 1, .ofNat 0), (0, .ofNat 0, .ofNat 1), (0, .ofNat 0, .ofNat 0)), (0, 122, (0, .ofNat 0, .ofNat 32), (8, .ofNat 1, .ofNat 0), (0, .ofNat 0, .ofNat 0)), (2, 0, (7, .ofNat 1, .ofNat 0), (0, .ofNat 0, .ofNat 0), (0, .ofNat 0, .ofNat 0)), (0, 122, (0, .ofNat 0, .ofNat 28), (7, .ofNat 1, .ofNat 0), (0, .ofNat 0, .ofNat 0)), (0, 122, (0, .ofNat 0, .ofNat 31), (6, .ofNat 1, .ofNat 0), (0, .ofNat 0, .ofNat 0))], [(1, [(.ofNat 1, .ofNat 9)]), (2, [(.ofNat 0, .ofNat 3)]), (3, [(.ofNat 0, .ofNat 80)]), (4, [(.ofNat 1, .ofNat 1)]), (5, [(.ofNat 0, .ofNat 1)]), (6, [(.ofNat 0, .ofNat 80)]), (7, [(.ofNat 0, .ofNat 0)]), (8, [(.ofNat 1, .ofNat 1)]), (9, [(.ofNat 3, .ofNat 2147483647)])], [], []),
  (100, [(0, .inr (.inl [122])), (1, .inl (false, (1, .ofNat 1, .ofNat 0))), (2, .inl (false, (2, .ofNat 1, .ofNat 0))), (3, .inl (false, (3, .ofNat 1, .ofNat 0))), (4, .inl (false, (9, .ofNat 1, .ofNat 0))), (5, .inl (false, (6, .ofNat 1, .ofNat 0))), (6, .inl (false, (5, .ofNat 1, .ofNat 0)))], [.inr (.inl [122])], [(2, 1, (0, .ofNat 0, .ofNat 1), (0, .ofNat 0, .ofNat 0), (0, .ofNat 0, .ofNat 0)), (2, 5, (9, .ofNat 1, .ofNat 0), (2, .ofNat 4, .ofNat 2), (0, .ofNat 0, .ofNat 0)), (2, 3, (9, .ofNat 1, .ofNat 0), (0, .ofNat 0, .ofNat 1), (0, .ofNat 0, .ofNat 0)), (2, 0, (0, .ofNat 0, .ofNat 0), (0, .ofNat 0, .ofNat 0), (0, .ofNat 0, .ofNat 0)), (0, 122, (0, .ofNat 0, .ofNat 28), (0, .ofNat 0, .ofNat 0), (0, .ofNat 0, .ofNat 0)), (0, 122, (0, .ofNat 0, .ofNat 33), (9, .ofNat 1, .ofNat 0), (0, .ofNat 0, .ofNat 0)), (2, 0, (8, .ofNat 1, .ofNat 0), (0, .ofNat 0, .ofNat 1), (0, .ofNat 0, .ofNat 0)), (0, 122, (0, .ofNat 0, .ofNat 32), (8, .ofNat 1, .ofNat 0), (0, .ofNat 0, .ofNat 0)), (2, 0, (7, .ofNat 1, .ofNat 0), (0, .ofNat 0, .ofNat 0), (0, .ofNat 0, .ofNat 0)), (0, 122, (0, .ofNat 0, .ofNat 28), (7, .ofNat 1, .ofNat 0), (0, .ofNat 0, .ofNat 0)), (0, 122, (0, .ofNat 0, .ofNat 31), (6, .ofNat 1, .ofNat 0), (0, .ofNat 0, .ofNat 0))], [(1, [(.ofNat 1, .ofNat 9)]), (2, [(.ofNat 0, .ofNat 3)]), (3, [(.ofNat 0, .ofNat 80)]), (4, [(.ofNat 1, .ofNat 1)]), (5, [(.ofNat 0, .ofNat 1)]), (6, [(.ofNat 0, .ofNat 80)]), (7, [(.ofNat 0, .ofNat 0)]), (8, [(.ofNat 1, .ofNat 1)]), (9, [(.ofNat 1, .ofNat 14)])], [], []),
  (100, [(0, .inr (.inl [122])), (1, .inl (false, (1, .ofNat 1, .ofNat 0))), (2, .inl (false, (2, .ofNat 1, .ofNat 0))), (3, .inl (false, (3, .ofNat 1, .ofNat 0))), (4, .inl (false, (9, .ofNat 1, .ofNat 0))), (5, .inl (false, (6, .ofNat 1, .ofNat 0))), (6, .inl (false, (5, .ofNat 1, .ofNat 0)))], [.inr (.inl [122])], [(2, 1, (0, .ofNat 0, .ofNat 2), (0, .ofNat 0, .ofNat 0), (0, .ofNat 0, .ofNat 0)), (0, 122, (0, .ofNat 0, .ofNat 28), (0, .ofNat 0, .ofNat 2), (0, .ofNat 0, .ofNat 0)), (0, 122, (0, .ofNat 0, .ofNat 33), (9, .ofNat 1, .ofNat 0), (0, .ofNat 0, .ofNat 0)), (1, 122, (0, .ofNat 0, .ofNat 29), (6, .ofNat 1, .ofNat 0), (0, .ofNat 0, .ofNat 0)), (1, 122, (0, .ofNat 0, .ofNat 28), (0, .ofNat 0, .ofNat 2), (0, .ofNat 0, .ofNat 0)), (2, 0, (0, .ofNat 0, .ofNat 0), (0, .ofNat 0, .ofNat 0), (0, .ofNat 0, .ofNat 0)), (0, 122, (0, .ofNat 0, .ofNat 28), (0, .ofNat 0, .ofNat 0), (0, .ofNat 0, .ofNat 0)), (0, 122, (0, .ofNat 0, .ofNat 31), (6, .ofNat 1, .ofNat 0), (0, .ofNat 0, .ofNat 0)), (2, 1, (8, .ofNat 1, .ofNat 0), (0, .ofNat 0, .ofNat 1), (0, .ofNat 0, .ofNat 0)), (0, 122, (0, .ofNat 0, .ofNat 32), (8, .ofNat 1, .ofNat 0), (0, .ofNat 0, .ofNat 0)), (2, 0, (7, .ofNat 1, .ofNat 0), (0, .ofNat 0, .ofNat 0), (0, .ofNat 0, .ofNat 0)), (0, 122, (0, .ofNat 0, .ofNat 28), (7, .ofNat 1, .ofNat 0), (0, .ofNat 0, .ofNat 0)), (0, 122, (0, .ofNat 0, .ofNat 31), (6, .ofNat 1, .ofNat 0), (0, .ofNat 0, .ofNat 0))], [(1, [(.ofNat 1, .ofNat 9)]), (2, [(.ofNat 0, .ofNat 3)]), (3, [(.ofNat 0, .ofNat 80)]), (4, [(.ofNat 1, .ofNat 1)]), (5, [(.ofNat 0, .ofNat 1)]), (6, [(.ofNat 0, .ofNat 80)]), (7, [(.ofNat 0, .ofNat 0)]), (8, [(.ofNat 0, .ofNat 0), (.ofNat 2, .ofNat 3)])], [], [])]
set_option maxRecDepth 1000000 in
theorem sg_be_b_g : sg_go [] [99] 3000 212 30 1 6 [(0, [(.ofNat 0, .ofNat 0)]), (1, [(.ofNat 1, .ofNat 9)]), (2, [(.ofNat 0, .ofNat 3)]), (3, [(.ofNat 0, .ofNat 80)]), (4, [(.ofNat 1, .ofNat 1)]), (5, [(.ofNat 0, .ofNat 1)])] [] [] [] [(0, .inr (.inl [122])), (1, .inl (false, (1, .ofNat 1, .ofNat 0))), (2, .inl (false, (2, .ofNat 1, .ofNat 0))), (3, .inl (false, (3, .ofNat 1, .ofNat 0))), (4, .inl (false, (4, .ofNat 1, .ofNat 0))), (6, .inl (false, (5, .ofNat 1, .ofNat 0)))] [] [(122, some 28), (122, some 29)] sg_be_b_Z = true := by decide +kernel
set_option maxRecDepth 100000 in
theorem sg_be_b {Q : Option Value × am_S → Prop} {d : Nat} {S : am_S} {L : am_L} {x1 x2 x3 x4 x5 : Int} (hd : 1 ≤ d) (hP : ax_P0 none S) (l0 : lc L 0 122) (l1 : li L 1 x1) (l2 : li L 2 x2) (l3 : li L 3 x3) (l4 : li L 4 x4) (l6 : li L 6 x5) (b1 : (1 ≤ x1 ∧ x1 ≤ 9)) (b2 : (0 ≤ x2 ∧ x2 ≤ 3)) (b3 : (0 ≤ x3 ∧ x3 ≤ 80)) (b4 : (1 ≤ x4 ∧ x4 ≤ 1)) (b5 : (0 ≤ x5 ∧ x5 ≤ 1))
    (k0 : ∀ (x6 x7 x8 : Int) (L' : am_L) (S' : am_S), ax_P0 none S' → rd S' = rd S → rd S 122 31 = x6 → rd S 122 28 = x7 → x7 ≠ 0 → rd S 122 33 = x8 → x7 ≠ 0 → (1 ≤ x1 ∧ x1 ≤ 9) → (0 ≤ x2 ∧ x2 ≤ 3) → (0 ≤ x3 ∧ x3 ≤ 80) → (1 ≤ x4 ∧ x4 ≤ 1) → (0 ≤ x5 ∧ x5 ≤ 1) → (0 ≤ x6 ∧ x6 ≤ 80) → (1 ≤ x7 ∧ x7 ≤ 5) → lc L' 0 122 → li L' 1 x1 → li L' 2 x2 → li L' 3 x3 → li L' 4 x8 → li L' 5 x6 → li L' 6 x5 → am_V none d 212 99 L' ((.ref 122) :: []) S' Q)
    (k1 : ∀ (x6 x7 x8 x9 : Int) (L' : am_L) (S' : am_S), ax_P0 none S' → rd S' = sg_up (sg_up (rd S) 122 28 3) 122 29 x6 → rd S 122 31 = x6 → rd S 122 28 = x7 → x7 = 0 → rd S 122 32 = x8 → x8 = 1 → rd S 122 33 = x9 → rd S 122 28 = 0 → x9 < 1 → (1 ≤ x1 ∧ x1 ≤ 9) → (0 ≤ x2 ∧ x2 ≤ 3) → (0 ≤ x3 ∧ x3 ≤ 80) → (1 ≤ x4 ∧ x4 ≤ 1) → (0 ≤ x5 ∧ x5 ≤ 1) → (0 ≤ x6 ∧ x6 ≤ 80) → (0 ≤ x7 ∧ x7 ≤ 0) → (1 ≤ x8 ∧ x8 ≤ 1) → ((-2147483648) ≤ x9 ∧ x9 ≤ 0) → lc L' 0 122 → li L' 1 x1 → li L' 2 x2 → li L' 3 x3 → li L' 4 x9 → li L' 5 x6 → li L' 6 x5 → am_V none d 212 99 L' ((.ref 122) :: []) S' Q)
    (k2 : ∀ (x6 x7 x8 x9 : Int) (L' : am_L) (S' : am_S), ax_P0 none S' → rd S' = sg_up (sg_up (rd S) 122 28 3) 122 29 x6 → rd S 122 31 = x6 → rd S 122 28 = x7 → x7 = 0 → rd S 122 32 = x8 → x8 = 1 → rd S 122 33 = x9 → rd S 122 28 = 0 → 1 ≤ x9 → 4 * x2 + 2 < x9 → (1 ≤ x1 ∧ x1 ≤ 9) → (0 ≤ x2 ∧ x2 ≤ 3) → (0 ≤ x3 ∧ x3 ≤ 80) → (1 ≤ x4 ∧ x4 ≤ 1) → (0 ≤ x5 ∧ x5 ≤ 1) → (0 ≤ x6 ∧ x6 ≤ 80) → (0 ≤ x7 ∧ x7 ≤ 0) → (1 ≤ x8 ∧ x8 ≤ 1) → (3 ≤ x9 ∧ x9 ≤ 2147483647) → lc L' 0 122 → li L' 1 x1 → li L' 2 x2 → li L' 3 x3 → li L' 4 x9 → li L' 5 x6 → li L' 6 x5 → am_V none d 212 99 L' ((.ref 122) :: []) S' Q)
    (k3 : ∀ (x6 x7 x8 x9 : Int) (L' : am_L) (S' : am_S), ax_P0 none S' → rd S' = rd S → rd S 122 31 = x6 → rd S 122 28 = x7 → x7 = 0 → rd S 122 32 = x8 → x8 = 1 → rd S 122 33 = x9 → rd S 122 28 = 0 → 1 ≤ x9 → x9 ≤ 4 * x2 + 2 → (1 ≤ x1 ∧ x1 ≤ 9) → (0 ≤ x2 ∧ x2 ≤ 3) → (0 ≤ x3 ∧ x3 ≤ 80) → (1 ≤ x4 ∧ x4 ≤ 1) → (0 ≤ x5 ∧ x5 ≤ 1) → (0 ≤ x6 ∧ x6 ≤ 80) → (0 ≤ x7 ∧ x7 ≤ 0) → (1 ≤ x8 ∧ x8 ≤ 1) → (1 ≤ x9 ∧ x9 ≤ 14) → lc L' 0 122 → li L' 1 x1 → li L' 2 x2 → li L' 3 x3 → li L' 4 x9 → li L' 5 x6 → li L' 6 x5 → am_V none d 212 99 L' ((.ref 122) :: []) S' Q)
    (k4 : ∀ (x6 x7 x8 x9 : Int) (L' : am_L) (S' : am_S), ax_P0 none S' → rd S' = sg_up (sg_up (rd S) 122 28 2) 122 29 x6 → rd S 122 31 = x6 → rd S 122 28 = x7 → x7 = 0 → rd S 122 32 = x8 → x8 ≠ 1 → rd S 122 28 = 0 → (sg_up (sg_up (rd S) 122 28 2) 122 29 x6) 122 33 = x9 → (1 ≤ x1 ∧ x1 ≤ 9) → (0 ≤ x2 ∧ x2 ≤ 3) → (0 ≤ x3 ∧ x3 ≤ 80) → (1 ≤ x4 ∧ x4 ≤ 1) → (0 ≤ x5 ∧ x5 ≤ 1) → (0 ≤ x6 ∧ x6 ≤ 80) → (0 ≤ x7 ∧ x7 ≤ 0) → (0 ≤ x8 ∧ x8 ≤ 0) ∨ (2 ≤ x8 ∧ x8 ≤ 3) → lc L' 0 122 → li L' 1 x1 → li L' 2 x2 → li L' 3 x3 → li L' 4 x9 → li L' 5 x6 → li L' 6 x5 → am_V none d 212 99 L' ((.ref 122) :: []) S' Q) : am_V none d 212 30 L ([]) S Q := by
  refine sg_use sg_be_b_g hd hP (sg_xs [0, x1, x2, x3, x4, x5]) ⟨⟨Int.le_refl 0, Int.le_refl 0⟩, b1, b2, b3, b4, b5, trivial⟩ trivial trivial trivial ⟨l0, l1, l2, l3, l4, l6, trivial⟩ trivial ?_
  intro z hz x' L' st' S' hx hP' hW hL' hs' hJ hE' hT' hD'
  have q1 : x' 1 = x1 := hx 1 (by decide)
  subst q1
  have q2 : x' 2 = x2 := hx 2 (by decide)
  subst q2
  have q3 : x' 3 = x3 := hx 3 (by decide)
  subst q3
  have q4 : x' 4 = x4 := hx 4 (by decide)
  subst q4
  have q5 : x' 5 = x5 := hx 5 (by decide)
  subst q5
  simp only [sg_be_b_Z, List.mem_cons, List.not_mem_nil, or_false] at hz
  rcases hz with rfl | rfl | rfl | rfl | rfl
  · obtain ⟨f0, f1, f2, f3, -, f5, hσ⟩ := hJ
    obtain ⟨e0, e1, e2, e3, e4, e5, e6, -⟩ := hE'
    obtain ⟨p0, p1, p2, p3, p4, p5, p6, -⟩ := hL'
    obtain ⟨v1, r1, rfl, rfl, hs1⟩ := sg_tc hs'
    obtain rfl := sg_tn hs1
    exact k0 (x' 6) (x' 7) (x' 8) L' S' hP' hσ f0 f1 f2 f3 f5 e0 e1 e2 e3 e4 e5 e6 p0 p1 p2 p3 p4 p5 p6
  · obtain ⟨f0, f1, f2, f3, f4, f5, f6, -, f8, -, -, -, -, hσ⟩ := hJ
    obtain ⟨e0, e1, e2, e3, e4, e5, e6, e7, e8, -⟩ := hE'
    obtain ⟨p0, p1, p2, p3, p4, p5, p6, -⟩ := hL'
    obtain ⟨v1, r1, rfl, rfl, hs1⟩ := sg_tc hs'
    obtain rfl := sg_tn hs1
    exact k1 (x' 6) (x' 7) (x' 8) (x' 9) L' S' hP' hσ f0 f1 f2 f3 f4 f5 f6 f8 e0 e1 e2 e3 e4 e5 e6 e7 e8 p0 p1 p2 p3 p4 p5 p6
  · obtain ⟨f0, f1, f2, f3, f4, f5, f6, -, f8, f9, -, -, -, -, hσ⟩ := hJ
    obtain ⟨e0, e1, e2, e3, e4, e5, e6, e7, e8, -⟩ := hE'
    obtain ⟨p0, p1, p2, p3, p4, p5, p6, -⟩ := hL'
    obtain ⟨v1, r1, rfl, rfl, hs1⟩ := sg_tc hs'
    obtain rfl := sg_tn hs1
    exact k2 (x' 6) (x' 7) (x' 8) (x' 9) L' S' hP' hσ f0 f1 f2 f3 f4 f5 f6 f8 f9 e0 e1 e2 e3 e4 e5 e6 e7 e8 p0 p1 p2 p3 p4 p5 p6
  · obtain ⟨f0, f1, f2, f3, f4, f5, f6, -, f8, f9, -, hσ⟩ := hJ
    obtain ⟨e0, e1, e2, e3, e4, e5, e6, e7, e8, -⟩ := hE'
    obtain ⟨p0, p1, p2, p3, p4, p5, p6, -⟩ := hL'
    obtain ⟨v1, r1, rfl, rfl, hs1⟩ := sg_tc hs'
    obtain rfl := sg_tn hs1
    exact k3 (x' 6) (x' 7) (x' 8) (x' 9) L' S' hP' hσ f0 f1 f2 f3 f4 f5 f6 f8 f9 e0 e1 e2 e3 e4 e5 e6 e7 e8 p0 p1 p2 p3 p4 p5 p6
  · obtain ⟨f0, f1, f2, f3, f4, -, f6, -, f8, -, -, hσ⟩ := hJ
    obtain ⟨e0, e1, e2, e3, e4, e5, e6, e7, -⟩ := hE'
    obtain ⟨p0, p1, p2, p3, p4, p5, p6, -⟩ := hL'
    obtain ⟨v1, r1, rfl, rfl, hs1⟩ := sg_tc hs'
    obtain rfl := sg_tn hs1
    exact k4 (x' 6) (x' 7) (x' 8) (x' 9) L' S' hP' hσ f0 f1 f2 f3 f4 f6 f8 e0 e1 e2 e3 e4 e5 e6 e7 p0 p1 p2 p3 p4 p5 p6
def sg_be_c_Z : List sg_z := [(0, [], [], [(2, 1, (9, .ofNat 1, .ofNat 0), (0, .ofNat 0, .ofNat 0), (0, .ofNat 0, .ofNat 0)), (0, 122, (0, .ofNat 0, .ofNat 28), (9, .ofNat 1, .ofNat 0), (0, .ofNat 0, .ofNat 0)), (2, 5, (8, .ofNat 1, .ofNat 0), (0, .ofNat 0, .ofNat 12), (0, .ofNat 0, .ofNat 0))], [(1, [(.ofNat 1, .ofNat 9)]), (2, [(.ofNat 0, .ofNat 3)]), (3, [(.ofNat 0, .ofNat 99)]), (4, [(.ofNat 0, .ofNat 80)]), (5, [(.ofNat 0, .ofNat 1)]), (6, [(.ofNat 0, .ofNat 12)]), (7, [(.ofNat 0, .ofNat 3)]), (8, [(.ofNat 0, .ofNat 12)]), (9, [(.ofNat 1, .ofNat 5)])], [((6, .ofNat 1, .ofNat 0), (3, .ofNat 1, .ofNat 0), (8, .ofNat 1, .ofNat 0))], []),
  (0, [], [], [(2, 0, (5, .ofNat 1, .ofNat 0), (0, .ofNat 0, .ofNat 0), (0, .ofNat 0, .ofNat 0)), (1, 122, (0, .ofNat 0, .ofNat 38), (7, .ofNat 1, .ofNat 1), (0, .ofNat 0, .ofNat 0)), (0, 122, (0, .ofNat 0, .ofNat 38), (7, .ofNat 1, .ofNat 0), (0, .ofNat 0, .ofNat 0)), (1, 147, (7, .ofNat 1, .ofNat 0), (3, .ofNat 1, .ofNat 0), (0, .ofNat 0, .ofNat 0)), (0, 122, (0, .ofNat 0, .ofNat 38), (7, .ofNat 1, .ofNat 0), (0, .ofNat 0, .ofNat 0)), (1, 146, (7, .ofNat 1, .ofNat 0), (2, .ofNat 1, .ofNat 0), (0, .ofNat 0, .ofNat 0)), (0, 122, (0, .ofNat 0, .ofNat 38), (7, .ofNat 1, .ofNat 0), (0, .ofNat 0, .ofNat 0)), (1, 145, (7, .ofNat 1, .ofNat 0), (1, .ofNat 1, .ofNat 0), (0, .ofNat 0, .ofNat 0)), (0, 122, (0, .ofNat 0, .ofNat 38), (7, .ofNat 1, .ofNat 0), (0, .ofNat 0, .ofNat 0)), (2, 0, (9, .ofNat 1, .ofNat 0), (0, .ofNat 0, .ofNat 0), (0, .ofNat 0, .ofNat 0)), (0, 122, (0, .ofNat 0, .ofNat 28), (9, .ofNat 1, .ofNat 0), (0, .ofNat 0, .ofNat 0)), (2, 5, (8, .ofNat 1, .ofNat 0), (0, .ofNat 0, .ofNat 12), (0, .ofNat 0, .ofNat 0))], [(1, [(.ofNat 1, .ofNat 9)]), (2, [(.ofNat 0, .ofNat 3)]), (3, [(.ofNat 0, .ofNat 12)]), (4, [(.ofNat 0, .ofNat 80)]), (5, [(.ofNat 0, .ofNat 0)]), (6, [(.ofNat 0, .ofNat 12)]), (7, [(.ofNat 0, .ofNat 3)]), (8, [(.ofNat 0, .ofNat 12)]), (9, [(.ofNat 0, .ofNat 0)])], [((6, .ofNat 1, .ofNat 0), (3, .ofNat 1, .ofNat 0), (8, .ofNat 1, .ofNat 0))], []),
  (172, [(0, .inr (.inl [122])), (1, .inl (false, (1, .ofNat 1, .ofNat 0))), (2, .inl (false, (2, .ofNat 1, .ofNat 0))), (4, .inl (false, (3, .ofNat 1, .ofNat 0))), (5, .inl (false, (4, .ofNat 1, .ofNat 0))), (6, .inl (false, (0, .ofNat 0, .ofNat 1)))], [.inr (.inl [122])], [(2, 1, (5, .ofNat 1, .ofNat 0), (0, .ofNat 0, .ofNat 0), (0, .ofNat 0, .ofNat 0)), (1, 122, (0, .ofNat 0, .ofNat 38), (7, .ofNat 1, .ofNat 1), (0, .ofNat 0, .ofNat 0)), (0, 122, (0, .ofNat 0, .ofNat 38), (7, .ofNat 1, .ofNat 0), (0, .ofNat 0, .ofNat 0)), (1, 147, (7, .ofNat 1, .ofNat 0), (3, .ofNat 1, .ofNat 0), (0, .ofNat 0, .ofNat 0)), (0, 122, (0, .ofNat 0, .ofNat 38), (7, .ofNat 1, .ofNat 0), (0, .ofNat 0, .ofNat 0)), (1, 146, (7, .ofNat 1, .ofNat 0), (2, .ofNat 1, .ofNat 0), (0, .ofNat 0, .ofNat 0)), (0, 122, (0, .ofNat 0, .ofNat 38), (7, .ofNat 1, .ofNat 0), (0, .ofNat 0, .ofNat 0)), (1, 145, (7, .ofNat 1, .ofNat 0), (1, .ofNat 1, .ofNat 0), (0, .ofNat 0, .ofNat 0)), (0, 122, (0, .ofNat 0, .ofNat 38), (7, .ofNat 1, .ofNat 0), (0, .ofNat 0, .ofNat 0)), (2, 0, (9, .ofNat 1, .ofNat 0), (0, .ofNat 0, .ofNat 0), (0, .ofNat 0, .ofNat 0)), (0, 122, (0, .ofNat 0, .ofNat 28), (9, .ofNat 1, .ofNat 0), (0, .ofNat 0, .ofNat 0)), (2, 5, (8, .ofNat 1, .ofNat 0), (0, .ofNat 0, .ofNat 12), (0, .ofNat 0, .ofNat 0))], [(1, [(.ofNat 1, .ofNat 9)]), (2, [(.ofNat 0, .ofNat 3)]), (3, [(.ofNat 0, .ofNat 12)]), (4, [(.ofNat 0, .ofNat 80)]), (5, [(.ofNat 1, .ofNat 1)]), (6, [(.ofNat 0, .ofNat 12)]), (7, [(.ofNat 0, .ofNat 3)]), (8, [(.ofNat 0, .ofNat 12)]), (9, [(.ofNat 0, .ofNat 0)])], [((6, .ofNat 1, .ofNat 0), (3, .ofNat 1, .ofNat 0), (8, .ofNat 1, .ofNat 0))], []),
  (0, [], [], [(2, 1, (9, .ofNat 1, .ofNat 0), (0, .ofNat 0, .ofNat 0), (0, .ofNat 0, .ofNat 0)), (0, 122, (0, .ofNat 0, .ofNat 28), (9, .ofNat 1, .ofNat 0), (0, .ofNat 0, .ofNat 0)), (2, 1, (9, .ofNat 1, .ofNat 0), (0, .ofNat 0, .ofNat 0), (0, .ofNat 0, .ofNat 0)), (0, 122, (0, .ofNat 0, .ofNat 28), (9, .ofNat 1, .ofNat 0), (0, .ofNat 0, .ofNat 0)), (2, 4, (8, .ofNat 1, .ofNat 0), (0, .ofNat 0, .ofNat 12), (0, .ofNat 0, .ofNat 0))], [(1, [(.ofNat 1, .ofNat 9)]), (2, [(.ofNat 0, .ofNat 3)]), (3, [(.ofNat 0, .ofNat 99)]), (4, [(.ofNat 0, .ofNat 80)]), (5, [(.ofNat 0, .ofNat 1)]), (6, [(.ofNat 0, .ofNat 12)]), (7, [(.ofNat 0, .ofNat 3)]), (8, [(.ofNat 13, .ofNat 111)]), (9, [(.ofNat 1, .ofNat 5)])], [((6, .ofNat 1, .ofNat 0), (3, .ofNat 1, .ofNat 0), (8, .ofNat 1, .ofNat 0))], []),
  (0, [], [], [(2, 1, (0, .ofNat 0, .ofNat 5), (0, .ofNat 0, .ofNat 0), (0, .ofNat 0, .ofNat 0)), (0, 122, (0, .ofNat 0, .ofNat 28), (0, .ofNat 0, .ofNat 5), (0, .ofNat 0, .ofNat 0)), (1, 122, (0, .ofNat 0, .ofNat 29), (4, .ofNat 1, .ofNat 0), (0, .ofNat 0, .ofNat 0)), (1, 122, (0, .ofNat 0, .ofNat 28), (0, .ofNat 0, .ofNat 5), (0, .ofNat 0, .ofNat 0)), (2, 0, (9, .ofNat 1, .ofNat 0), (0, .ofNat 0, .ofNat 0), (0, .ofNat 0, .ofNat 0)), (0, 122, (0, .ofNat 0, .ofNat 28), (9, .ofNat 1, .ofNat 0), (0, .ofNat 0, .ofNat 0)), (2, 4, (8, .ofNat 1, .ofNat 0), (0, .ofNat 0, .ofNat 12), (0, .ofNat 0, .ofNat 0))], [(1, [(.ofNat 1, .ofNat 9)]), (2, [(.ofNat 0, .ofNat 3)]), (3, [(.ofNat 0, .ofNat 99)]), (4, [(.ofNat 0, .ofNat 80)]), (5, [(.ofNat 0, .ofNat 1)]), (6, [(.ofNat 0, .ofNat 12)]), (7, [(.ofNat 0, .ofNat 3)]), (8, [(.ofNat 13, .ofNat 111)]), (9, [(.ofNat 0, .ofNat 0)])], [((6, .ofNat 1, .ofNat 0), (3, .ofNat 1, .ofNat 0), (8, .ofNat 1, .ofNat 0))], [])]
set_option maxRecDepth 1000000 in
theorem sg_be_c_g : sg_go [] [171] 3000 212 102 1 8 [(0, [(.ofNat 0, .ofNat 0)]), (1, [(.ofNat 1, .ofNat 9)]), (2, [(.ofNat 0, .ofNat 3)]), (3, [(.ofNat 0, .ofNat 99)]), (4, [(.ofNat 0, .ofNat 80)]), (5, [(.ofNat 0, .ofNat 1)]), (6, [(.ofNat 0, .ofNat 12)]), (7, [(.ofNat 0, .ofNat 3)])] [(122, (0, .ofNat 0, .ofNat 38), (7, .ofNat 1, .ofNat 0))] [] [] [(0, .inr (.inl [122])), (1, .inl (false, (1, .ofNat 1, .ofNat 0))), (2, .inl (false, (2, .ofNat 1, .ofNat 0))), (4, .inl (false, (3, .ofNat 1, .ofNat 0))), (5, .inl (false, (4, .ofNat 1, .ofNat 0))), (6, .inl (false, (5, .ofNat 1, .ofNat 0)))] [.inl (false, (6, .ofNat 1, .ofNat 0))] [(122, some 28), (122, some 29), (122, some 38), (145, none), (146, none), (147, none)] sg_be_c_Z = true := by decide +kernel
set_option maxRecDepth 100000 in
theorem sg_be_c {Q : Option Value × am_S → Prop} {d : Nat} {S : am_S} {L : am_L} {x1 x2 x3 x4 x5 x6 x7 : Int} {i1 : Int32} (hd : 1 ≤ d) (hP : ax_P0 none S) (l0 : lc L 0 122) (l1 : li L 1 x1) (l2 : li L 2 x2) (l4 : li L 4 x3) (l5 : li L 5 x4) (l6 : li L 6 x5) (b1 : (1 ≤ x1 ∧ x1 ≤ 9)) (b2 : (0 ≤ x2 ∧ x2 ≤ 3)) (b3 : (0 ≤ x3 ∧ x3 ≤ 99)) (b4 : (0 ≤ x4 ∧ x4 ≤ 80)) (b5 : (0 ≤ x5 ∧ x5 ≤ 1)) (b6 : (0 ≤ x6 ∧ x6 ≤ 12)) (b7 : (0 ≤ x7 ∧ x7 ≤ 3)) (m122_38 : rd S 122 38 = x7) (s1 : i1.toInt = x6)
    (k0 : ∀ (x8 x9 : Int) (S' : am_S), ax_P0 none S' → rd S' = rd S → x8 ≤ 12 → rd S 122 28 = x9 → x9 ≠ 0 → (1 ≤ x1 ∧ x1 ≤ 9) → (0 ≤ x2 ∧ x2 ≤ 3) → (0 ≤ x3 ∧ x3 ≤ 99) → (0 ≤ x4 ∧ x4 ≤ 80) → (0 ≤ x5 ∧ x5 ≤ 1) → (0 ≤ x6 ∧ x6 ≤ 12) → (0 ≤ x7 ∧ x7 ≤ 3) → (0 ≤ x8 ∧ x8 ≤ 12) → (1 ≤ x9 ∧ x9 ≤ 5) → x6 + x3 = x8 → Q (none, S'))
    (k1 : ∀ (x8 x9 : Int) (S' : am_S), ax_P0 none S' → rd S' = sg_up (sg_up (sg_up (sg_up (rd S) 145 x7 x1) 146 x7 x2) 147 x7 x3) 122 38 (x7 + 1) → x8 ≤ 12 → rd S 122 28 = x9 → x9 = 0 → rd S 122 38 = x7 → x5 = 0 → (1 ≤ x1 ∧ x1 ≤ 9) → (0 ≤ x2 ∧ x2 ≤ 3) → (0 ≤ x3 ∧ x3 ≤ 12) → (0 ≤ x4 ∧ x4 ≤ 80) → (0 ≤ x5 ∧ x5 ≤ 0) → (0 ≤ x6 ∧ x6 ≤ 12) → (0 ≤ x7 ∧ x7 ≤ 3) → (0 ≤ x8 ∧ x8 ≤ 12) → (0 ≤ x9 ∧ x9 ≤ 0) → x6 + x3 = x8 → Q (none, S'))
    (k2 : ∀ (x8 x9 : Int) (L' : am_L) (S' : am_S), ax_P0 none S' → rd S' = sg_up (sg_up (sg_up (sg_up (rd S) 145 x7 x1) 146 x7 x2) 147 x7 x3) 122 38 (x7 + 1) → x8 ≤ 12 → rd S 122 28 = x9 → x9 = 0 → rd S 122 38 = x7 → x5 ≠ 0 → (1 ≤ x1 ∧ x1 ≤ 9) → (0 ≤ x2 ∧ x2 ≤ 3) → (0 ≤ x3 ∧ x3 ≤ 12) → (0 ≤ x4 ∧ x4 ≤ 80) → (1 ≤ x5 ∧ x5 ≤ 1) → (0 ≤ x6 ∧ x6 ≤ 12) → (0 ≤ x7 ∧ x7 ≤ 3) → (0 ≤ x8 ∧ x8 ≤ 12) → (0 ≤ x9 ∧ x9 ≤ 0) → x6 + x3 = x8 → lc L' 0 122 → li L' 1 x1 → li L' 2 x2 → li L' 4 x3 → li L' 5 x4 → li L' 6 1 → am_V none d 212 171 L' ((.ref 122) :: []) S' Q)
    (k3 : ∀ (x8 x9 : Int) (S' : am_S), ax_P0 none S' → rd S' = rd S → 12 < x8 → rd S 122 28 = x9 → x9 ≠ 0 → x9 ≠ 0 → (1 ≤ x1 ∧ x1 ≤ 9) → (0 ≤ x2 ∧ x2 ≤ 3) → (0 ≤ x3 ∧ x3 ≤ 99) → (0 ≤ x4 ∧ x4 ≤ 80) → (0 ≤ x5 ∧ x5 ≤ 1) → (0 ≤ x6 ∧ x6 ≤ 12) → (0 ≤ x7 ∧ x7 ≤ 3) → (13 ≤ x8 ∧ x8 ≤ 111) → (1 ≤ x9 ∧ x9 ≤ 5) → x6 + x3 = x8 → Q (none, S'))
    (k4 : ∀ (x8 x9 : Int) (S' : am_S), ax_P0 none S' → rd S' = sg_up (sg_up (rd S) 122 28 5) 122 29 x4 → 12 < x8 → rd S 122 28 = x9 → x9 = 0 → (1 ≤ x1 ∧ x1 ≤ 9) → (0 ≤ x2 ∧ x2 ≤ 3) → (0 ≤ x3 ∧ x3 ≤ 99) → (0 ≤ x4 ∧ x4 ≤ 80) → (0 ≤ x5 ∧ x5 ≤ 1) → (0 ≤ x6 ∧ x6 ≤ 12) → (0 ≤ x7 ∧ x7 ≤ 3) → (13 ≤ x8 ∧ x8 ≤ 111) → (0 ≤ x9 ∧ x9 ≤ 0) → x6 + x3 = x8 → Q (none, S')) : am_V none d 212 102 L ((.int i1) :: []) S Q := by
  refine sg_use sg_be_c_g hd hP (sg_xs [0, x1, x2, x3, x4, x5, x6, x7]) ⟨⟨Int.le_refl 0, Int.le_refl 0⟩, b1, b2, b3, b4, b5, b6, b7, trivial⟩ ⟨sg_fs hP rfl m122_38, trivial⟩ trivial trivial ⟨l0, l1, l2, l4, l5, l6, trivial⟩ ⟨⟨_, rfl, s1⟩, trivial⟩ ?_
  intro z hz x' L' st' S' hx hP' hW hL' hs' hJ hE' hT' hD'
  have q1 : x' 1 = x1 := hx 1 (by decide)
  subst q1
  have q2 : x' 2 = x2 := hx 2 (by decide)
  subst q2
  have q3 : x' 3 = x3 := hx 3 (by decide)
  subst q3
  have q4 : x' 4 = x4 := hx 4 (by decide)
  subst q4
  have q5 : x' 5 = x5 := hx 5 (by decide)
  subst q5
  have q6 : x' 6 = x6 := hx 6 (by decide)
  subst q6
  have q7 : x' 7 = x7 := hx 7 (by decide)
  subst q7
  simp only [sg_be_c_Z, List.mem_cons, List.not_mem_nil, or_false] at hz
  rcases hz with rfl | rfl | rfl | rfl | rfl
  · obtain ⟨f0, f1, f2, hσ⟩ := hJ
    obtain ⟨e0, e1, e2, e3, e4, e5, e6, e7, e8, -⟩ := hE'
    obtain ⟨t0, -⟩ := hT'
    intro v hv
    subst hv
    cases v with
    | some _ => exact hs'.elim
    | none =>
      exact k0 (x' 8) (x' 9) S' hP' hσ f0 f1 f2 e0 e1 e2 e3 e4 e5 e6 e7 e8 t0
  · obtain ⟨f0, f1, f2, f3, -, -, -, f7, hσ⟩ := hJ
    obtain ⟨e0, e1, e2, e3, e4, e5, e6, e7, e8, -⟩ := hE'
    obtain ⟨t0, -⟩ := hT'
    intro v hv
    subst hv
    cases v with
    | some _ => exact hs'.elim
    | none =>
      exact k1 (x' 8) (x' 9) S' hP' hσ f0 f1 f2 f3 f7 e0 e1 e2 e3 e4 e5 e6 e7 e8 t0
  · obtain ⟨f0, f1, f2, f3, -, -, -, f7, hσ⟩ := hJ
    obtain ⟨e0, e1, e2, e3, e4, e5, e6, e7, e8, -⟩ := hE'
    obtain ⟨t0, -⟩ := hT'
    obtain ⟨p0, p1, p2, p3, p4, p5, -⟩ := hL'
    obtain ⟨v1, r1, rfl, rfl, hs1⟩ := sg_tc hs'
    obtain rfl := sg_tn hs1
    exact k2 (x' 8) (x' 9) L' S' hP' hσ f0 f1 f2 f3 f7 e0 e1 e2 e3 e4 e5 e6 e7 e8 t0 p0 p1 p2 p3 p4 p5
  · obtain ⟨f0, f1, f2, -, f4, hσ⟩ := hJ
    obtain ⟨e0, e1, e2, e3, e4, e5, e6, e7, e8, -⟩ := hE'
    obtain ⟨t0, -⟩ := hT'
    intro v hv
    subst hv
    cases v with
    | some _ => exact hs'.elim
    | none =>
      exact k3 (x' 8) (x' 9) S' hP' hσ f0 f1 f2 f4 e0 e1 e2 e3 e4 e5 e6 e7 e8 t0
  · obtain ⟨f0, f1, f2, -, -, hσ⟩ := hJ
    obtain ⟨e0, e1, e2, e3, e4, e5, e6, e7, e8, -⟩ := hE'
    obtain ⟨t0, -⟩ := hT'
    intro v hv
    subst hv
    cases v with
    | some _ => exact hs'.elim
    | none =>
      exact k4 (x' 8) (x' 9) S' hP' hσ f0 f1 f2 e0 e1 e2 e3 e4 e5 e6 e7 e8 t0
def sg_be_w_Z : List sg_z := [(0, [], [], [(2, 1, (7, .ofNat 1, .ofNat 0), (0, .ofNat 0, .ofNat 0), (0, .ofNat 0, .ofNat 0)), (0, 122, (0, .ofNat 0, .ofNat 28), (7, .ofNat 1, .ofNat 0), (0, .ofNat 0, .ofNat 0)), (2, 5, (8, .ofNat 1, .ofNat 0), (0, .ofNat 0, .ofNat 12), (0, .ofNat 0, .ofNat 0)), (3, 9, (6, .ofNat 1, .ofNat 0), (3, .ofNat 1, .ofNat 0), (8, .ofNat 1, .ofNat 0))], [(1, [(.ofNat 1, .ofNat 9)]), (2, [(.ofNat 0, .ofNat 3)]), (4, [(.ofNat 0, .ofNat 80)]), (5, [(.ofNat 0, .ofNat 1)]), (6, [(.ofNat 0, .ofNat 12)]), (7, [(.ofNat 1, .ofNat 5)]), (8, [(.negSucc 2147483647, .ofNat 12)])], [], []),
  (0, [], [], [(2, 1, (7, .ofNat 1, .ofNat 0), (0, .ofNat 0, .ofNat 0), (0, .ofNat 0, .ofNat 0)), (0, 122, (0, .ofNat 0, .ofNat 28), (7, .ofNat 1, .ofNat 0), (0, .ofNat 0, .ofNat 0)), (2, 1, (7, .ofNat 1, .ofNat 0), (0, .ofNat 0, .ofNat 0), (0, .ofNat 0, .ofNat 0)), (0, 122, (0, .ofNat 0, .ofNat 28), (7, .ofNat 1, .ofNat 0), (0, .ofNat 0, .ofNat 0)), (2, 4, (8, .ofNat 1, .ofNat 0), (0, .ofNat 0, .ofNat 12), (0, .ofNat 0, .ofNat 0)), (3, 9, (6, .ofNat 1, .ofNat 0), (3, .ofNat 1, .ofNat 0), (8, .ofNat 1, .ofNat 0))], [(1, [(.ofNat 1, .ofNat 9)]), (2, [(.ofNat 0, .ofNat 3)]), (4, [(.ofNat 0, .ofNat 80)]), (5, [(.ofNat 0, .ofNat 1)]), (6, [(.ofNat 0, .ofNat 12)]), (7, [(.ofNat 1, .ofNat 5)]), (8, [(.ofNat 13, .ofNat 2147483647)])], [], [])]
set_option maxRecDepth 1000000 in
theorem sg_be_w_g : sg_go [] [171] 3000 212 102 1 8 [(0, [(.ofNat 0, .ofNat 0)]), (1, [(.ofNat 1, .ofNat 9)]), (2, [(.ofNat 0, .ofNat 3)]), (3, [(.negSucc 2147483647, .ofNat 2147483647)]), (4, [(.ofNat 0, .ofNat 80)]), (5, [(.ofNat 0, .ofNat 1)]), (6, [(.ofNat 0, .ofNat 12)]), (7, [(.ofNat 1, .ofNat 5)])] [(122, (0, .ofNat 0, .ofNat 28), (7, .ofNat 1, .ofNat 0))] [] [] [(0, .inr (.inl [122])), (1, .inl (false, (1, .ofNat 1, .ofNat 0))), (2, .inl (false, (2, .ofNat 1, .ofNat 0))), (4, .inl (false, (3, .ofNat 1, .ofNat 0))), (5, .inl (false, (4, .ofNat 1, .ofNat 0))), (6, .inl (false, (5, .ofNat 1, .ofNat 0)))] [.inl (false, (6, .ofNat 1, .ofNat 0))] [] sg_be_w_Z = true := by decide +kernel
set_option maxRecDepth 100000 in
theorem sg_be_w {Q : Option Value × am_S → Prop} {d : Nat} {S : am_S} {L : am_L} {x1 x2 x3 x4 x5 x6 x7 : Int} {i1 : Int32} (hd : 1 ≤ d) (hP : ax_P0 none S) (l0 : lc L 0 122) (l1 : li L 1 x1) (l2 : li L 2 x2) (l4 : li L 4 x3) (l5 : li L 5 x4) (l6 : li L 6 x5) (b1 : (1 ≤ x1 ∧ x1 ≤ 9)) (b2 : (0 ≤ x2 ∧ x2 ≤ 3)) (b3 : ((-2147483648) ≤ x3 ∧ x3 ≤ 2147483647)) (b4 : (0 ≤ x4 ∧ x4 ≤ 80)) (b5 : (0 ≤ x5 ∧ x5 ≤ 1)) (b6 : (0 ≤ x6 ∧ x6 ≤ 12)) (b7 : (1 ≤ x7 ∧ x7 ≤ 5)) (m122_28 : rd S 122 28 = x7) (s1 : i1.toInt = x6)
    (k0 : ∀ (x8 : Int), (∃ a b : Int32, a.toInt = x6 ∧ b.toInt = x3 ∧ (a + b).toInt = x8) → x8 ≤ 12 → rd S 122 28 = x7 → x7 ≠ 0 → (1 ≤ x1 ∧ x1 ≤ 9) → (0 ≤ x2 ∧ x2 ≤ 3) → (0 ≤ x4 ∧ x4 ≤ 80) → (0 ≤ x5 ∧ x5 ≤ 1) → (0 ≤ x6 ∧ x6 ≤ 12) → (1 ≤ x7 ∧ x7 ≤ 5) → ((-2147483648) ≤ x8 ∧ x8 ≤ 12) → Q (none, S))
    (k1 : ∀ (x8 : Int), (∃ a b : Int32, a.toInt = x6 ∧ b.toInt = x3 ∧ (a + b).toInt = x8) → 12 < x8 → rd S 122 28 = x7 → x7 ≠ 0 → x7 ≠ 0 → (1 ≤ x1 ∧ x1 ≤ 9) → (0 ≤ x2 ∧ x2 ≤ 3) → (0 ≤ x4 ∧ x4 ≤ 80) → (0 ≤ x5 ∧ x5 ≤ 1) → (0 ≤ x6 ∧ x6 ≤ 12) → (1 ≤ x7 ∧ x7 ≤ 5) → (13 ≤ x8 ∧ x8 ≤ 2147483647) → Q (none, S)) : am_V none d 212 102 L ((.int i1) :: []) S Q := by
  refine sg_use sg_be_w_g hd hP (sg_xs [0, x1, x2, x3, x4, x5, x6, x7]) ⟨⟨Int.le_refl 0, Int.le_refl 0⟩, b1, b2, b3, b4, b5, b6, b7, trivial⟩ ⟨sg_fs hP rfl m122_28, trivial⟩ trivial trivial ⟨l0, l1, l2, l4, l5, l6, trivial⟩ ⟨⟨_, rfl, s1⟩, trivial⟩ ?_
  intro z hz x' L' st' S' hx hP' hW hL' hs' hJ hE' hT' hD'
  have q1 : x' 1 = x1 := hx 1 (by decide)
  subst q1
  have q2 : x' 2 = x2 := hx 2 (by decide)
  subst q2
  have q3 : x' 3 = x3 := hx 3 (by decide)
  subst q3
  have q4 : x' 4 = x4 := hx 4 (by decide)
  subst q4
  have q5 : x' 5 = x5 := hx 5 (by decide)
  subst q5
  have q6 : x' 6 = x6 := hx 6 (by decide)
  subst q6
  have q7 : x' 7 = x7 := hx 7 (by decide)
  subst q7
  have eS : S' = S := hW.1 rfl
  subst eS
  simp only [sg_be_w_Z, List.mem_cons, List.not_mem_nil, or_false] at hz
  rcases hz with rfl | rfl
  · obtain ⟨f0, f1, f2, f3, hσ⟩ := hJ
    obtain ⟨e0, e1, e2, e3, e4, e5, e6, -⟩ := hE'
    intro v hv
    subst hv
    cases v with
    | some _ => exact hs'.elim
    | none =>
      exact k0 (x' 8) f0 f1 f2 f3 e0 e1 e2 e3 e4 e5 e6
  · obtain ⟨f0, f1, f2, f3, -, f5, hσ⟩ := hJ
    obtain ⟨e0, e1, e2, e3, e4, e5, e6, -⟩ := hE'
    intro v hv
    subst hv
    cases v with
    | some _ => exact hs'.elim
    | none =>
      exact k1 (x' 8) f0 f1 f2 f3 f5 e0 e1 e2 e3 e4 e5 e6
def sg_be_d_Z : List sg_z := [(0, [], [], [], [], [], [])]
set_option maxRecDepth 1000000 in
theorem sg_be_d_g : sg_go [] [] 3000 212 174 0 1 [(0, [(.ofNat 0, .ofNat 0)])] [] [] [] [(0, .inr (.inl [122]))] [] [] sg_be_d_Z = true := by decide +kernel
set_option maxRecDepth 100000 in
theorem sg_be_d {Q : Option Value × am_S → Prop} {d : Nat} {S : am_S} {L : am_L} (hd : 0 ≤ d) (hP : ax_P0 none S) (l0 : lc L 0 122)
    (k0 : Q (none, S)) : am_V none d 212 174 L ([]) S Q := by
  refine sg_use sg_be_d_g hd hP (sg_xs [0]) ⟨⟨Int.le_refl 0, Int.le_refl 0⟩, trivial⟩ trivial trivial trivial ⟨l0, trivial⟩ trivial ?_
  intro z hz x' L' st' S' hx hP' hW hL' hs' hJ hE' hT' hD'
  have eS : S' = S := hW.1 rfl
  subst eS
  simp only [sg_be_d_Z, List.mem_cons, List.not_mem_nil, or_false] at hz
  rcases hz with rfl
  · have hσ := hJ
    intro v hv
    subst hv
    cases v with
    | some _ => exact hs'.elim
    | none =>
      exact k0 
def sg_fs_a_Z : List sg_z := [(5, [(0, .inr (.inl [122])), (1, .inl (false, (0, .ofNat 0, .ofNat 0))), (2, .inl (false, (0, .ofNat 0, .ofNat 0)))], [], [], [], [], [])]
set_option maxRecDepth 1000000 in
theorem sg_fs_a_g : sg_go [] [4] 3000 210 0 0 1 [(0, [(.ofNat 0, .ofNat 0)])] [] [] [] [(0, .inr (.inl [122]))] [] [] sg_fs_a_Z = true := by decide +kernel
set_option maxRecDepth 100000 in
theorem sg_fs_a {Q : Option Value × am_S → Prop} {d : Nat} {S : am_S} {L : am_L} (hd : 0 ≤ d) (hP : ax_P0 none S) (l0 : lc L 0 122)
    (k0 : ∀ (L' : am_L), lc L' 0 122 → li L' 1 0 → li L' 2 0 → am_V none d 210 4 L' ([]) S Q) : am_V none d 210 0 L ([]) S Q := by
  refine sg_use sg_fs_a_g hd hP (sg_xs [0]) ⟨⟨Int.le_refl 0, Int.le_refl 0⟩, trivial⟩ trivial trivial trivial ⟨l0, trivial⟩ trivial ?_
  intro z hz x' L' st' S' hx hP' hW hL' hs' hJ hE' hT' hD'
  have eS : S' = S := hW.1 rfl
  subst eS
  simp only [sg_fs_a_Z, List.mem_cons, List.not_mem_nil, or_false] at hz
  rcases hz with rfl
  · have hσ := hJ
    obtain ⟨p0, p1, p2, -⟩ := hL'
    obtain rfl := sg_tn hs'
    exact k0 L' p0 p1 p2
def sg_fs_b_Z : List sg_z := [(0, [], [.inl (false, (1, .ofNat 1, .ofNat 0))], [(2, 3, (2, .ofNat 1, .ofNat 0), (3, .ofNat 1, .ofNat 0), (0, .ofNat 0, .ofNat 0)), (0, 122, (0, .ofNat 0, .ofNat 38), (3, .ofNat 1, .ofNat 0), (0, .ofNat 0, .ofNat 0))], [(1, [(.ofNat 0, .ofNat 99)]), (2, [(.ofNat 0, .ofNat 4)]), (3, [(.ofNat 0, .ofNat 4)])], [], []),
  (5, [(0, .inr (.inl [122])), (1, .inl (false, (5, .ofNat 1, .ofNat 0))), (2, .inl (false, (2, .ofNat 1, .ofNat 1)))], [], [(0, 147, (2, .ofNat 1, .ofNat 0), (4, .ofNat 1, .ofNat 0), (0, .ofNat 0, .ofNat 0)), (2, 2, (2, .ofNat 1, .ofNat 0), (3, .ofNat 1, .ofNat 0), (0, .ofNat 0, .ofNat 0)), (0, 122, (0, .ofNat 0, .ofNat 38), (3, .ofNat 1, .ofNat 0), (0, .ofNat 0, .ofNat 0))], [(1, [(.ofNat 0, .ofNat 99)]), (2, [(.ofNat 0, .ofNat 3)]), (3, [(.ofNat 1, .ofNat 4)]), (4, [(.ofNat 0, .ofNat 14)]), (5, [(.ofNat 0, .ofNat 113)])], [((1, .ofNat 1, .ofNat 0), (4, .ofNat 1, .ofNat 0), (5, .ofNat 1, .ofNat 0))], [])]
set_option maxRecDepth 1000000 in
theorem sg_fs_b_g : sg_go [] [4] 3000 210 4 0 3 [(0, [(.ofNat 0, .ofNat 0)]), (1, [(.ofNat 0, .ofNat 99)]), (2, [(.ofNat 0, .ofNat 4)])] [] [] [] [(0, .inr (.inl [122])), (1, .inl (false, (1, .ofNat 1, .ofNat 0))), (2, .inl (false, (2, .ofNat 1, .ofNat 0)))] [] [] sg_fs_b_Z = true := by decide +kernel
set_option maxRecDepth 100000 in
theorem sg_fs_b {Q : Option Value × am_S → Prop} {d : Nat} {S : am_S} {L : am_L} {x1 x2 : Int} (hd : 0 ≤ d) (hP : ax_P0 none S) (l0 : lc L 0 122) (l1 : li L 1 x1) (l2 : li L 2 x2) (b1 : (0 ≤ x1 ∧ x1 ≤ 99)) (b2 : (0 ≤ x2 ∧ x2 ≤ 4))
    (k0 : ∀ (x3 : Int) (i1 : Int32), rd S 122 38 = x3 → x3 ≤ x2 → (0 ≤ x1 ∧ x1 ≤ 99) → (0 ≤ x2 ∧ x2 ≤ 4) → (0 ≤ x3 ∧ x3 ≤ 4) → i1.toInt = x1 → Q (some (.int i1), S))
    (k1 : ∀ (x3 x4 x5 : Int) (L' : am_L), rd S 122 38 = x3 → x2 < x3 → rd S 147 x2 = x4 → (0 ≤ x1 ∧ x1 ≤ 99) → (0 ≤ x2 ∧ x2 ≤ 3) → (1 ≤ x3 ∧ x3 ≤ 4) → (0 ≤ x4 ∧ x4 ≤ 14) → (0 ≤ x5 ∧ x5 ≤ 113) → x1 + x4 = x5 → lc L' 0 122 → li L' 1 x5 → li L' 2 (x2 + 1) → am_V none d 210 4 L' ([]) S Q) : am_V none d 210 4 L ([]) S Q := by
  refine sg_use sg_fs_b_g hd hP (sg_xs [0, x1, x2]) ⟨⟨Int.le_refl 0, Int.le_refl 0⟩, b1, b2, trivial⟩ trivial trivial trivial ⟨l0, l1, l2, trivial⟩ trivial ?_
  intro z hz x' L' st' S' hx hP' hW hL' hs' hJ hE' hT' hD'
  have q1 : x' 1 = x1 := hx 1 (by decide)
  subst q1
  have q2 : x' 2 = x2 := hx 2 (by decide)
  subst q2
  have eS : S' = S := hW.1 rfl
  subst eS
  simp only [sg_fs_b_Z, List.mem_cons, List.not_mem_nil, or_false] at hz
  rcases hz with rfl | rfl
  · obtain ⟨f0, f1, hσ⟩ := hJ
    obtain ⟨e0, e1, e2, -⟩ := hE'
    intro v hv
    subst hv
    cases v with
    | none => exact hs'.elim
    | some v1 =>
      obtain ⟨⟨i1, rfl, g1⟩, -⟩ := hs'
      exact k0 (x' 3) i1 f0 f1 e0 e1 e2 g1
  · obtain ⟨f0, f1, f2, hσ⟩ := hJ
    obtain ⟨e0, e1, e2, e3, e4, -⟩ := hE'
    obtain ⟨t0, -⟩ := hT'
    obtain ⟨p0, p1, p2, -⟩ := hL'
    obtain rfl := sg_tn hs'
    exact k1 (x' 3) (x' 4) (x' 5) L' f0 f1 f2 e0 e1 e2 e3 e4 t0 p0 p1 p2
def sg_so_x_Z : List sg_z := [(5, [(0, .inr (.inl [122])), (1, .inl (false, (0, .ofNat 0, .ofNat 0))), (2, .inl (false, (0, .ofNat 0, .ofNat 0)))], [], [], [], [], [])]
set_option maxRecDepth 1000000 in
theorem sg_so_x_g : sg_go [] [4] 3000 213 0 0 1 [(0, [(.ofNat 0, .ofNat 0)])] [] [] [] [(0, .inr (.inl [122]))] [] [] sg_so_x_Z = true := by decide +kernel
set_option maxRecDepth 100000 in
theorem sg_so_x {Q : Option Value × am_S → Prop} {d : Nat} {S : am_S} {L : am_L} (hd : 0 ≤ d) (hP : ax_P0 none S) (l0 : lc L 0 122)
    (k0 : ∀ (L' : am_L), lc L' 0 122 → li L' 1 0 → li L' 2 0 → am_V none d 213 4 L' ([]) S Q) : am_V none d 213 0 L ([]) S Q := by
  refine sg_use sg_so_x_g hd hP (sg_xs [0]) ⟨⟨Int.le_refl 0, Int.le_refl 0⟩, trivial⟩ trivial trivial trivial ⟨l0, trivial⟩ trivial ?_
  intro z hz x' L' st' S' hx hP' hW hL' hs' hJ hE' hT' hD'
  have eS : S' = S := hW.1 rfl
  subst eS
  simp only [sg_so_x_Z, List.mem_cons, List.not_mem_nil, or_false] at hz
  rcases hz with rfl
  · have hσ := hJ
    obtain ⟨p0, p1, p2, -⟩ := hL'
    obtain rfl := sg_tn hs'
    exact k0 L' p0 p1 p2
def sg_so_y_Z : List sg_z := [(0, [], [.inl (false, (4, .ofNat 1, .ofNat 0))], [(3, 2, (1, .ofNat 1, .ofNat 0), (0, .ofNat 0, .ofNat 2), (4, .ofNat 1, .ofNat 0)), (2, 3, (2, .ofNat 1, .ofNat 0), (3, .ofNat 1, .ofNat 0), (0, .ofNat 0, .ofNat 0)), (0, 122, (0, .ofNat 0, .ofNat 34), (3, .ofNat 1, .ofNat 0), (0, .ofNat 0, .ofNat 0))], [(1, [(.ofNat 0, .ofNat 999)]), (2, [(.ofNat 0, .ofNat 4)]), (3, [(.ofNat 0, .ofNat 4)]), (4, [(.ofNat 0, .ofNat 1)])], [], []),
  (5, [(0, .inr (.inl [122])), (1, .inl (false, (7, .ofNat 1, .ofNat 0))), (2, .inl (false, (2, .ofNat 1, .ofNat 1)))], [], [(3, 0, (4, .ofNat 1, .ofNat 0), (5, .ofNat 1, .ofNat 0), (6, .ofNat 1, .ofNat 0)), (0, 144, (2, .ofNat 1, .ofNat 0), (5, .ofNat 1, .ofNat 0), (0, .ofNat 0, .ofNat 0)), (0, 143, (2, .ofNat 1, .ofNat 0), (4, .ofNat 1, .ofNat 0), (0, .ofNat 0, .ofNat 0)), (2, 2, (2, .ofNat 1, .ofNat 0), (3, .ofNat 1, .ofNat 0), (0, .ofNat 0, .ofNat 0)), (0, 122, (0, .ofNat 0, .ofNat 34), (3, .ofNat 1, .ofNat 0), (0, .ofNat 0, .ofNat 0))], [(1, [(.ofNat 0, .ofNat 999)]), (2, [(.ofNat 0, .ofNat 3)]), (3, [(.ofNat 1, .ofNat 4)]), (4, [(.ofNat 0, .ofNat 3)]), (5, [(.ofNat 0, .ofNat 14)]), (6, [(.ofNat 0, .ofNat 42)]), (7, [(.ofNat 0, .ofNat 1041)])], [((1, .ofNat 1, .ofNat 0), (6, .ofNat 1, .ofNat 0), (7, .ofNat 1, .ofNat 0))], [])]
set_option maxRecDepth 1000000 in
theorem sg_so_y_g : sg_go [] [4] 3000 213 4 0 3 [(0, [(.ofNat 0, .ofNat 0)]), (1, [(.ofNat 0, .ofNat 999)]), (2, [(.ofNat 0, .ofNat 4)])] [] [] [] [(0, .inr (.inl [122])), (1, .inl (false, (1, .ofNat 1, .ofNat 0))), (2, .inl (false, (2, .ofNat 1, .ofNat 0)))] [] [] sg_so_y_Z = true := by decide +kernel
set_option maxRecDepth 100000 in
theorem sg_so_y {Q : Option Value × am_S → Prop} {d : Nat} {S : am_S} {L : am_L} {x1 x2 : Int} (hd : 0 ≤ d) (hP : ax_P0 none S) (l0 : lc L 0 122) (l1 : li L 1 x1) (l2 : li L 2 x2) (b1 : (0 ≤ x1 ∧ x1 ≤ 999)) (b2 : (0 ≤ x2 ∧ x2 ≤ 4))
    (k0 : ∀ (x3 x4 : Int) (i1 : Int32), rd S 122 34 = x3 → x3 ≤ x2 → (∃ a b : Int32, a.toInt = x1 ∧ b.toInt = 2 ∧ (a - a / b * b).toInt = x4) → (0 ≤ x1 ∧ x1 ≤ 999) → (0 ≤ x2 ∧ x2 ≤ 4) → (0 ≤ x3 ∧ x3 ≤ 4) → (0 ≤ x4 ∧ x4 ≤ 1) → i1.toInt = x4 → Q (some (.int i1), S))
    (k1 : ∀ (x3 x4 x5 x6 x7 : Int) (L' : am_L), rd S 122 34 = x3 → x2 < x3 → rd S 143 x2 = x4 → rd S 144 x2 = x5 → (∃ a b : Int32, a.toInt = x4 ∧ b.toInt = x5 ∧ (a * b).toInt = x6) → (0 ≤ x1 ∧ x1 ≤ 999) → (0 ≤ x2 ∧ x2 ≤ 3) → (1 ≤ x3 ∧ x3 ≤ 4) → (0 ≤ x4 ∧ x4 ≤ 3) → (0 ≤ x5 ∧ x5 ≤ 14) → (0 ≤ x6 ∧ x6 ≤ 42) → (0 ≤ x7 ∧ x7 ≤ 1041) → x1 + x6 = x7 → lc L' 0 122 → li L' 1 x7 → li L' 2 (x2 + 1) → am_V none d 213 4 L' ([]) S Q) : am_V none d 213 4 L ([]) S Q := by
  refine sg_use sg_so_y_g hd hP (sg_xs [0, x1, x2]) ⟨⟨Int.le_refl 0, Int.le_refl 0⟩, b1, b2, trivial⟩ trivial trivial trivial ⟨l0, l1, l2, trivial⟩ trivial ?_
  intro z hz x' L' st' S' hx hP' hW hL' hs' hJ hE' hT' hD'
  have q1 : x' 1 = x1 := hx 1 (by decide)
  subst q1
  have q2 : x' 2 = x2 := hx 2 (by decide)
  subst q2
  have eS : S' = S := hW.1 rfl
  subst eS
  simp only [sg_so_y_Z, List.mem_cons, List.not_mem_nil, or_false] at hz
  rcases hz with rfl | rfl
  · obtain ⟨f0, f1, f2, hσ⟩ := hJ
    obtain ⟨e0, e1, e2, e3, -⟩ := hE'
    intro v hv
    subst hv
    cases v with
    | none => exact hs'.elim
    | some v1 =>
      obtain ⟨⟨i1, rfl, g1⟩, -⟩ := hs'
      exact k0 (x' 3) (x' 4) i1 f0 f1 f2 e0 e1 e2 e3 g1
  · obtain ⟨f0, f1, f2, f3, f4, hσ⟩ := hJ
    obtain ⟨e0, e1, e2, e3, e4, e5, e6, -⟩ := hE'
    obtain ⟨t0, -⟩ := hT'
    obtain ⟨p0, p1, p2, -⟩ := hL'
    obtain rfl := sg_tn hs'
    exact k1 (x' 3) (x' 4) (x' 5) (x' 6) (x' 7) L' f0 f1 f2 f3 f4 e0 e1 e2 e3 e4 e5 e6 t0 p0 p1 p2
def sg_hs_a_Z : List sg_z := [(17, [(0, .inr (.inl [122]))], [.inr (.inl [122])], [(1, 122, (0, .ofNat 0, .ofNat 38), (0, .ofNat 0, .ofNat 0), (0, .ofNat 0, .ofNat 0)), (1, 122, (0, .ofNat 0, .ofNat 30), (0, .ofNat 0, .ofNat 0), (0, .ofNat 0, .ofNat 0)), (1, 122, (0, .ofNat 0, .ofNat 28), (0, .ofNat 0, .ofNat 0), (0, .ofNat 0, .ofNat 0))], [], [], [])]
set_option maxRecDepth 1000000 in
theorem sg_hs_a_g : sg_go [] [16] 3000 214 0 0 1 [(0, [(.ofNat 0, .ofNat 0)])] [] [] [] [(0, .inr (.inl [122]))] [] [(122, some 28), (122, some 30), (122, some 38)] sg_hs_a_Z = true := by decide +kernel
set_option maxRecDepth 100000 in
theorem sg_hs_a {Q : Option Value × am_S → Prop} {d : Nat} {S : am_S} {L : am_L} (hd : 0 ≤ d) (hP : ax_P0 none S) (l0 : lc L 0 122)
    (k0 : ∀ (L' : am_L) (S' : am_S), ax_P0 none S' → rd S' = sg_up (sg_up (sg_up (rd S) 122 28 0) 122 30 0) 122 38 0 → lc L' 0 122 → am_V none d 214 16 L' ((.ref 122) :: []) S' Q) : am_V none d 214 0 L ([]) S Q := by
  refine sg_use sg_hs_a_g hd hP (sg_xs [0]) ⟨⟨Int.le_refl 0, Int.le_refl 0⟩, trivial⟩ trivial trivial trivial ⟨l0, trivial⟩ trivial ?_
  intro z hz x' L' st' S' hx hP' hW hL' hs' hJ hE' hT' hD'
  simp only [sg_hs_a_Z, List.mem_cons, List.not_mem_nil, or_false] at hz
  rcases hz with rfl
  · have hσ := hJ
    obtain ⟨p0, -⟩ := hL'
    obtain ⟨v1, r1, rfl, rfl, hs1⟩ := sg_tc hs'
    obtain rfl := sg_tn hs1
    exact k0 L' S' hP' hσ p0
def sg_hs_b_Z : List sg_z := [(0, [], [.inl (false, (3, .ofNat 1, .ofNat 0))], [(3, 10, (0, .ofNat 0, .negSucc 9), (2, .ofNat 1, .ofNat 0), (3, .ofNat 1, .ofNat 0)), (0, 122, (0, .ofNat 0, .ofNat 29), (2, .ofNat 1, .ofNat 0), (0, .ofNat 0, .ofNat 0)), (2, 4, (1, .ofNat 1, .ofNat 0), (0, .ofNat 0, .ofNat 0), (0, .ofNat 0, .ofNat 0)), (0, 122, (0, .ofNat 0, .ofNat 28), (1, .ofNat 1, .ofNat 0), (0, .ofNat 0, .ofNat 0)), (1, 122, (0, .ofNat 0, .ofNat 27), (1, .ofNat 1, .ofNat 0), (0, .ofNat 0, .ofNat 0)), (0, 122, (0, .ofNat 0, .ofNat 28), (1, .ofNat 1, .ofNat 0), (0, .ofNat 0, .ofNat 0)), (1, 122, (0, .ofNat 0, .ofNat 26), (0, .ofNat 0, .ofNat 0), (0, .ofNat 0, .ofNat 0)), (2, 1, (1, .ofNat 1, .ofNat 0), (0, .ofNat 0, .ofNat 0), (0, .ofNat 0, .ofNat 0)), (0, 122, (0, .ofNat 0, .ofNat 28), (1, .ofNat 1, .ofNat 0), (0, .ofNat 0, .ofNat 0))], [(1, [(.ofNat 1, .ofNat 5)])], [], []),
  (42, [(0, .inr (.inl [122]))], [.inr (.inl [122])], [(2, 1, (2, .ofNat 1, .ofNat 0), (0, .ofNat 0, .ofNat 0), (0, .ofNat 0, .ofNat 0)), (0, 122, (0, .ofNat 0, .ofNat 32), (2, .ofNat 1, .ofNat 0), (0, .ofNat 0, .ofNat 0)), (2, 0, (1, .ofNat 1, .ofNat 0), (0, .ofNat 0, .ofNat 0), (0, .ofNat 0, .ofNat 0)), (0, 122, (0, .ofNat 0, .ofNat 28), (1, .ofNat 1, .ofNat 0), (0, .ofNat 0, .ofNat 0))], [(1, [(.ofNat 0, .ofNat 0)]), (2, [(.ofNat 1, .ofNat 3)])], [], []),
  (86, [(0, .inr (.inl [122])), (1, .inl (false, (0, .ofNat 0, .ofNat 0)))], [], [(1, 122, (0, .ofNat 0, .ofNat 34), (3, .ofNat 1, .ofNat 0), (0, .ofNat 0, .ofNat 0)), (0, 122, (0, .ofNat 0, .ofNat 38), (3, .ofNat 1, .ofNat 0), (0, .ofNat 0, .ofNat 0)), (2, 5, (0, .ofNat 0, .ofNat 0), (0, .ofNat 0, .ofNat 0), (0, .ofNat 0, .ofNat 0)), (0, 122, (0, .ofNat 0, .ofNat 28), (0, .ofNat 0, .ofNat 0), (0, .ofNat 0, .ofNat 0)), (1, 122, (0, .ofNat 0, .ofNat 27), (0, .ofNat 0, .ofNat 0), (0, .ofNat 0, .ofNat 0)), (0, 122, (0, .ofNat 0, .ofNat 28), (0, .ofNat 0, .ofNat 0), (0, .ofNat 0, .ofNat 0)), (1, 122, (0, .ofNat 0, .ofNat 26), (0, .ofNat 0, .ofNat 0), (0, .ofNat 0, .ofNat 0)), (2, 1, (3, .ofNat 1, .ofNat 0), (0, .ofNat 0, .ofNat 0), (0, .ofNat 0, .ofNat 0)), (0, 122, (0, .ofNat 0, .ofNat 38), (3, .ofNat 1, .ofNat 0), (0, .ofNat 0, .ofNat 0)), (2, 0, (2, .ofNat 1, .ofNat 0), (0, .ofNat 0, .ofNat 0), (0, .ofNat 0, .ofNat 0)), (0, 122, (0, .ofNat 0, .ofNat 32), (2, .ofNat 1, .ofNat 0), (0, .ofNat 0, .ofNat 0)), (2, 0, (1, .ofNat 1, .ofNat 0), (0, .ofNat 0, .ofNat 0), (0, .ofNat 0, .ofNat 0)), (0, 122, (0, .ofNat 0, .ofNat 28), (1, .ofNat 1, .ofNat 0), (0, .ofNat 0, .ofNat 0))], [(1, [(.ofNat 0, .ofNat 0)]), (2, [(.ofNat 0, .ofNat 0)]), (3, [(.ofNat 1, .ofNat 4)])], [], []),
  (42, [(0, .inr (.inl [122]))], [.inr (.inl [122])], [(2, 0, (3, .ofNat 1, .ofNat 0), (0, .ofNat 0, .ofNat 0), (0, .ofNat 0, .ofNat 0)), (0, 122, (0, .ofNat 0, .ofNat 38), (3, .ofNat 1, .ofNat 0), (0, .ofNat 0, .ofNat 0)), (2, 0, (2, .ofNat 1, .ofNat 0), (0, .ofNat 0, .ofNat 0), (0, .ofNat 0, .ofNat 0)), (0, 122, (0, .ofNat 0, .ofNat 32), (2, .ofNat 1, .ofNat 0), (0, .ofNat 0, .ofNat 0)), (2, 0, (1, .ofNat 1, .ofNat 0), (0, .ofNat 0, .ofNat 0), (0, .ofNat 0, .ofNat 0)), (0, 122, (0, .ofNat 0, .ofNat 28), (1, .ofNat 1, .ofNat 0), (0, .ofNat 0, .ofNat 0))], [(1, [(.ofNat 0, .ofNat 0)]), (2, [(.ofNat 0, .ofNat 0)]), (3, [(.ofNat 0, .ofNat 0)])], [], [])]
set_option maxRecDepth 1000000 in
theorem sg_hs_b_g : sg_go [] [41, 85] 3000 214 19 0 1 [(0, [(.ofNat 0, .ofNat 0)])] [] [] [] [(0, .inr (.inl [122]))] [] [(122, some 26), (122, some 27), (122, some 34)] sg_hs_b_Z = true := by decide +kernel
set_option maxRecDepth 100000 in
theorem sg_hs_b {Q : Option Value × am_S → Prop} {d : Nat} {S : am_S} {L : am_L} (hd : 0 ≤ d) (hP : ax_P0 none S) (l0 : lc L 0 122)
    (k0 : ∀ (x1 x2 x3 : Int) (S' : am_S) (i1 : Int32), ax_P0 none S' → rd S' = sg_up (sg_up (rd S) 122 26 0) 122 27 x1 → rd S 122 28 = x1 → x1 ≠ 0 → 0 < x1 → (sg_up (sg_up (rd S) 122 26 0) 122 27 x1) 122 29 = x2 → (∃ a b : Int32, a.toInt = (-10) ∧ b.toInt = x2 ∧ (a - b).toInt = x3) → (1 ≤ x1 ∧ x1 ≤ 5) → i1.toInt = x3 → Q (some (.int i1), S'))
    (k1 : ∀ (x1 x2 : Int) (L' : am_L) (S' : am_S), ax_P0 none S' → rd S' = rd S → rd S 122 28 = x1 → x1 = 0 → rd S 122 32 = x2 → x2 ≠ 0 → (0 ≤ x1 ∧ x1 ≤ 0) → (1 ≤ x2 ∧ x2 ≤ 3) → lc L' 0 122 → am_V none d 214 41 L' ((.ref 122) :: []) S' Q)
    (k2 : ∀ (x1 x2 x3 : Int) (L' : am_L) (S' : am_S), ax_P0 none S' → rd S' = sg_up (sg_up (sg_up (rd S) 122 26 0) 122 27 0) 122 34 x3 → rd S 122 28 = x1 → x1 = 0 → rd S 122 32 = x2 → x2 = 0 → rd S 122 38 = x3 → x3 ≠ 0 → (sg_up (rd S) 122 26 0) 122 28 = 0 → (0 ≤ x1 ∧ x1 ≤ 0) → (0 ≤ x2 ∧ x2 ≤ 0) → (1 ≤ x3 ∧ x3 ≤ 4) → lc L' 0 122 → li L' 1 0 → am_V none d 214 85 L' ([]) S' Q)
    (k3 : ∀ (x1 x2 x3 : Int) (L' : am_L) (S' : am_S), ax_P0 none S' → rd S' = rd S → rd S 122 28 = x1 → x1 = 0 → rd S 122 32 = x2 → x2 = 0 → rd S 122 38 = x3 → x3 = 0 → (0 ≤ x1 ∧ x1 ≤ 0) → (0 ≤ x2 ∧ x2 ≤ 0) → (0 ≤ x3 ∧ x3 ≤ 0) → lc L' 0 122 → am_V none d 214 41 L' ((.ref 122) :: []) S' Q) : am_V none d 214 19 L ([]) S Q := by
  refine sg_use sg_hs_b_g hd hP (sg_xs [0]) ⟨⟨Int.le_refl 0, Int.le_refl 0⟩, trivial⟩ trivial trivial trivial ⟨l0, trivial⟩ trivial ?_
  intro z hz x' L' st' S' hx hP' hW hL' hs' hJ hE' hT' hD'
  simp only [sg_hs_b_Z, List.mem_cons, List.not_mem_nil, or_false] at hz
  rcases hz with rfl | rfl | rfl | rfl
  · obtain ⟨f0, f1, -, -, f4, f5, f6, hσ⟩ := hJ
    obtain ⟨e0, -⟩ := hE'
    intro v hv
    subst hv
    cases v with
    | none => exact hs'.elim
    | some v1 =>
      obtain ⟨⟨i1, rfl, g1⟩, -⟩ := hs'
      exact k0 (x' 1) (x' 2) (x' 3) S' i1 hP' hσ f0 f1 f4 f5 f6 e0 g1
  · obtain ⟨f0, f1, f2, f3, hσ⟩ := hJ
    obtain ⟨e0, e1, -⟩ := hE'
    obtain ⟨p0, -⟩ := hL'
    obtain ⟨v1, r1, rfl, rfl, hs1⟩ := sg_tc hs'
    obtain rfl := sg_tn hs1
    exact k1 (x' 1) (x' 2) L' S' hP' hσ f0 f1 f2 f3 e0 e1 p0
  · obtain ⟨f0, f1, f2, f3, f4, f5, f6, -, -, -, hσ⟩ := hJ
    obtain ⟨e0, e1, e2, -⟩ := hE'
    obtain ⟨p0, p1, -⟩ := hL'
    obtain rfl := sg_tn hs'
    exact k2 (x' 1) (x' 2) (x' 3) L' S' hP' hσ f0 f1 f2 f3 f4 f5 f6 e0 e1 e2 p0 p1
  · obtain ⟨f0, f1, f2, f3, f4, f5, hσ⟩ := hJ
    obtain ⟨e0, e1, e2, -⟩ := hE'
    obtain ⟨p0, -⟩ := hL'
    obtain ⟨v1, r1, rfl, rfl, hs1⟩ := sg_tc hs'
    obtain rfl := sg_tn hs1
    exact k3 (x' 1) (x' 2) (x' 3) L' S' hP' hσ f0 f1 f2 f3 f4 f5 e0 e1 e2 p0
def sg_hs_c_Z : List sg_z := [(137, [(0, .inr (.inl [122])), (1, .inl (false, (1, .ofNat 1, .ofNat 0)))], [.inr (.inl [122])], [(2, 3, (1, .ofNat 1, .ofNat 0), (2, .ofNat 1, .ofNat 0), (0, .ofNat 0, .ofNat 0)), (0, 122, (0, .ofNat 0, .ofNat 38), (2, .ofNat 1, .ofNat 0), (0, .ofNat 0, .ofNat 0))], [(1, [(.ofNat 0, .ofNat 4)]), (2, [(.ofNat 0, .ofNat 4)])], [], []),
  (86, [(0, .inr (.inl [122])), (1, .inl (false, (1, .ofNat 1, .ofNat 1)))], [], [(1, 144, (1, .ofNat 1, .ofNat 0), (5, .ofNat 1, .ofNat 0), (0, .ofNat 0, .ofNat 0)), (0, 147, (1, .ofNat 1, .ofNat 0), (5, .ofNat 1, .ofNat 0), (0, .ofNat 0, .ofNat 0)), (1, 143, (1, .ofNat 1, .ofNat 0), (4, .ofNat 1, .ofNat 0), (0, .ofNat 0, .ofNat 0)), (0, 146, (1, .ofNat 1, .ofNat 0), (4, .ofNat 1, .ofNat 0), (0, .ofNat 0, .ofNat 0)), (1, 142, (1, .ofNat 1, .ofNat 0), (3, .ofNat 1, .ofNat 0), (0, .ofNat 0, .ofNat 0)), (0, 145, (1, .ofNat 1, .ofNat 0), (3, .ofNat 1, .ofNat 0), (0, .ofNat 0, .ofNat 0)), (2, 2, (1, .ofNat 1, .ofNat 0), (2, .ofNat 1, .ofNat 0), (0, .ofNat 0, .ofNat 0)), (0, 122, (0, .ofNat 0, .ofNat 38), (2, .ofNat 1, .ofNat 0), (0, .ofNat 0, .ofNat 0))], [(1, [(.ofNat 0, .ofNat 3)]), (2, [(.ofNat 1, .ofNat 4)]), (4, [(.ofNat 0, .ofNat 3)]), (5, [(.ofNat 0, .ofNat 14)])], [], [])]
set_option maxRecDepth 1000000 in
theorem sg_hs_c_g : sg_go [] [85, 136] 3000 214 85 0 2 [(0, [(.ofNat 0, .ofNat 0)]), (1, [(.ofNat 0, .ofNat 4)])] [] [] [] [(0, .inr (.inl [122])), (1, .inl (false, (1, .ofNat 1, .ofNat 0)))] [] [(142, none), (143, none), (144, none)] sg_hs_c_Z = true := by decide +kernel
set_option maxRecDepth 100000 in
theorem sg_hs_c {Q : Option Value × am_S → Prop} {d : Nat} {S : am_S} {L : am_L} {x1 : Int} (hd : 0 ≤ d) (hP : ax_P0 none S) (l0 : lc L 0 122) (l1 : li L 1 x1) (b1 : (0 ≤ x1 ∧ x1 ≤ 4))
    (k0 : ∀ (x2 : Int) (L' : am_L) (S' : am_S), ax_P0 none S' → rd S' = rd S → rd S 122 38 = x2 → x2 ≤ x1 → (0 ≤ x1 ∧ x1 ≤ 4) → (0 ≤ x2 ∧ x2 ≤ 4) → lc L' 0 122 → li L' 1 x1 → am_V none d 214 136 L' ((.ref 122) :: []) S' Q)
    (k1 : ∀ (x2 x3 x4 x5 : Int) (L' : am_L) (S' : am_S), ax_P0 none S' → rd S' = sg_up (sg_up (sg_up (rd S) 142 x1 x3) 143 x1 x4) 144 x1 x5 → rd S 122 38 = x2 → x1 < x2 → rd S 145 x1 = x3 → (sg_up (rd S) 142 x1 x3) 146 x1 = x4 → (sg_up (sg_up (rd S) 142 x1 x3) 143 x1 x4) 147 x1 = x5 → (0 ≤ x1 ∧ x1 ≤ 3) → (1 ≤ x2 ∧ x2 ≤ 4) → (0 ≤ x4 ∧ x4 ≤ 3) → (0 ≤ x5 ∧ x5 ≤ 14) → lc L' 0 122 → li L' 1 (x1 + 1) → am_V none d 214 85 L' ([]) S' Q) : am_V none d 214 85 L ([]) S Q := by
  refine sg_use sg_hs_c_g hd hP (sg_xs [0, x1]) ⟨⟨Int.le_refl 0, Int.le_refl 0⟩, b1, trivial⟩ trivial trivial trivial ⟨l0, l1, trivial⟩ trivial ?_
  intro z hz x' L' st' S' hx hP' hW hL' hs' hJ hE' hT' hD'
  have q1 : x' 1 = x1 := hx 1 (by decide)
  subst q1
  simp only [sg_hs_c_Z, List.mem_cons, List.not_mem_nil, or_false] at hz
  rcases hz with rfl | rfl
  · obtain ⟨f0, f1, hσ⟩ := hJ
    obtain ⟨e0, e1, -⟩ := hE'
    obtain ⟨p0, p1, -⟩ := hL'
    obtain ⟨v1, r1, rfl, rfl, hs1⟩ := sg_tc hs'
    obtain rfl := sg_tn hs1
    exact k0 (x' 2) L' S' hP' hσ f0 f1 e0 e1 p0 p1
  · obtain ⟨f0, f1, f2, f3, f4, hσ⟩ := hJ
    obtain ⟨e0, e1, e2, e3, -⟩ := hE'
    obtain ⟨p0, p1, -⟩ := hL'
    obtain rfl := sg_tn hs'
    exact k1 (x' 2) (x' 3) (x' 4) (x' 5) L' S' hP' hσ f0 f1 f2 f3 f4 e0 e1 e2 e3 p0 p1
def sg_xs_a_Z : List sg_z := [(5, [(0, .inr (.inl [0]))], [.inr (.inl [45])], [], [], [], [])]
set_option maxRecDepth 1000000 in
theorem sg_xs_a_g : sg_go [] [4] 3000 119 0 0 1 [(0, [(.ofNat 0, .ofNat 0)])] [] [] [] [(0, .inr (.inl [0]))] [] [] sg_xs_a_Z = true := by decide +kernel
set_option maxRecDepth 100000 in
theorem sg_xs_a {Q : Option Value × am_S → Prop} {d : Nat} {S : am_S} {L : am_L} (hd : 0 ≤ d) (hP : ax_P0 none S) (l0 : lc L 0 0)
    (k0 : ∀ (L' : am_L), lc L' 0 0 → am_V none d 119 4 L' ((.ref 45) :: []) S Q) : am_V none d 119 0 L ([]) S Q := by
  refine sg_use sg_xs_a_g hd hP (sg_xs [0]) ⟨⟨Int.le_refl 0, Int.le_refl 0⟩, trivial⟩ trivial trivial trivial ⟨l0, trivial⟩ trivial ?_
  intro z hz x' L' st' S' hx hP' hW hL' hs' hJ hE' hT' hD'
  have eS : S' = S := hW.1 rfl
  subst eS
  simp only [sg_xs_a_Z, List.mem_cons, List.not_mem_nil, or_false] at hz
  rcases hz with rfl
  · have hσ := hJ
    obtain ⟨p0, -⟩ := hL'
    obtain ⟨v1, r1, rfl, rfl, hs1⟩ := sg_tc hs'
    obtain rfl := sg_tn hs1
    exact k0 L' p0
def sg_xs_b_Z : List sg_z := [(36, [(0, .inr (.inl [0])), (1, .inl (false, (0, .ofNat 0, .ofNat 1)))], [.inr (.inl [50])], [(2, 1, (1, .ofNat 1, .ofNat 0), (0, .ofNat 0, .ofNat 0), (0, .ofNat 0, .ofNat 0)), (1, 45, (0, .ofNat 0, .ofNat 0), (0, .ofNat 0, .ofNat 0), (0, .ofNat 0, .ofNat 0))], [(1, [(.ofNat 1, .ofNat 1)])], [], []),
  (0, [], [.inl (false, (3, .ofNat 1, .ofNat 0))], [(3, 10, (0, .ofNat 0, .negSucc 9), (2, .ofNat 1, .ofNat 0), (3, .ofNat 1, .ofNat 0)), (0, 45, (0, .ofNat 0, .ofNat 8), (2, .ofNat 1, .ofNat 0), (0, .ofNat 0, .ofNat 0)), (2, 0, (1, .ofNat 1, .ofNat 0), (0, .ofNat 0, .ofNat 0), (0, .ofNat 0, .ofNat 0)), (1, 45, (0, .ofNat 0, .ofNat 0), (0, .ofNat 0, .ofNat 0), (0, .ofNat 0, .ofNat 0))], [(1, [(.ofNat 0, .ofNat 0)])], [], [])]
set_option maxRecDepth 1000000 in
theorem sg_xs_b_g : sg_go [] [35] 3000 119 7 0 2 [(0, [(.ofNat 0, .ofNat 0)]), (1, [(.ofNat 0, .ofNat 1)])] [] [] [] [(0, .inr (.inl [0]))] [.inl (false, (1, .ofNat 1, .ofNat 0))] [(45, some 0)] sg_xs_b_Z = true := by decide +kernel
set_option maxRecDepth 100000 in
theorem sg_xs_b {Q : Option Value × am_S → Prop} {d : Nat} {S : am_S} {L : am_L} {x1 : Int} {i1 : Int32} (hd : 0 ≤ d) (hP : ax_P0 none S) (l0 : lc L 0 0) (b1 : (0 ≤ x1 ∧ x1 ≤ 1)) (s1 : i1.toInt = x1)
    (k0 : ∀ (L' : am_L) (S' : am_S), ax_P0 none S' → rd S' = sg_up (rd S) 45 0 0 → x1 ≠ 0 → (1 ≤ x1 ∧ x1 ≤ 1) → lc L' 0 0 → li L' 1 1 → am_V none d 119 35 L' ((.ref 50) :: []) S' Q)
    (k1 : ∀ (x2 x3 : Int) (S' : am_S) (i1 : Int32), ax_P0 none S' → rd S' = sg_up (rd S) 45 0 0 → x1 = 0 → (sg_up (rd S) 45 0 0) 45 8 = x2 → (∃ a b : Int32, a.toInt = (-10) ∧ b.toInt = x2 ∧ (a - b).toInt = x3) → (0 ≤ x1 ∧ x1 ≤ 0) → i1.toInt = x3 → Q (some (.int i1), S')) : am_V none d 119 7 L ((.int i1) :: []) S Q := by
  refine sg_use sg_xs_b_g hd hP (sg_xs [0, x1]) ⟨⟨Int.le_refl 0, Int.le_refl 0⟩, b1, trivial⟩ trivial trivial trivial ⟨l0, trivial⟩ ⟨⟨_, rfl, s1⟩, trivial⟩ ?_
  intro z hz x' L' st' S' hx hP' hW hL' hs' hJ hE' hT' hD'
  have q1 : x' 1 = x1 := hx 1 (by decide)
  subst q1
  simp only [sg_xs_b_Z, List.mem_cons, List.not_mem_nil, or_false] at hz
  rcases hz with rfl | rfl
  · obtain ⟨f0, hσ⟩ := hJ
    obtain ⟨e0, -⟩ := hE'
    obtain ⟨p0, p1, -⟩ := hL'
    obtain ⟨v1, r1, rfl, rfl, hs1⟩ := sg_tc hs'
    obtain rfl := sg_tn hs1
    exact k0 L' S' hP' hσ f0 e0 p0 p1
  · obtain ⟨f0, f1, f2, hσ⟩ := hJ
    obtain ⟨e0, -⟩ := hE'
    intro v hv
    subst hv
    cases v with
    | none => exact hs'.elim
    | some v1 =>
      obtain ⟨⟨i1, rfl, g1⟩, -⟩ := hs'
      exact k1 (x' 2) (x' 3) S' i1 hP' hσ f0 f1 f2 e0 g1
def sg_xs_c_Z : List sg_z := [(41, [(0, .inr (.inl [0])), (2, .inl (false, (0, .ofNat 0, .ofNat 0)))], [], [], [], [], [])]
set_option maxRecDepth 1000000 in
theorem sg_xs_c_g : sg_go [] [40] 3000 119 38 0 1 [(0, [(.ofNat 0, .ofNat 0)])] [] [] [] [(0, .inr (.inl [0]))] [] [] sg_xs_c_Z = true := by decide +kernel
set_option maxRecDepth 100000 in
theorem sg_xs_c {Q : Option Value × am_S → Prop} {d : Nat} {S : am_S} {L : am_L} (hd : 0 ≤ d) (hP : ax_P0 none S) (l0 : lc L 0 0)
    (k0 : ∀ (L' : am_L), lc L' 0 0 → li L' 2 0 → am_V none d 119 40 L' ([]) S Q) : am_V none d 119 38 L ([]) S Q := by
  refine sg_use sg_xs_c_g hd hP (sg_xs [0]) ⟨⟨Int.le_refl 0, Int.le_refl 0⟩, trivial⟩ trivial trivial trivial ⟨l0, trivial⟩ trivial ?_
  intro z hz x' L' st' S' hx hP' hW hL' hs' hJ hE' hT' hD'
  have eS : S' = S := hW.1 rfl
  subst eS
  simp only [sg_xs_c_Z, List.mem_cons, List.not_mem_nil, or_false] at hz
  rcases hz with rfl
  · have hσ := hJ
    obtain ⟨p0, p1, -⟩ := hL'
    obtain rfl := sg_tn hs'
    exact k0 L' p0 p1
def sg_xs_d_Z : List sg_z := [(94, [(0, .inr (.inl [0])), (2, .inl (false, (1, .ofNat 1, .ofNat 0)))], [.inl (false, (2, .ofNat 1, .ofNat 0)), .inr (.inl [50])], [(0, 45, (0, .ofNat 0, .ofNat 2), (2, .ofNat 1, .ofNat 0), (0, .ofNat 0, .ofNat 0)), (2, 3, (1, .ofNat 1, .ofNat 0), (2, .ofNat 1, .ofNat 0), (0, .ofNat 0, .ofNat 0)), (0, 45, (0, .ofNat 0, .ofNat 2), (2, .ofNat 1, .ofNat 0), (0, .ofNat 0, .ofNat 0))], [(1, [(.ofNat 0, .ofNat 4)]), (2, [(.ofNat 0, .ofNat 4)])], [], []),
  (74, [(0, .inr (.inl [0])), (2, .inl (false, (1, .ofNat 1, .ofNat 0)))], [.inl (false, (4, .ofNat 1, .ofNat 0)), .inl (false, (3, .ofNat 1, .ofNat 0)), .inr (.inl [50])], [(0, 49, (1, .ofNat 1, .ofNat 0), (4, .ofNat 1, .ofNat 0), (0, .ofNat 0, .ofNat 0)), (0, 48, (1, .ofNat 1, .ofNat 0), (3, .ofNat 1, .ofNat 0), (0, .ofNat 0, .ofNat 0)), (2, 2, (1, .ofNat 1, .ofNat 0), (2, .ofNat 1, .ofNat 0), (0, .ofNat 0, .ofNat 0)), (0, 45, (0, .ofNat 0, .ofNat 2), (2, .ofNat 1, .ofNat 0), (0, .ofNat 0, .ofNat 0))], [(1, [(.ofNat 0, .ofNat 3)]), (2, [(.ofNat 1, .ofNat 4)]), (3, [(.negSucc 0, .ofNat 99)]), (4, [(.ofNat 0, .ofNat 12)])], [], [])]
set_option maxRecDepth 1000000 in
theorem sg_xs_d_g : sg_go [] [73, 93] 3000 119 40 0 2 [(0, [(.ofNat 0, .ofNat 0)]), (1, [(.ofNat 0, .ofNat 4)])] [] [] [] [(0, .inr (.inl [0])), (2, .inl (false, (1, .ofNat 1, .ofNat 0)))] [] [] sg_xs_d_Z = true := by decide +kernel
set_option maxRecDepth 100000 in
theorem sg_xs_d {Q : Option Value × am_S → Prop} {d : Nat} {S : am_S} {L : am_L} {x1 : Int} (hd : 0 ≤ d) (hP : ax_P0 none S) (l0 : lc L 0 0) (l2 : li L 2 x1) (b1 : (0 ≤ x1 ∧ x1 ≤ 4))
    (k0 : ∀ (x2 : Int) (L' : am_L) (i1 : Int32), rd S 45 2 = x2 → x2 ≤ x1 → (0 ≤ x1 ∧ x1 ≤ 4) → (0 ≤ x2 ∧ x2 ≤ 4) → lc L' 0 0 → li L' 2 x1 → i1.toInt = x2 → am_V none d 119 93 L' ((.int i1) :: (.ref 50) :: []) S Q)
    (k1 : ∀ (x2 x3 x4 : Int) (L' : am_L) (i1 : Int32) (i2 : Int32), rd S 45 2 = x2 → x1 < x2 → rd S 48 x1 = x3 → rd S 49 x1 = x4 → (0 ≤ x1 ∧ x1 ≤ 3) → (1 ≤ x2 ∧ x2 ≤ 4) → ((-1) ≤ x3 ∧ x3 ≤ 99) → (0 ≤ x4 ∧ x4 ≤ 12) → lc L' 0 0 → li L' 2 x1 → i1.toInt = x4 → i2.toInt = x3 → am_V none d 119 73 L' ((.int i1) :: (.int i2) :: (.ref 50) :: []) S Q) : am_V none d 119 40 L ([]) S Q := by
  refine sg_use sg_xs_d_g hd hP (sg_xs [0, x1]) ⟨⟨Int.le_refl 0, Int.le_refl 0⟩, b1, trivial⟩ trivial trivial trivial ⟨l0, l2, trivial⟩ trivial ?_
  intro z hz x' L' st' S' hx hP' hW hL' hs' hJ hE' hT' hD'
  have q1 : x' 1 = x1 := hx 1 (by decide)
  subst q1
  have eS : S' = S := hW.1 rfl
  subst eS
  simp only [sg_xs_d_Z, List.mem_cons, List.not_mem_nil, or_false] at hz
  rcases hz with rfl | rfl
  · obtain ⟨f0, f1, -, hσ⟩ := hJ
    obtain ⟨e0, e1, -⟩ := hE'
    obtain ⟨p0, p1, -⟩ := hL'
    obtain ⟨v1, r1, rfl, ⟨i1, rfl, g1⟩, hs1⟩ := sg_tc hs'
    obtain ⟨v2, r2, rfl, rfl, hs2⟩ := sg_tc hs1
    obtain rfl := sg_tn hs2
    exact k0 (x' 2) L' i1 f0 f1 e0 e1 p0 p1 g1
  · obtain ⟨f0, f1, f2, f3, hσ⟩ := hJ
    obtain ⟨e0, e1, e2, e3, -⟩ := hE'
    obtain ⟨p0, p1, -⟩ := hL'
    obtain ⟨v1, r1, rfl, ⟨i1, rfl, g1⟩, hs1⟩ := sg_tc hs'
    obtain ⟨v2, r2, rfl, ⟨i2, rfl, g2⟩, hs2⟩ := sg_tc hs1
    obtain ⟨v3, r3, rfl, rfl, hs3⟩ := sg_tc hs2
    obtain rfl := sg_tn hs3
    exact k1 (x' 2) (x' 3) (x' 4) L' i1 i2 f0 f1 f2 f3 e0 e1 e2 e3 p0 p1 g1 g2
def sg_xs_e_Z : List sg_z := [(41, [(0, .inr (.inl [0])), (2, .inl (false, (1, .ofNat 1, .ofNat 1)))], [], [], [(1, [(.ofNat 0, .ofNat 3)])], [], [])]
set_option maxRecDepth 1000000 in
theorem sg_xs_e_g : sg_go [] [40] 3000 119 76 0 2 [(0, [(.ofNat 0, .ofNat 0)]), (1, [(.ofNat 0, .ofNat 3)])] [] [] [] [(0, .inr (.inl [0])), (2, .inl (false, (1, .ofNat 1, .ofNat 0)))] [] [] sg_xs_e_Z = true := by decide +kernel
set_option maxRecDepth 100000 in
theorem sg_xs_e {Q : Option Value × am_S → Prop} {d : Nat} {S : am_S} {L : am_L} {x1 : Int} (hd : 0 ≤ d) (hP : ax_P0 none S) (l0 : lc L 0 0) (l2 : li L 2 x1) (b1 : (0 ≤ x1 ∧ x1 ≤ 3))
    (k0 : ∀ (L' : am_L), (0 ≤ x1 ∧ x1 ≤ 3) → lc L' 0 0 → li L' 2 (x1 + 1) → am_V none d 119 40 L' ([]) S Q) : am_V none d 119 76 L ([]) S Q := by
  refine sg_use sg_xs_e_g hd hP (sg_xs [0, x1]) ⟨⟨Int.le_refl 0, Int.le_refl 0⟩, b1, trivial⟩ trivial trivial trivial ⟨l0, l2, trivial⟩ trivial ?_
  intro z hz x' L' st' S' hx hP' hW hL' hs' hJ hE' hT' hD'
  have q1 : x' 1 = x1 := hx 1 (by decide)
  subst q1
  have eS : S' = S := hW.1 rfl
  subst eS
  simp only [sg_xs_e_Z, List.mem_cons, List.not_mem_nil, or_false] at hz
  rcases hz with rfl
  · have hσ := hJ
    obtain ⟨e0, -⟩ := hE'
    obtain ⟨p0, p1, -⟩ := hL'
    obtain rfl := sg_tn hs'
    exact k0 L' e0 p0 p1
def sg_xs_f_Z : List sg_z := [(0, [], [.inl (false, (1, .ofNat 1, .ofNat 0))], [(0, 50, (0, .ofNat 0, .ofNat 1), (1, .ofNat 1, .ofNat 0), (0, .ofNat 0, .ofNat 0))], [], [], [])]
set_option maxRecDepth 1000000 in
theorem sg_xs_f_g : sg_go [] [] 3000 119 96 0 1 [(0, [(.ofNat 0, .ofNat 0)])] [] [] [] [(0, .inr (.inl [0]))] [] [] sg_xs_f_Z = true := by decide +kernel
set_option maxRecDepth 100000 in
theorem sg_xs_f {Q : Option Value × am_S → Prop} {d : Nat} {S : am_S} {L : am_L} (hd : 0 ≤ d) (hP : ax_P0 none S) (l0 : lc L 0 0)
    (k0 : ∀ (x1 : Int) (i1 : Int32), rd S 50 1 = x1 → i1.toInt = x1 → Q (some (.int i1), S)) : am_V none d 119 96 L ([]) S Q := by
  refine sg_use sg_xs_f_g hd hP (sg_xs [0]) ⟨⟨Int.le_refl 0, Int.le_refl 0⟩, trivial⟩ trivial trivial trivial ⟨l0, trivial⟩ trivial ?_
  intro z hz x' L' st' S' hx hP' hW hL' hs' hJ hE' hT' hD'
  have eS : S' = S := hW.1 rfl
  subst eS
  simp only [sg_xs_f_Z, List.mem_cons, List.not_mem_nil, or_false] at hz
  rcases hz with rfl
  · obtain ⟨f0, hσ⟩ := hJ
    intro v hv
    subst hv
    cases v with
    | none => exact hs'.elim
    | some v1 =>
      obtain ⟨⟨i1, rfl, g1⟩, -⟩ := hs'
      exact k0 (x' 1) i1 f0 g1
def sg_fz_a_Z : List sg_z := [(36, [(0, .inr (.inl [50])), (1, .inl (false, (1, .ofNat 1, .ofNat 0))), (2, .inl (false, (2, .ofNat 1, .ofNat 0))), (3, .inl (false, (1, .ofNat 2, .ofNat 1)))], [.inl (false, (1, .ofNat 1, .ofNat 0)), .inr (.inl [50])], [(2, 5, (4, .ofNat 1, .ofNat 0), (0, .ofNat 0, .ofNat 12), (0, .ofNat 0, .ofNat 0)), (0, 50, (0, .ofNat 0, .ofNat 7), (3, .ofNat 1, .ofNat 0), (0, .ofNat 0, .ofNat 0)), (2, 3, (2, .ofNat 1, .ofNat 0), (0, .ofNat 0, .ofNat 1), (0, .ofNat 0, .ofNat 0)), (2, 5, (1, .ofNat 2, .ofNat 1), (0, .ofNat 0, .ofNat 7), (0, .ofNat 0, .ofNat 0)), (2, 3, (1, .ofNat 1, .ofNat 0), (0, .ofNat 0, .ofNat 0), (0, .ofNat 0, .ofNat 0))], [(1, [(.ofNat 0, .ofNat 3)]), (2, [(.ofNat 1, .ofNat 12)]), (3, [(.ofNat 0, .ofNat 12)]), (4, [(.ofNat 1, .ofNat 12)])], [((3, .ofNat 1, .ofNat 0), (2, .ofNat 1, .ofNat 0), (4, .ofNat 1, .ofNat 0))], []),
  (0, [], [], [(2, 4, (4, .ofNat 1, .ofNat 0), (0, .ofNat 0, .ofNat 12), (0, .ofNat 0, .ofNat 0)), (0, 50, (0, .ofNat 0, .ofNat 7), (3, .ofNat 1, .ofNat 0), (0, .ofNat 0, .ofNat 0)), (2, 3, (2, .ofNat 1, .ofNat 0), (0, .ofNat 0, .ofNat 1), (0, .ofNat 0, .ofNat 0)), (2, 5, (1, .ofNat 2, .ofNat 1), (0, .ofNat 0, .ofNat 7), (0, .ofNat 0, .ofNat 0)), (2, 3, (1, .ofNat 1, .ofNat 0), (0, .ofNat 0, .ofNat 0), (0, .ofNat 0, .ofNat 0))], [(1, [(.ofNat 0, .ofNat 3)]), (2, [(.ofNat 1, .ofNat 12)]), (3, [(.ofNat 0, .ofNat 12)]), (4, [(.ofNat 13, .ofNat 24)])], [((3, .ofNat 1, .ofNat 0), (2, .ofNat 1, .ofNat 0), (4, .ofNat 1, .ofNat 0))], [])]
set_option maxRecDepth 1000000 in
theorem sg_fz_a_g : sg_go [] [35] 3000 14 0 0 3 [(0, [(.ofNat 0, .ofNat 0)]), (1, [(.ofNat 0, .ofNat 3)]), (2, [(.ofNat 1, .ofNat 12)])] [] [] [] [(0, .inr (.inl [50])), (1, .inl (false, (1, .ofNat 1, .ofNat 0))), (2, .inl (false, (2, .ofNat 1, .ofNat 0)))] [] [] sg_fz_a_Z = true := by decide +kernel
set_option maxRecDepth 100000 in
theorem sg_fz_a {Q : Option Value × am_S → Prop} {d : Nat} {S : am_S} {L : am_L} {x1 x2 : Int} (hd : 0 ≤ d) (hP : ax_P0 none S) (l0 : lc L 0 50) (l1 : li L 1 x1) (l2 : li L 2 x2) (b1 : (0 ≤ x1 ∧ x1 ≤ 3)) (b2 : (1 ≤ x2 ∧ x2 ≤ 12))
    (k0 : ∀ (x3 x4 : Int) (L' : am_L) (i1 : Int32), 0 ≤ x1 → 2 * x1 + 1 ≤ 7 → 1 ≤ x2 → rd S 50 7 = x3 → x4 ≤ 12 → (0 ≤ x1 ∧ x1 ≤ 3) → (1 ≤ x2 ∧ x2 ≤ 12) → (0 ≤ x3 ∧ x3 ≤ 12) → (1 ≤ x4 ∧ x4 ≤ 12) → x3 + x2 = x4 → lc L' 0 50 → li L' 1 x1 → li L' 2 x2 → li L' 3 (2 * x1 + 1) → i1.toInt = x1 → am_V none d 14 35 L' ((.int i1) :: (.ref 50) :: []) S Q)
    (k1 : ∀ (x3 x4 : Int), 0 ≤ x1 → 2 * x1 + 1 ≤ 7 → 1 ≤ x2 → rd S 50 7 = x3 → 12 < x4 → (0 ≤ x1 ∧ x1 ≤ 3) → (1 ≤ x2 ∧ x2 ≤ 12) → (0 ≤ x3 ∧ x3 ≤ 12) → (13 ≤ x4 ∧ x4 ≤ 24) → x3 + x2 = x4 → Q (none, S)) : am_V none d 14 0 L ([]) S Q := by
  refine sg_use sg_fz_a_g hd hP (sg_xs [0, x1, x2]) ⟨⟨Int.le_refl 0, Int.le_refl 0⟩, b1, b2, trivial⟩ trivial trivial trivial ⟨l0, l1, l2, trivial⟩ trivial ?_
  intro z hz x' L' st' S' hx hP' hW hL' hs' hJ hE' hT' hD'
  have q1 : x' 1 = x1 := hx 1 (by decide)
  subst q1
  have q2 : x' 2 = x2 := hx 2 (by decide)
  subst q2
  have eS : S' = S := hW.1 rfl
  subst eS
  simp only [sg_fz_a_Z, List.mem_cons, List.not_mem_nil, or_false] at hz
  rcases hz with rfl | rfl
  · obtain ⟨f0, f1, f2, f3, f4, hσ⟩ := hJ
    obtain ⟨e0, e1, e2, e3, -⟩ := hE'
    obtain ⟨t0, -⟩ := hT'
    obtain ⟨p0, p1, p2, p3, -⟩ := hL'
    obtain ⟨v1, r1, rfl, ⟨i1, rfl, g1⟩, hs1⟩ := sg_tc hs'
    obtain ⟨v2, r2, rfl, rfl, hs2⟩ := sg_tc hs1
    obtain rfl := sg_tn hs2
    exact k0 (x' 3) (x' 4) L' i1 f0 f1 f2 f3 f4 e0 e1 e2 e3 t0 p0 p1 p2 p3 g1
  · obtain ⟨f0, f1, f2, f3, f4, hσ⟩ := hJ
    obtain ⟨e0, e1, e2, e3, -⟩ := hE'
    obtain ⟨t0, -⟩ := hT'
    intro v hv
    subst hv
    cases v with
    | some _ => exact hs'.elim
    | none =>
      exact k1 (x' 3) (x' 4) f0 f1 f2 f3 f4 e0 e1 e2 e3 t0
def sg_fz_b_Z : List sg_z := [(44, [(0, .inr (.inl [50])), (1, .inl (false, (1, .ofNat 1, .ofNat 0))), (2, .inl (false, (2, .ofNat 1, .ofNat 0))), (3, .inl (false, (3, .ofNat 1, .ofNat 0)))], [.inl (true, (0, .ofNat 0, .ofNat 0)), .inr (.inl [52])], [], [(1, [(.ofNat 0, .ofNat 3)]), (2, [(.ofNat 1, .ofNat 12)]), (3, [(.ofNat 1, .ofNat 7)])], [], [])]
set_option maxRecDepth 1000000 in
theorem sg_fz_b_g : sg_go [] [43] 3000 14 38 0 4 [(0, [(.ofNat 0, .ofNat 0)]), (1, [(.ofNat 0, .ofNat 3)]), (2, [(.ofNat 1, .ofNat 12)]), (3, [(.ofNat 1, .ofNat 7)])] [] [] [] [(0, .inr (.inl [50])), (1, .inl (false, (1, .ofNat 1, .ofNat 0))), (2, .inl (false, (2, .ofNat 1, .ofNat 0))), (3, .inl (false, (3, .ofNat 1, .ofNat 0)))] [] [] sg_fz_b_Z = true := by decide +kernel
set_option maxRecDepth 100000 in
theorem sg_fz_b {Q : Option Value × am_S → Prop} {d : Nat} {S : am_S} {L : am_L} {x1 x2 x3 : Int} (hd : 0 ≤ d) (hP : ax_P0 none S) (l0 : lc L 0 50) (l1 : li L 1 x1) (l2 : li L 2 x2) (l3 : li L 3 x3) (b1 : (0 ≤ x1 ∧ x1 ≤ 3)) (b2 : (1 ≤ x2 ∧ x2 ≤ 12)) (b3 : (1 ≤ x3 ∧ x3 ≤ 7))
    (k0 : ∀ (L' : am_L) (i1 : Int64), (0 ≤ x1 ∧ x1 ≤ 3) → (1 ≤ x2 ∧ x2 ≤ 12) → (1 ≤ x3 ∧ x3 ≤ 7) → lc L' 0 50 → li L' 1 x1 → li L' 2 x2 → li L' 3 x3 → i1.toInt = 0 → am_V none d 14 43 L' ((.long i1) :: (.ref 52) :: []) S Q) : am_V none d 14 38 L ([]) S Q := by
  refine sg_use sg_fz_b_g hd hP (sg_xs [0, x1, x2, x3]) ⟨⟨Int.le_refl 0, Int.le_refl 0⟩, b1, b2, b3, trivial⟩ trivial trivial trivial ⟨l0, l1, l2, l3, trivial⟩ trivial ?_
  intro z hz x' L' st' S' hx hP' hW hL' hs' hJ hE' hT' hD'
  have q1 : x' 1 = x1 := hx 1 (by decide)
  subst q1
  have q2 : x' 2 = x2 := hx 2 (by decide)
  subst q2
  have q3 : x' 3 = x3 := hx 3 (by decide)
  subst q3
  have eS : S' = S := hW.1 rfl
  subst eS
  simp only [sg_fz_b_Z, List.mem_cons, List.not_mem_nil, or_false] at hz
  rcases hz with rfl
  · have hσ := hJ
    obtain ⟨e0, e1, e2, -⟩ := hE'
    obtain ⟨p0, p1, p2, p3, -⟩ := hL'
    obtain ⟨v1, r1, rfl, ⟨i1, rfl, g1⟩, hs1⟩ := sg_tc hs'
    obtain ⟨v2, r2, rfl, rfl, hs2⟩ := sg_tc hs1
    obtain rfl := sg_tn hs2
    exact k0 L' i1 e0 e1 e2 p0 p1 p2 p3 g1
def sg_fz_c_Z : List sg_z := [(56, [(0, .inr (.inl [50])), (1, .inl (false, (1, .ofNat 1, .ofNat 0))), (2, .inl (false, (2, .ofNat 1, .ofNat 0))), (3, .inl (false, (3, .ofNat 1, .ofNat 0))), (4, .inl (false, (4, .ofNat 1, .ofNat 0)))], [], [(2, 2, (0, .ofNat 0, .ofNat 0), (4, .ofNat 1, .ofNat 0), (0, .ofNat 0, .ofNat 0))], [(1, [(.ofNat 0, .ofNat 3)]), (2, [(.ofNat 1, .ofNat 12)]), (3, [(.ofNat 1, .ofNat 7)]), (4, [(.ofNat 1, .ofNat 11)])], [((2, .ofNat 1, .ofNat 0), (3, .negSucc 0, .ofNat 0), (4, .ofNat 1, .ofNat 0))], []),
  (56, [(0, .inr (.inl [50])), (1, .inl (false, (1, .ofNat 1, .ofNat 0))), (2, .inl (false, (2, .ofNat 1, .ofNat 0))), (3, .inl (false, (3, .ofNat 1, .ofNat 0))), (4, .inl (false, (0, .ofNat 0, .ofNat 0)))], [], [(2, 3, (0, .ofNat 0, .ofNat 0), (4, .ofNat 1, .ofNat 0), (0, .ofNat 0, .ofNat 0))], [(1, [(.ofNat 0, .ofNat 3)]), (2, [(.ofNat 1, .ofNat 12)]), (3, [(.ofNat 1, .ofNat 7)]), (4, [(.negSucc 5, .ofNat 0)])], [((2, .ofNat 1, .ofNat 0), (3, .negSucc 0, .ofNat 0), (4, .ofNat 1, .ofNat 0))], [])]
set_option maxRecDepth 1000000 in
theorem sg_fz_c_g : sg_go [] [55] 3000 14 46 1 4 [(0, [(.ofNat 0, .ofNat 0)]), (1, [(.ofNat 0, .ofNat 3)]), (2, [(.ofNat 1, .ofNat 12)]), (3, [(.ofNat 1, .ofNat 7)])] [] [] [] [(0, .inr (.inl [50])), (1, .inl (false, (1, .ofNat 1, .ofNat 0))), (2, .inl (false, (2, .ofNat 1, .ofNat 0))), (3, .inl (false, (3, .ofNat 1, .ofNat 0)))] [] [] sg_fz_c_Z = true := by decide +kernel
set_option maxRecDepth 100000 in
theorem sg_fz_c {Q : Option Value × am_S → Prop} {d : Nat} {S : am_S} {L : am_L} {x1 x2 x3 : Int} (hd : 1 ≤ d) (hP : ax_P0 none S) (l0 : lc L 0 50) (l1 : li L 1 x1) (l2 : li L 2 x2) (l3 : li L 3 x3) (b1 : (0 ≤ x1 ∧ x1 ≤ 3)) (b2 : (1 ≤ x2 ∧ x2 ≤ 12)) (b3 : (1 ≤ x3 ∧ x3 ≤ 7))
    (k0 : ∀ (x4 : Int) (L' : am_L), 0 < x4 → (0 ≤ x1 ∧ x1 ≤ 3) → (1 ≤ x2 ∧ x2 ≤ 12) → (1 ≤ x3 ∧ x3 ≤ 7) → (1 ≤ x4 ∧ x4 ≤ 11) → x2 + ((-1) * x3 + 0) = x4 → lc L' 0 50 → li L' 1 x1 → li L' 2 x2 → li L' 3 x3 → li L' 4 x4 → am_V none d 14 55 L' ([]) S Q)
    (k1 : ∀ (x4 : Int) (L' : am_L), x4 ≤ 0 → (0 ≤ x1 ∧ x1 ≤ 3) → (1 ≤ x2 ∧ x2 ≤ 12) → (1 ≤ x3 ∧ x3 ≤ 7) → ((-6) ≤ x4 ∧ x4 ≤ 0) → x2 + ((-1) * x3 + 0) = x4 → lc L' 0 50 → li L' 1 x1 → li L' 2 x2 → li L' 3 x3 → li L' 4 0 → am_V none d 14 55 L' ([]) S Q) : am_V none d 14 46 L ([]) S Q := by
  refine sg_use sg_fz_c_g hd hP (sg_xs [0, x1, x2, x3]) ⟨⟨Int.le_refl 0, Int.le_refl 0⟩, b1, b2, b3, trivial⟩ trivial trivial trivial ⟨l0, l1, l2, l3, trivial⟩ trivial ?_
  intro z hz x' L' st' S' hx hP' hW hL' hs' hJ hE' hT' hD'
  have q1 : x' 1 = x1 := hx 1 (by decide)
  subst q1
  have q2 : x' 2 = x2 := hx 2 (by decide)
  subst q2
  have q3 : x' 3 = x3 := hx 3 (by decide)
  subst q3
  have eS : S' = S := hW.1 rfl
  subst eS
  simp only [sg_fz_c_Z, List.mem_cons, List.not_mem_nil, or_false] at hz
  rcases hz with rfl | rfl
  · obtain ⟨f0, hσ⟩ := hJ
    obtain ⟨e0, e1, e2, e3, -⟩ := hE'
    obtain ⟨t0, -⟩ := hT'
    obtain ⟨p0, p1, p2, p3, p4, -⟩ := hL'
    obtain rfl := sg_tn hs'
    exact k0 (x' 4) L' f0 e0 e1 e2 e3 t0 p0 p1 p2 p3 p4
  · obtain ⟨f0, hσ⟩ := hJ
    obtain ⟨e0, e1, e2, e3, -⟩ := hE'
    obtain ⟨t0, -⟩ := hT'
    obtain ⟨p0, p1, p2, p3, p4, -⟩ := hL'
    obtain rfl := sg_tn hs'
    exact k1 (x' 4) L' f0 e0 e1 e2 e3 t0 p0 p1 p2 p3 p4
def sg_fz_d_Z : List sg_z := [(95, [(0, .inr (.inl [50])), (1, .inl (false, (1, .ofNat 1, .ofNat 0))), (2, .inl (false, (2, .ofNat 1, .ofNat 0))), (3, .inl (false, (3, .ofNat 1, .ofNat 0))), (4, .inl (false, (4, .ofNat 1, .ofNat 0)))], [.inr (.inl [50])], [(2, 4, (4, .ofNat 1, .ofNat 0), (2, .ofNat 1, .ofNat 0), (0, .ofNat 0, .ofNat 0))], [(1, [(.ofNat 0, .ofNat 3)]), (2, [(.ofNat 1, .ofNat 11)]), (3, [(.ofNat 1, .ofNat 7)]), (4, [(.ofNat 2, .ofNat 12)])], [], []),
  (95, [(0, .inr (.inl [50])), (1, .inl (false, (1, .ofNat 1, .ofNat 0))), (2, .inl (false, (2, .ofNat 1, .ofNat 0))), (3, .inl (false, (3, .ofNat 1, .ofNat 0))), (4, .inl (false, (4, .ofNat 1, .ofNat 0)))], [.inr (.inl [50])], [(2, 4, (4, .ofNat 1, .ofNat 0), (3, .ofNat 1, .ofNat 0), (0, .ofNat 0, .ofNat 0)), (2, 5, (4, .ofNat 1, .ofNat 0), (2, .ofNat 1, .ofNat 0), (0, .ofNat 0, .ofNat 0))], [(1, [(.ofNat 0, .ofNat 3)]), (2, [(.ofNat 1, .ofNat 12)]), (3, [(.ofNat 1, .ofNat 7)]), (4, [(.ofNat 2, .ofNat 12)])], [], []),
  (75, [(0, .inr (.inl [50])), (1, .inl (false, (1, .ofNat 1, .ofNat 0))), (2, .inl (false, (2, .ofNat 1, .ofNat 0))), (3, .inl (false, (3, .ofNat 1, .ofNat 0))), (4, .inl (false, (4, .ofNat 1, .ofNat 0)))], [.inl (false, (5, .ofNat 1, .ofNat 0)), .inl (false, (4, .ofNat 1, .ofNat 0)), .inr (.inl [50])], [(2, 5, (4, .ofNat 1, .ofNat 0), (3, .ofNat 1, .ofNat 0), (0, .ofNat 0, .ofNat 0)), (2, 5, (4, .ofNat 1, .ofNat 0), (2, .ofNat 1, .ofNat 0), (0, .ofNat 0, .ofNat 0))], [(1, [(.ofNat 0, .ofNat 3)]), (2, [(.ofNat 1, .ofNat 12)]), (3, [(.ofNat 1, .ofNat 7)]), (4, [(.ofNat 0, .ofNat 7)]), (5, [(.negSucc 5, .ofNat 12)])], [((2, .ofNat 1, .ofNat 0), (4, .negSucc 0, .ofNat 0), (5, .ofNat 1, .ofNat 0))], [])]
set_option maxRecDepth 1000000 in
theorem sg_fz_d_g : sg_go [] [74, 94] 3000 14 55 0 5 [(0, [(.ofNat 0, .ofNat 0)]), (1, [(.ofNat 0, .ofNat 3)]), (2, [(.ofNat 1, .ofNat 12)]), (3, [(.ofNat 1, .ofNat 7)]), (4, [(.ofNat 0, .ofNat 12)])] [] [] [] [(0, .inr (.inl [50])), (1, .inl (false, (1, .ofNat 1, .ofNat 0))), (2, .inl (false, (2, .ofNat 1, .ofNat 0))), (3, .inl (false, (3, .ofNat 1, .ofNat 0))), (4, .inl (false, (4, .ofNat 1, .ofNat 0)))] [] [] sg_fz_d_Z = true := by decide +kernel
set_option maxRecDepth 100000 in
theorem sg_fz_d {Q : Option Value × am_S → Prop} {d : Nat} {S : am_S} {L : am_L} {x1 x2 x3 x4 : Int} (hd : 0 ≤ d) (hP : ax_P0 none S) (l0 : lc L 0 50) (l1 : li L 1 x1) (l2 : li L 2 x2) (l3 : li L 3 x3) (l4 : li L 4 x4) (b1 : (0 ≤ x1 ∧ x1 ≤ 3)) (b2 : (1 ≤ x2 ∧ x2 ≤ 12)) (b3 : (1 ≤ x3 ∧ x3 ≤ 7)) (b4 : (0 ≤ x4 ∧ x4 ≤ 12))
    (k0 : ∀ (L' : am_L), x2 < x4 → (0 ≤ x1 ∧ x1 ≤ 3) → (1 ≤ x2 ∧ x2 ≤ 11) → (1 ≤ x3 ∧ x3 ≤ 7) → (2 ≤ x4 ∧ x4 ≤ 12) → lc L' 0 50 → li L' 1 x1 → li L' 2 x2 → li L' 3 x3 → li L' 4 x4 → am_V none d 14 94 L' ((.ref 50) :: []) S Q)
    (k1 : ∀ (L' : am_L), x4 ≤ x2 → x3 < x4 → (0 ≤ x1 ∧ x1 ≤ 3) → (1 ≤ x2 ∧ x2 ≤ 12) → (1 ≤ x3 ∧ x3 ≤ 7) → (2 ≤ x4 ∧ x4 ≤ 12) → lc L' 0 50 → li L' 1 x1 → li L' 2 x2 → li L' 3 x3 → li L' 4 x4 → am_V none d 14 94 L' ((.ref 50) :: []) S Q)
    (k2 : ∀ (x5 : Int) (L' : am_L) (i1 : Int32) (i2 : Int32), x4 ≤ x2 → x4 ≤ x3 → (0 ≤ x1 ∧ x1 ≤ 3) → (1 ≤ x2 ∧ x2 ≤ 12) → (1 ≤ x3 ∧ x3 ≤ 7) → (0 ≤ x4 ∧ x4 ≤ 7) → ((-6) ≤ x5 ∧ x5 ≤ 12) → x2 + ((-1) * x4 + 0) = x5 → lc L' 0 50 → li L' 1 x1 → li L' 2 x2 → li L' 3 x3 → li L' 4 x4 → i1.toInt = x5 → i2.toInt = x4 → am_V none d 14 74 L' ((.int i1) :: (.int i2) :: (.ref 50) :: []) S Q) : am_V none d 14 55 L ([]) S Q := by
  refine sg_use sg_fz_d_g hd hP (sg_xs [0, x1, x2, x3, x4]) ⟨⟨Int.le_refl 0, Int.le_refl 0⟩, b1, b2, b3, b4, trivial⟩ trivial trivial trivial ⟨l0, l1, l2, l3, l4, trivial⟩ trivial ?_
  intro z hz x' L' st' S' hx hP' hW hL' hs' hJ hE' hT' hD'
  have q1 : x' 1 = x1 := hx 1 (by decide)
  subst q1
  have q2 : x' 2 = x2 := hx 2 (by decide)
  subst q2
  have q3 : x' 3 = x3 := hx 3 (by decide)
  subst q3
  have q4 : x' 4 = x4 := hx 4 (by decide)
  subst q4
  have eS : S' = S := hW.1 rfl
  subst eS
  simp only [sg_fz_d_Z, List.mem_cons, List.not_mem_nil, or_false] at hz
  rcases hz with rfl | rfl | rfl
  · obtain ⟨f0, hσ⟩ := hJ
    obtain ⟨e0, e1, e2, e3, -⟩ := hE'
    obtain ⟨p0, p1, p2, p3, p4, -⟩ := hL'
    obtain ⟨v1, r1, rfl, rfl, hs1⟩ := sg_tc hs'
    obtain rfl := sg_tn hs1
    exact k0 L' f0 e0 e1 e2 e3 p0 p1 p2 p3 p4
  · obtain ⟨f0, f1, hσ⟩ := hJ
    obtain ⟨e0, e1, e2, e3, -⟩ := hE'
    obtain ⟨p0, p1, p2, p3, p4, -⟩ := hL'
    obtain ⟨v1, r1, rfl, rfl, hs1⟩ := sg_tc hs'
    obtain rfl := sg_tn hs1
    exact k1 L' f0 f1 e0 e1 e2 e3 p0 p1 p2 p3 p4
  · obtain ⟨f0, f1, hσ⟩ := hJ
    obtain ⟨e0, e1, e2, e3, e4, -⟩ := hE'
    obtain ⟨t0, -⟩ := hT'
    obtain ⟨p0, p1, p2, p3, p4, -⟩ := hL'
    obtain ⟨v1, r1, rfl, ⟨i1, rfl, g1⟩, hs1⟩ := sg_tc hs'
    obtain ⟨v2, r2, rfl, ⟨i2, rfl, g2⟩, hs2⟩ := sg_tc hs1
    obtain ⟨v3, r3, rfl, rfl, hs3⟩ := sg_tc hs2
    obtain rfl := sg_tn hs3
    exact k2 (x' 5) L' i1 i2 f0 f1 e0 e1 e2 e3 e4 t0 p0 p1 p2 p3 p4 g1 g2
def sg_fz_e_Z : List sg_z := [(85, [(0, .inr (.inl [50])), (1, .inl (false, (1, .ofNat 1, .ofNat 0))), (2, .inl (false, (2, .ofNat 1, .ofNat 0))), (3, .inl (false, (3, .ofNat 1, .ofNat 0))), (4, .inl (false, (4, .ofNat 1, .ofNat 0)))], [.inl (false, (5, .ofNat 1, .ofNat 0)), .inr (.inl [50])], [], [(1, [(.ofNat 0, .ofNat 3)]), (2, [(.ofNat 1, .ofNat 12)]), (3, [(.ofNat 1, .ofNat 7)]), (4, [(.ofNat 0, .ofNat 7)]), (5, [(.negSucc 11, .ofNat 13)])], [((4, .ofNat 2, .ofNat 0), (2, .negSucc 0, .ofNat 0), (5, .ofNat 1, .ofNat 0))], [])]
set_option maxRecDepth 1000000 in
theorem sg_fz_e_g : sg_go [] [84] 3000 14 77 0 5 [(0, [(.ofNat 0, .ofNat 0)]), (1, [(.ofNat 0, .ofNat 3)]), (2, [(.ofNat 1, .ofNat 12)]), (3, [(.ofNat 1, .ofNat 7)]), (4, [(.ofNat 0, .ofNat 7)])] [] [] [] [(0, .inr (.inl [50])), (1, .inl (false, (1, .ofNat 1, .ofNat 0))), (2, .inl (false, (2, .ofNat 1, .ofNat 0))), (3, .inl (false, (3, .ofNat 1, .ofNat 0))), (4, .inl (false, (4, .ofNat 1, .ofNat 0)))] [] [] sg_fz_e_Z = true := by decide +kernel
set_option maxRecDepth 100000 in
theorem sg_fz_e {Q : Option Value × am_S → Prop} {d : Nat} {S : am_S} {L : am_L} {x1 x2 x3 x4 : Int} (hd : 0 ≤ d) (hP : ax_P0 none S) (l0 : lc L 0 50) (l1 : li L 1 x1) (l2 : li L 2 x2) (l3 : li L 3 x3) (l4 : li L 4 x4) (b1 : (0 ≤ x1 ∧ x1 ≤ 3)) (b2 : (1 ≤ x2 ∧ x2 ≤ 12)) (b3 : (1 ≤ x3 ∧ x3 ≤ 7)) (b4 : (0 ≤ x4 ∧ x4 ≤ 7))
    (k0 : ∀ (x5 : Int) (L' : am_L) (i1 : Int32), (0 ≤ x1 ∧ x1 ≤ 3) → (1 ≤ x2 ∧ x2 ≤ 12) → (1 ≤ x3 ∧ x3 ≤ 7) → (0 ≤ x4 ∧ x4 ≤ 7) → ((-12) ≤ x5 ∧ x5 ≤ 13) → (2 * x4 + 0) + ((-1) * x2 + 0) = x5 → lc L' 0 50 → li L' 1 x1 → li L' 2 x2 → li L' 3 x3 → li L' 4 x4 → i1.toInt = x5 → am_V none d 14 84 L' ((.int i1) :: (.ref 50) :: []) S Q) : am_V none d 14 77 L ([]) S Q := by
  refine sg_use sg_fz_e_g hd hP (sg_xs [0, x1, x2, x3, x4]) ⟨⟨Int.le_refl 0, Int.le_refl 0⟩, b1, b2, b3, b4, trivial⟩ trivial trivial trivial ⟨l0, l1, l2, l3, l4, trivial⟩ trivial ?_
  intro z hz x' L' st' S' hx hP' hW hL' hs' hJ hE' hT' hD'
  have q1 : x' 1 = x1 := hx 1 (by decide)
  subst q1
  have q2 : x' 2 = x2 := hx 2 (by decide)
  subst q2
  have q3 : x' 3 = x3 := hx 3 (by decide)
  subst q3
  have q4 : x' 4 = x4 := hx 4 (by decide)
  subst q4
  have eS : S' = S := hW.1 rfl
  subst eS
  simp only [sg_fz_e_Z, List.mem_cons, List.not_mem_nil, or_false] at hz
  rcases hz with rfl
  · have hσ := hJ
    obtain ⟨e0, e1, e2, e3, e4, -⟩ := hE'
    obtain ⟨t0, -⟩ := hT'
    obtain ⟨p0, p1, p2, p3, p4, -⟩ := hL'
    obtain ⟨v1, r1, rfl, ⟨i1, rfl, g1⟩, hs1⟩ := sg_tc hs'
    obtain ⟨v2, r2, rfl, rfl, hs2⟩ := sg_tc hs1
    obtain rfl := sg_tn hs2
    exact k0 (x' 5) L' i1 e0 e1 e2 e3 e4 t0 p0 p1 p2 p3 p4 g1
def sg_fz_f_Z : List sg_z := [(56, [(0, .inr (.inl [50])), (1, .inl (false, (1, .ofNat 1, .ofNat 0))), (2, .inl (false, (2, .ofNat 1, .ofNat 0))), (3, .inl (false, (3, .ofNat 1, .ofNat 0))), (4, .inl (false, (4, .ofNat 1, .ofNat 1)))], [], [], [(1, [(.ofNat 0, .ofNat 3)]), (2, [(.ofNat 1, .ofNat 12)]), (3, [(.ofNat 1, .ofNat 7)]), (4, [(.ofNat 0, .ofNat 7)])], [], [])]
set_option maxRecDepth 1000000 in
theorem sg_fz_f_g : sg_go [] [55] 3000 14 87 0 5 [(0, [(.ofNat 0, .ofNat 0)]), (1, [(.ofNat 0, .ofNat 3)]), (2, [(.ofNat 1, .ofNat 12)]), (3, [(.ofNat 1, .ofNat 7)]), (4, [(.ofNat 0, .ofNat 7)])] [] [] [] [(0, .inr (.inl [50])), (1, .inl (false, (1, .ofNat 1, .ofNat 0))), (2, .inl (false, (2, .ofNat 1, .ofNat 0))), (3, .inl (false, (3, .ofNat 1, .ofNat 0))), (4, .inl (false, (4, .ofNat 1, .ofNat 0)))] [] [] sg_fz_f_Z = true := by decide +kernel
set_option maxRecDepth 100000 in
theorem sg_fz_f {Q : Option Value × am_S → Prop} {d : Nat} {S : am_S} {L : am_L} {x1 x2 x3 x4 : Int} (hd : 0 ≤ d) (hP : ax_P0 none S) (l0 : lc L 0 50) (l1 : li L 1 x1) (l2 : li L 2 x2) (l3 : li L 3 x3) (l4 : li L 4 x4) (b1 : (0 ≤ x1 ∧ x1 ≤ 3)) (b2 : (1 ≤ x2 ∧ x2 ≤ 12)) (b3 : (1 ≤ x3 ∧ x3 ≤ 7)) (b4 : (0 ≤ x4 ∧ x4 ≤ 7))
    (k0 : ∀ (L' : am_L), (0 ≤ x1 ∧ x1 ≤ 3) → (1 ≤ x2 ∧ x2 ≤ 12) → (1 ≤ x3 ∧ x3 ≤ 7) → (0 ≤ x4 ∧ x4 ≤ 7) → lc L' 0 50 → li L' 1 x1 → li L' 2 x2 → li L' 3 x3 → li L' 4 (x4 + 1) → am_V none d 14 55 L' ([]) S Q) : am_V none d 14 87 L ([]) S Q := by
  refine sg_use sg_fz_f_g hd hP (sg_xs [0, x1, x2, x3, x4]) ⟨⟨Int.le_refl 0, Int.le_refl 0⟩, b1, b2, b3, b4, trivial⟩ trivial trivial trivial ⟨l0, l1, l2, l3, l4, trivial⟩ trivial ?_
  intro z hz x' L' st' S' hx hP' hW hL' hs' hJ hE' hT' hD'
  have q1 : x' 1 = x1 := hx 1 (by decide)
  subst q1
  have q2 : x' 2 = x2 := hx 2 (by decide)
  subst q2
  have q3 : x' 3 = x3 := hx 3 (by decide)
  subst q3
  have q4 : x' 4 = x4 := hx 4 (by decide)
  subst q4
  have eS : S' = S := hW.1 rfl
  subst eS
  simp only [sg_fz_f_Z, List.mem_cons, List.not_mem_nil, or_false] at hz
  rcases hz with rfl
  · have hσ := hJ
    obtain ⟨e0, e1, e2, e3, -⟩ := hE'
    obtain ⟨p0, p1, p2, p3, p4, -⟩ := hL'
    obtain rfl := sg_tn hs'
    exact k0 L' e0 e1 e2 e3 p0 p1 p2 p3 p4
def sg_fz_g_Z : List sg_z := [(107, [(0, .inr (.inl [50])), (1, .inl (false, (1, .ofNat 1, .ofNat 0))), (2, .inl (false, (2, .ofNat 1, .ofNat 0)))], [.inl (false, (0, .ofNat 0, .ofNat 2025)), .inl (false, (0, .ofNat 0, .ofNat 0)), .inr (.inl [51]), .inl (false, (0, .ofNat 0, .ofNat 0)), .inr (.inl [52])], [], [(1, [(.ofNat 0, .ofNat 3)]), (2, [(.ofNat 1, .ofNat 12)])], [], [])]
set_option maxRecDepth 1000000 in
theorem sg_fz_g_g : sg_go [] [106] 3000 14 94 0 3 [(0, [(.ofNat 0, .ofNat 0)]), (1, [(.ofNat 0, .ofNat 3)]), (2, [(.ofNat 1, .ofNat 12)])] [] [] [] [(0, .inr (.inl [50])), (1, .inl (false, (1, .ofNat 1, .ofNat 0))), (2, .inl (false, (2, .ofNat 1, .ofNat 0)))] [.inr (.inl [50])] [] sg_fz_g_Z = true := by decide +kernel
set_option maxRecDepth 100000 in
theorem sg_fz_g {Q : Option Value × am_S → Prop} {d : Nat} {S : am_S} {L : am_L} {x1 x2 : Int} (hd : 0 ≤ d) (hP : ax_P0 none S) (l0 : lc L 0 50) (l1 : li L 1 x1) (l2 : li L 2 x2) (b1 : (0 ≤ x1 ∧ x1 ≤ 3)) (b2 : (1 ≤ x2 ∧ x2 ≤ 12))
    (k0 : ∀ (L' : am_L) (i1 : Int32) (i2 : Int32) (i4 : Int32), (0 ≤ x1 ∧ x1 ≤ 3) → (1 ≤ x2 ∧ x2 ≤ 12) → lc L' 0 50 → li L' 1 x1 → li L' 2 x2 → i1.toInt = 2025 → i2.toInt = 0 → i4.toInt = 0 → am_V none d 14 106 L' ((.int i1) :: (.int i2) :: (.ref 51) :: (.int i4) :: (.ref 52) :: []) S Q) : am_V none d 14 94 L ((.ref 50) :: []) S Q := by
  refine sg_use sg_fz_g_g hd hP (sg_xs [0, x1, x2]) ⟨⟨Int.le_refl 0, Int.le_refl 0⟩, b1, b2, trivial⟩ trivial trivial trivial ⟨l0, l1, l2, trivial⟩ ⟨rfl, trivial⟩ ?_
  intro z hz x' L' st' S' hx hP' hW hL' hs' hJ hE' hT' hD'
  have q1 : x' 1 = x1 := hx 1 (by decide)
  subst q1
  have q2 : x' 2 = x2 := hx 2 (by decide)
  subst q2
  have eS : S' = S := hW.1 rfl
  subst eS
  simp only [sg_fz_g_Z, List.mem_cons, List.not_mem_nil, or_false] at hz
  rcases hz with rfl
  · have hσ := hJ
    obtain ⟨e0, e1, -⟩ := hE'
    obtain ⟨p0, p1, p2, -⟩ := hL'
    obtain ⟨v1, r1, rfl, ⟨i1, rfl, g1⟩, hs1⟩ := sg_tc hs'
    obtain ⟨v2, r2, rfl, ⟨i2, rfl, g2⟩, hs2⟩ := sg_tc hs1
    obtain ⟨v3, r3, rfl, rfl, hs3⟩ := sg_tc hs2
    obtain ⟨v4, r4, rfl, ⟨i4, rfl, g4⟩, hs4⟩ := sg_tc hs3
    obtain ⟨v5, r5, rfl, rfl, hs5⟩ := sg_tc hs4
    obtain rfl := sg_tn hs5
    exact k0 L' i1 i2 i4 e0 e1 p0 p1 p2 g1 g2 g4
def sg_fz_h_Z : List sg_z := [(0, [], [], [(1, 50, (0, .ofNat 0, .ofNat 8), (7, .ofNat 1, .ofNat 0), (0, .ofNat 0, .ofNat 0)), (3, 0, (1, .ofNat 1, .ofNat 0), (2, .ofNat 1, .ofNat 0), (6, .ofNat 1, .ofNat 0)), (0, 50, (0, .ofNat 0, .ofNat 8), (4, .ofNat 1, .ofNat 0), (0, .ofNat 0, .ofNat 0)), (1, 50, (0, .ofNat 0, .ofNat 7), (5, .ofNat 1, .ofNat 0), (0, .ofNat 0, .ofNat 0)), (0, 50, (0, .ofNat 0, .ofNat 7), (3, .ofNat 1, .ofNat 0), (0, .ofNat 0, .ofNat 0))], [(1, [(.ofNat 0, .ofNat 3)]), (2, [(.ofNat 1, .ofNat 12)]), (3, [(.ofNat 0, .ofNat 12)]), (4, [(.ofNat 0, .ofNat 108)]), (5, [(.ofNat 1, .ofNat 12)]), (6, [(.ofNat 0, .ofNat 36)]), (7, [(.ofNat 0, .ofNat 144)])], [((4, .ofNat 1, .ofNat 0), (6, .ofNat 1, .ofNat 0), (7, .ofNat 1, .ofNat 0)), ((3, .ofNat 1, .ofNat 0), (2, .ofNat 1, .ofNat 0), (5, .ofNat 1, .ofNat 0))], [])]
set_option maxRecDepth 1000000 in
theorem sg_fz_h_g : sg_go [] [] 3000 14 109 0 6 [(0, [(.ofNat 0, .ofNat 0)]), (1, [(.ofNat 0, .ofNat 3)]), (2, [(.ofNat 1, .ofNat 12)]), (3, [(.ofNat 0, .ofNat 12)]), (4, [(.ofNat 0, .ofNat 108)]), (5, [(.ofNat 1, .ofNat 12)])] [(50, (0, .ofNat 0, .ofNat 7), (3, .ofNat 1, .ofNat 0)), (50, (0, .ofNat 0, .ofNat 8), (4, .ofNat 1, .ofNat 0))] [((3, .ofNat 1, .ofNat 0), (2, .ofNat 1, .ofNat 0), (5, .ofNat 1, .ofNat 0))] [] [(0, .inr (.inl [50])), (1, .inl (false, (1, .ofNat 1, .ofNat 0))), (2, .inl (false, (2, .ofNat 1, .ofNat 0)))] [] [(50, some 7), (50, some 8)] sg_fz_h_Z = true := by decide +kernel
set_option maxRecDepth 100000 in
theorem sg_fz_h {Q : Option Value × am_S → Prop} {d : Nat} {S : am_S} {L : am_L} {x1 x2 x3 x4 x5 : Int} (hd : 0 ≤ d) (hP : ax_P0 none S) (l0 : lc L 0 50) (l1 : li L 1 x1) (l2 : li L 2 x2) (b1 : (0 ≤ x1 ∧ x1 ≤ 3)) (b2 : (1 ≤ x2 ∧ x2 ≤ 12)) (b3 : (0 ≤ x3 ∧ x3 ≤ 12)) (b4 : (0 ≤ x4 ∧ x4 ≤ 108)) (b5 : (1 ≤ x5 ∧ x5 ≤ 12)) (m50_7 : rd S 50 7 = x3) (m50_8 : rd S 50 8 = x4) (t0 : x3 + x2 = x5)
    (k0 : ∀ (x6 x7 : Int) (S' : am_S), ax_P0 none S' → rd S' = sg_up (sg_up (rd S) 50 7 x5) 50 8 x7 → rd S 50 7 = x3 → (sg_up (rd S) 50 7 x5) 50 8 = x4 → (∃ a b : Int32, a.toInt = x1 ∧ b.toInt = x2 ∧ (a * b).toInt = x6) → (0 ≤ x1 ∧ x1 ≤ 3) → (1 ≤ x2 ∧ x2 ≤ 12) → (0 ≤ x3 ∧ x3 ≤ 12) → (0 ≤ x4 ∧ x4 ≤ 108) → (1 ≤ x5 ∧ x5 ≤ 12) → (0 ≤ x6 ∧ x6 ≤ 36) → (0 ≤ x7 ∧ x7 ≤ 144) → x4 + x6 = x7 → x3 + x2 = x5 → Q (none, S')) : am_V none d 14 109 L ([]) S Q := by
  refine sg_use sg_fz_h_g hd hP (sg_xs [0, x1, x2, x3, x4, x5]) ⟨⟨Int.le_refl 0, Int.le_refl 0⟩, b1, b2, b3, b4, b5, trivial⟩ ⟨sg_fs hP rfl m50_7, sg_fs hP rfl m50_8, trivial⟩ ⟨t0, trivial⟩ trivial ⟨l0, l1, l2, trivial⟩ trivial ?_
  intro z hz x' L' st' S' hx hP' hW hL' hs' hJ hE' hT' hD'
  have q1 : x' 1 = x1 := hx 1 (by decide)
  subst q1
  have q2 : x' 2 = x2 := hx 2 (by decide)
  subst q2
  have q3 : x' 3 = x3 := hx 3 (by decide)
  subst q3
  have q4 : x' 4 = x4 := hx 4 (by decide)
  subst q4
  have q5 : x' 5 = x5 := hx 5 (by decide)
  subst q5
  simp only [sg_fz_h_Z, List.mem_cons, List.not_mem_nil, or_false] at hz
  rcases hz with rfl
  · obtain ⟨f0, f1, f2, hσ⟩ := hJ
    obtain ⟨e0, e1, e2, e3, e4, e5, e6, -⟩ := hE'
    obtain ⟨t0, t1, -⟩ := hT'
    intro v hv
    subst hv
    cases v with
    | some _ => exact hs'.elim
    | none =>
      exact k0 (x' 6) (x' 7) S' hP' hσ f0 f1 f2 e0 e1 e2 e3 e4 e5 e6 t0 t1
def sg_ff_a_Z : List sg_z := [(7, [(0, .inr (.inl [52])), (1, .inl (true, (0, .ofNat 0, .ofNat 0))), (3, .inl (false, (0, .ofNat 0, .ofNat 0))), (4, .inl (false, (0, .ofNat 0, .ofNat 2025)))], [], [], [(1, [(.ofNat 0, .ofNat 0)])], [], [])]
set_option maxRecDepth 1000000 in
theorem sg_ff_a_g : sg_go [] [6] 3000 260 0 0 2 [(0, [(.ofNat 0, .ofNat 0)]), (1, [(.ofNat 0, .ofNat 0)])] [] [] [] [(0, .inr (.inl [52])), (1, .inl (true, (1, .ofNat 1, .ofNat 0)))] [] [] sg_ff_a_Z = true := by decide +kernel
set_option maxRecDepth 100000 in
theorem sg_ff_a {Q : Option Value × am_S → Prop} {d : Nat} {S : am_S} {L : am_L} {x1 : Int} (hd : 0 ≤ d) (hP : ax_P0 none S) (l0 : lc L 0 52) (l1 : lj L 1 x1) (b1 : (0 ≤ x1 ∧ x1 ≤ 0))
    (k0 : ∀ (L' : am_L), (0 ≤ x1 ∧ x1 ≤ 0) → lc L' 0 52 → lj L' 1 0 → li L' 3 0 → li L' 4 2025 → am_V none d 260 6 L' ([]) S Q) : am_V none d 260 0 L ([]) S Q := by
  refine sg_use sg_ff_a_g hd hP (sg_xs [0, x1]) ⟨⟨Int.le_refl 0, Int.le_refl 0⟩, b1, trivial⟩ trivial trivial trivial ⟨l0, l1, trivial⟩ trivial ?_
  intro z hz x' L' st' S' hx hP' hW hL' hs' hJ hE' hT' hD'
  have q1 : x' 1 = x1 := hx 1 (by decide)
  subst q1
  have eS : S' = S := hW.1 rfl
  subst eS
  simp only [sg_ff_a_Z, List.mem_cons, List.not_mem_nil, or_false] at hz
  rcases hz with rfl
  · have hσ := hJ
    obtain ⟨e0, -⟩ := hE'
    obtain ⟨p0, p1, p2, p3, -⟩ := hL'
    obtain rfl := sg_tn hs'
    exact k0 L' e0 p0 p1 p2 p3
def sg_ff_b_Z : List sg_z := [(0, [], [], [(2, 3, (2, .ofNat 1, .ofNat 0), (0, .ofNat 0, .ofNat 2025), (0, .ofNat 0, .ofNat 0))], [(1, [(.ofNat 0, .ofNat 0)]), (2, [(.ofNat 2025, .ofNat 2025)]), (3, [(.ofNat 2025, .ofNat 2025)])], [], []),
  (7, [(0, .inr (.inl [52])), (1, .inl (true, (0, .ofNat 0, .ofNat 0))), (3, .inl (false, (2, .ofNat 1, .ofNat 1))), (4, .inl (false, (0, .ofNat 0, .ofNat 2025)))], [], [(1, 52, (2, .ofNat 1, .ofNat 0), (0, .ofNat 0, .ofNat 0), (0, .ofNat 0, .ofNat 0)), (2, 2, (2, .ofNat 1, .ofNat 0), (0, .ofNat 0, .ofNat 2025), (0, .ofNat 0, .ofNat 0))], [(1, [(.ofNat 0, .ofNat 0)]), (2, [(.ofNat 0, .ofNat 2024)]), (3, [(.ofNat 2025, .ofNat 2025)])], [], [])]
set_option maxRecDepth 1000000 in
theorem sg_ff_b_g : sg_go [] [6] 3000 260 6 0 4 [(0, [(.ofNat 0, .ofNat 0)]), (1, [(.ofNat 0, .ofNat 0)]), (2, [(.ofNat 0, .ofNat 2025)]), (3, [(.ofNat 2025, .ofNat 2025)])] [] [] [] [(0, .inr (.inl [52])), (1, .inl (true, (1, .ofNat 1, .ofNat 0))), (3, .inl (false, (2, .ofNat 1, .ofNat 0))), (4, .inl (false, (3, .ofNat 1, .ofNat 0)))] [] [(52, none)] sg_ff_b_Z = true := by decide +kernel
set_option maxRecDepth 100000 in
theorem sg_ff_b {Q : Option Value × am_S → Prop} {d : Nat} {S : am_S} {L : am_L} {x1 x2 x3 : Int} (hd : 0 ≤ d) (hP : ax_P0 none S) (l0 : lc L 0 52) (l1 : lj L 1 x1) (l3 : li L 3 x2) (l4 : li L 4 x3) (b1 : (0 ≤ x1 ∧ x1 ≤ 0)) (b2 : (0 ≤ x2 ∧ x2 ≤ 2025)) (b3 : (2025 ≤ x3 ∧ x3 ≤ 2025))
    (k0 : ∀ (S' : am_S), ax_P0 none S' → rd S' = rd S → 2025 ≤ x2 → (0 ≤ x1 ∧ x1 ≤ 0) → (2025 ≤ x2 ∧ x2 ≤ 2025) → (2025 ≤ x3 ∧ x3 ≤ 2025) → Q (none, S'))
    (k1 : ∀ (L' : am_L) (S' : am_S), ax_P0 none S' → rd S' = sg_up (rd S) 52 x2 0 → x2 < 2025 → (0 ≤ x1 ∧ x1 ≤ 0) → (0 ≤ x2 ∧ x2 ≤ 2024) → (2025 ≤ x3 ∧ x3 ≤ 2025) → lc L' 0 52 → lj L' 1 0 → li L' 3 (x2 + 1) → li L' 4 2025 → am_V none d 260 6 L' ([]) S' Q) : am_V none d 260 6 L ([]) S Q := by
  refine sg_use sg_ff_b_g hd hP (sg_xs [0, x1, x2, x3]) ⟨⟨Int.le_refl 0, Int.le_refl 0⟩, b1, b2, b3, trivial⟩ trivial trivial trivial ⟨l0, l1, l3, l4, trivial⟩ trivial ?_
  intro z hz x' L' st' S' hx hP' hW hL' hs' hJ hE' hT' hD'
  have q1 : x' 1 = x1 := hx 1 (by decide)
  subst q1
  have q2 : x' 2 = x2 := hx 2 (by decide)
  subst q2
  have q3 : x' 3 = x3 := hx 3 (by decide)
  subst q3
  simp only [sg_ff_b_Z, List.mem_cons, List.not_mem_nil, or_false] at hz
  rcases hz with rfl | rfl
  · obtain ⟨f0, hσ⟩ := hJ
    obtain ⟨e0, e1, e2, -⟩ := hE'
    intro v hv
    subst hv
    cases v with
    | some _ => exact hs'.elim
    | none =>
      exact k0 S' hP' hσ f0 e0 e1 e2
  · obtain ⟨f0, hσ⟩ := hJ
    obtain ⟨e0, e1, e2, -⟩ := hE'
    obtain ⟨p0, p1, p2, p3, -⟩ := hL'
    obtain rfl := sg_tn hs'
    exact k1 L' S' hP' hσ f0 e0 e1 e2 p0 p1 p2 p3
def sg_fg_a_Z : List sg_z := [(7, [(0, .inr (.inl [51])), (1, .inl (true, (0, .ofNat 0, .ofNat 0))), (3, .inl (false, (0, .ofNat 0, .ofNat 0))), (4, .inl (false, (0, .ofNat 0, .ofNat 2025)))], [], [], [(1, [(.ofNat 0, .ofNat 0)])], [], [])]
set_option maxRecDepth 1000000 in
theorem sg_fg_a_g : sg_go [] [6] 3000 260 0 0 2 [(0, [(.ofNat 0, .ofNat 0)]), (1, [(.ofNat 0, .ofNat 0)])] [] [] [] [(0, .inr (.inl [51])), (1, .inl (true, (1, .ofNat 1, .ofNat 0)))] [] [] sg_fg_a_Z = true := by decide +kernel
set_option maxRecDepth 100000 in
theorem sg_fg_a {Q : Option Value × am_S → Prop} {d : Nat} {S : am_S} {L : am_L} {x1 : Int} (hd : 0 ≤ d) (hP : ax_P0 none S) (l0 : lc L 0 51) (l1 : lj L 1 x1) (b1 : (0 ≤ x1 ∧ x1 ≤ 0))
    (k0 : ∀ (L' : am_L), (0 ≤ x1 ∧ x1 ≤ 0) → lc L' 0 51 → lj L' 1 0 → li L' 3 0 → li L' 4 2025 → am_V none d 260 6 L' ([]) S Q) : am_V none d 260 0 L ([]) S Q := by
  refine sg_use sg_fg_a_g hd hP (sg_xs [0, x1]) ⟨⟨Int.le_refl 0, Int.le_refl 0⟩, b1, trivial⟩ trivial trivial trivial ⟨l0, l1, trivial⟩ trivial ?_
  intro z hz x' L' st' S' hx hP' hW hL' hs' hJ hE' hT' hD'
  have q1 : x' 1 = x1 := hx 1 (by decide)
  subst q1
  have eS : S' = S := hW.1 rfl
  subst eS
  simp only [sg_fg_a_Z, List.mem_cons, List.not_mem_nil, or_false] at hz
  rcases hz with rfl
  · have hσ := hJ
    obtain ⟨e0, -⟩ := hE'
    obtain ⟨p0, p1, p2, p3, -⟩ := hL'
    obtain rfl := sg_tn hs'
    exact k0 L' e0 p0 p1 p2 p3
def sg_fg_b_Z : List sg_z := [(0, [], [], [(2, 3, (2, .ofNat 1, .ofNat 0), (0, .ofNat 0, .ofNat 2025), (0, .ofNat 0, .ofNat 0))], [(1, [(.ofNat 0, .ofNat 0)]), (2, [(.ofNat 2025, .ofNat 2025)]), (3, [(.ofNat 2025, .ofNat 2025)])], [], []),
  (7, [(0, .inr (.inl [51])), (1, .inl (true, (0, .ofNat 0, .ofNat 0))), (3, .inl (false, (2, .ofNat 1, .ofNat 1))), (4, .inl (false, (0, .ofNat 0, .ofNat 2025)))], [], [(1, 51, (2, .ofNat 1, .ofNat 0), (0, .ofNat 0, .ofNat 0), (0, .ofNat 0, .ofNat 0)), (2, 2, (2, .ofNat 1, .ofNat 0), (0, .ofNat 0, .ofNat 2025), (0, .ofNat 0, .ofNat 0))], [(1, [(.ofNat 0, .ofNat 0)]), (2, [(.ofNat 0, .ofNat 2024)]), (3, [(.ofNat 2025, .ofNat 2025)])], [], [])]
set_option maxRecDepth 1000000 in
theorem sg_fg_b_g : sg_go [] [6] 3000 260 6 0 4 [(0, [(.ofNat 0, .ofNat 0)]), (1, [(.ofNat 0, .ofNat 0)]), (2, [(.ofNat 0, .ofNat 2025)]), (3, [(.ofNat 2025, .ofNat 2025)])] [] [] [] [(0, .inr (.inl [51])), (1, .inl (true, (1, .ofNat 1, .ofNat 0))), (3, .inl (false, (2, .ofNat 1, .ofNat 0))), (4, .inl (false, (3, .ofNat 1, .ofNat 0)))] [] [(51, none)] sg_fg_b_Z = true := by decide +kernel
set_option maxRecDepth 100000 in
theorem sg_fg_b {Q : Option Value × am_S → Prop} {d : Nat} {S : am_S} {L : am_L} {x1 x2 x3 : Int} (hd : 0 ≤ d) (hP : ax_P0 none S) (l0 : lc L 0 51) (l1 : lj L 1 x1) (l3 : li L 3 x2) (l4 : li L 4 x3) (b1 : (0 ≤ x1 ∧ x1 ≤ 0)) (b2 : (0 ≤ x2 ∧ x2 ≤ 2025)) (b3 : (2025 ≤ x3 ∧ x3 ≤ 2025))
    (k0 : ∀ (S' : am_S), ax_P0 none S' → rd S' = rd S → 2025 ≤ x2 → (0 ≤ x1 ∧ x1 ≤ 0) → (2025 ≤ x2 ∧ x2 ≤ 2025) → (2025 ≤ x3 ∧ x3 ≤ 2025) → Q (none, S'))
    (k1 : ∀ (L' : am_L) (S' : am_S), ax_P0 none S' → rd S' = sg_up (rd S) 51 x2 0 → x2 < 2025 → (0 ≤ x1 ∧ x1 ≤ 0) → (0 ≤ x2 ∧ x2 ≤ 2024) → (2025 ≤ x3 ∧ x3 ≤ 2025) → lc L' 0 51 → lj L' 1 0 → li L' 3 (x2 + 1) → li L' 4 2025 → am_V none d 260 6 L' ([]) S' Q) : am_V none d 260 6 L ([]) S Q := by
  refine sg_use sg_fg_b_g hd hP (sg_xs [0, x1, x2, x3]) ⟨⟨Int.le_refl 0, Int.le_refl 0⟩, b1, b2, b3, trivial⟩ trivial trivial trivial ⟨l0, l1, l3, l4, trivial⟩ trivial ?_
  intro z hz x' L' st' S' hx hP' hW hL' hs' hJ hE' hT' hD'
  have q1 : x' 1 = x1 := hx 1 (by decide)
  subst q1
  have q2 : x' 2 = x2 := hx 2 (by decide)
  subst q2
  have q3 : x' 3 = x3 := hx 3 (by decide)
  subst q3
  simp only [sg_fg_b_Z, List.mem_cons, List.not_mem_nil, or_false] at hz
  rcases hz with rfl | rfl
  · obtain ⟨f0, hσ⟩ := hJ
    obtain ⟨e0, e1, e2, -⟩ := hE'
    intro v hv
    subst hv
    cases v with
    | some _ => exact hs'.elim
    | none =>
      exact k0 S' hP' hσ f0 e0 e1 e2
  · obtain ⟨f0, hσ⟩ := hJ
    obtain ⟨e0, e1, e2, -⟩ := hE'
    obtain ⟨p0, p1, p2, p3, -⟩ := hL'
    obtain rfl := sg_tn hs'
    exact k1 L' S' hP' hσ f0 e0 e1 e2 p0 p1 p2 p3
def sg_bg_a_Z : List sg_z := [(6, [(0, .inr (.inl [50]))], [.inl (true, (0, .ofNat 0, .ofNat 0)), .inr (.inl [51])], [], [], [], [])]
set_option maxRecDepth 1000000 in
theorem sg_bg_a_g : sg_go [] [5] 3000 13 0 0 1 [(0, [(.ofNat 0, .ofNat 0)])] [] [] [] [(0, .inr (.inl [50]))] [] [] sg_bg_a_Z = true := by decide +kernel
set_option maxRecDepth 100000 in
theorem sg_bg_a {Q : Option Value × am_S → Prop} {d : Nat} {S : am_S} {L : am_L} (hd : 0 ≤ d) (hP : ax_P0 none S) (l0 : lc L 0 50)
    (k0 : ∀ (L' : am_L) (i1 : Int64), lc L' 0 50 → i1.toInt = 0 → am_V none d 13 5 L' ((.long i1) :: (.ref 51) :: []) S Q) : am_V none d 13 0 L ([]) S Q := by
  refine sg_use sg_bg_a_g hd hP (sg_xs [0]) ⟨⟨Int.le_refl 0, Int.le_refl 0⟩, trivial⟩ trivial trivial trivial ⟨l0, trivial⟩ trivial ?_
  intro z hz x' L' st' S' hx hP' hW hL' hs' hJ hE' hT' hD'
  have eS : S' = S := hW.1 rfl
  subst eS
  simp only [sg_bg_a_Z, List.mem_cons, List.not_mem_nil, or_false] at hz
  rcases hz with rfl
  · have hσ := hJ
    obtain ⟨p0, -⟩ := hL'
    obtain ⟨v1, r1, rfl, ⟨i1, rfl, g1⟩, hs1⟩ := sg_tc hs'
    obtain ⟨v2, r2, rfl, rfl, hs2⟩ := sg_tc hs1
    obtain rfl := sg_tn hs2
    exact k0 L' i1 p0 g1
def sg_bg_b_Z : List sg_z := [(0, [], [], [(1, 50, (0, .ofNat 0, .ofNat 8), (0, .ofNat 0, .ofNat 0), (0, .ofNat 0, .ofNat 0)), (1, 50, (0, .ofNat 0, .ofNat 7), (0, .ofNat 0, .ofNat 0), (0, .ofNat 0, .ofNat 0)), (1, 51, (0, .ofNat 0, .ofNat 1012), (0, .ofNat 0, .ofNat 1), (0, .ofNat 0, .ofNat 0))], [], [], [])]
set_option maxRecDepth 1000000 in
theorem sg_bg_b_g : sg_go [] [] 3000 13 8 0 1 [(0, [(.ofNat 0, .ofNat 0)])] [] [] [] [(0, .inr (.inl [50]))] [] [(50, some 7), (50, some 8), (51, none)] sg_bg_b_Z = true := by decide +kernel
set_option maxRecDepth 100000 in
theorem sg_bg_b {Q : Option Value × am_S → Prop} {d : Nat} {S : am_S} {L : am_L} (hd : 0 ≤ d) (hP : ax_P0 none S) (l0 : lc L 0 50)
    (k0 : ∀ (S' : am_S), ax_P0 none S' → rd S' = sg_up (sg_up (sg_up (rd S) 51 1012 1) 50 7 0) 50 8 0 → Q (none, S')) : am_V none d 13 8 L ([]) S Q := by
  refine sg_use sg_bg_b_g hd hP (sg_xs [0]) ⟨⟨Int.le_refl 0, Int.le_refl 0⟩, trivial⟩ trivial trivial trivial ⟨l0, trivial⟩ trivial ?_
  intro z hz x' L' st' S' hx hP' hW hL' hs' hJ hE' hT' hD'
  simp only [sg_bg_b_Z, List.mem_cons, List.not_mem_nil, or_false] at hz
  rcases hz with rfl
  · have hσ := hJ
    intro v hv
    subst hv
    cases v with
    | some _ => exact hs'.elim
    | none =>
      exact k0 S' hP' hσ
def sg_fn_a_Z : List sg_z := [(18, [(0, .inr (.inl [50])), (1, .inl (false, (1, .ofNat 1, .ofNat 0))), (2, .inl (false, (0, .ofNat 0, .ofNat 0)))], [], [(1, 50, (0, .ofNat 0, .ofNat 1), (3, .ofNat 1, .ofNat 0), (0, .ofNat 0, .ofNat 0)), (3, 2, (2, .ofNat 1, .ofNat 0), (0, .ofNat 0, .ofNat 2), (3, .ofNat 1, .ofNat 0)), (0, 50, (0, .ofNat 0, .ofNat 8), (2, .ofNat 1, .ofNat 0), (0, .ofNat 0, .ofNat 0)), (1, 50, (0, .ofNat 0, .ofNat 0), (1, .ofNat 1, .ofNat 0), (0, .ofNat 0, .ofNat 0))], [(1, [(.ofNat 0, .ofNat 4)]), (3, [(.negSucc 0, .ofNat 1)])], [], [])]
set_option maxRecDepth 1000000 in
theorem sg_fn_a_g : sg_go [] [17] 3000 19 0 0 2 [(0, [(.ofNat 0, .ofNat 0)]), (1, [(.ofNat 0, .ofNat 4)])] [] [] [] [(0, .inr (.inl [50])), (1, .inl (false, (1, .ofNat 1, .ofNat 0)))] [] [(50, some 0), (50, some 1)] sg_fn_a_Z = true := by decide +kernel
set_option maxRecDepth 100000 in
theorem sg_fn_a {Q : Option Value × am_S → Prop} {d : Nat} {S : am_S} {L : am_L} {x1 : Int} (hd : 0 ≤ d) (hP : ax_P0 none S) (l0 : lc L 0 50) (l1 : li L 1 x1) (b1 : (0 ≤ x1 ∧ x1 ≤ 4))
    (k0 : ∀ (x2 x3 : Int) (L' : am_L) (S' : am_S), ax_P0 none S' → rd S' = sg_up (sg_up (rd S) 50 0 x1) 50 1 x3 → (sg_up (rd S) 50 0 x1) 50 8 = x2 → (∃ a b : Int32, a.toInt = x2 ∧ b.toInt = 2 ∧ (a - a / b * b).toInt = x3) → (0 ≤ x1 ∧ x1 ≤ 4) → ((-1) ≤ x3 ∧ x3 ≤ 1) → lc L' 0 50 → li L' 1 x1 → li L' 2 0 → am_V none d 19 17 L' ([]) S' Q) : am_V none d 19 0 L ([]) S Q := by
  refine sg_use sg_fn_a_g hd hP (sg_xs [0, x1]) ⟨⟨Int.le_refl 0, Int.le_refl 0⟩, b1, trivial⟩ trivial trivial trivial ⟨l0, l1, trivial⟩ trivial ?_
  intro z hz x' L' st' S' hx hP' hW hL' hs' hJ hE' hT' hD'
  have q1 : x' 1 = x1 := hx 1 (by decide)
  subst q1
  simp only [sg_fn_a_Z, List.mem_cons, List.not_mem_nil, or_false] at hz
  rcases hz with rfl
  · obtain ⟨f0, f1, hσ⟩ := hJ
    obtain ⟨e0, e1, -⟩ := hE'
    obtain ⟨p0, p1, p2, -⟩ := hL'
    obtain rfl := sg_tn hs'
    exact k0 (x' 2) (x' 3) L' S' hP' hσ f0 f1 e0 e1 p0 p1 p2
def sg_fn_b_Z : List sg_z := [(0, [], [], [(2, 4, (1, .ofNat 1, .ofNat 0), (0, .ofNat 0, .ofNat 12), (0, .ofNat 0, .ofNat 0))], [(1, [(.ofNat 13, .ofNat 13)])], [], []),
  (26, [(0, .inr (.inl [50])), (2, .inl (false, (1, .ofNat 1, .ofNat 0))), (3, .inl (false, (0, .ofNat 0, .ofNat 0)))], [], [(2, 5, (1, .ofNat 1, .ofNat 0), (0, .ofNat 0, .ofNat 12), (0, .ofNat 0, .ofNat 0))], [(1, [(.ofNat 0, .ofNat 12)])], [], [])]
set_option maxRecDepth 1000000 in
theorem sg_fn_b_g : sg_go [] [25] 3000 19 17 0 2 [(0, [(.ofNat 0, .ofNat 0)]), (1, [(.ofNat 0, .ofNat 13)])] [] [] [] [(0, .inr (.inl [50])), (2, .inl (false, (1, .ofNat 1, .ofNat 0)))] [] [] sg_fn_b_Z = true := by decide +kernel
set_option maxRecDepth 100000 in
theorem sg_fn_b {Q : Option Value × am_S → Prop} {d : Nat} {S : am_S} {L : am_L} {x1 : Int} (hd : 0 ≤ d) (hP : ax_P0 none S) (l0 : lc L 0 50) (l2 : li L 2 x1) (b1 : (0 ≤ x1 ∧ x1 ≤ 13))
    (k0 : 12 < x1 → (13 ≤ x1 ∧ x1 ≤ 13) → Q (none, S))
    (k1 : ∀ (L' : am_L), x1 ≤ 12 → (0 ≤ x1 ∧ x1 ≤ 12) → lc L' 0 50 → li L' 2 x1 → li L' 3 0 → am_V none d 19 25 L' ([]) S Q) : am_V none d 19 17 L ([]) S Q := by
  refine sg_use sg_fn_b_g hd hP (sg_xs [0, x1]) ⟨⟨Int.le_refl 0, Int.le_refl 0⟩, b1, trivial⟩ trivial trivial trivial ⟨l0, l2, trivial⟩ trivial ?_
  intro z hz x' L' st' S' hx hP' hW hL' hs' hJ hE' hT' hD'
  have q1 : x' 1 = x1 := hx 1 (by decide)
  subst q1
  have eS : S' = S := hW.1 rfl
  subst eS
  simp only [sg_fn_b_Z, List.mem_cons, List.not_mem_nil, or_false] at hz
  rcases hz with rfl | rfl
  · obtain ⟨f0, hσ⟩ := hJ
    obtain ⟨e0, -⟩ := hE'
    intro v hv
    subst hv
    cases v with
    | some _ => exact hs'.elim
    | none =>
      exact k0 f0 e0
  · obtain ⟨f0, hσ⟩ := hJ
    obtain ⟨e0, -⟩ := hE'
    obtain ⟨p0, p1, p2, -⟩ := hL'
    obtain rfl := sg_tn hs'
    exact k1 L' f0 e0 p0 p1 p2
def sg_fn_c_Z : List sg_z := [(18, [(0, .inr (.inl [50])), (2, .inl (false, (1, .ofNat 1, .ofNat 1))), (3, .inl (false, (0, .ofNat 0, .ofNat 41)))], [], [(2, 4, (2, .ofNat 1, .ofNat 0), (0, .ofNat 0, .ofNat 40), (0, .ofNat 0, .ofNat 0))], [(1, [(.ofNat 0, .ofNat 12)]), (2, [(.ofNat 41, .ofNat 41)])], [], []),
  (26, [(0, .inr (.inl [50])), (2, .inl (false, (1, .ofNat 1, .ofNat 0))), (3, .inl (false, (0, .ofNat 0, .ofNat 41)))], [], [(1, 63, (3, .ofNat 1, .ofNat 0), (7, .ofNat 1, .ofNat 0), (0, .ofNat 0, .ofNat 0)), (2, 4, (0, .ofNat 0, .ofNat 41), (0, .ofNat 0, .ofNat 40), (0, .ofNat 0, .ofNat 0)), (2, 3, (0, .ofNat 0, .ofNat 41), (0, .ofNat 0, .ofNat 0), (0, .ofNat 0, .ofNat 0)), (4, 4, (5, .ofNat 1, .ofNat 0), (6, .ofNat 1, .ofNat 0), (7, .ofNat 1, .ofNat 0)), (0, 51, (1, .ofNat 1, .ofNat 2014), (6, .ofNat 1, .ofNat 0), (0, .ofNat 0, .ofNat 0)), (2, 5, (1, .ofNat 1, .ofNat 2), (0, .ofNat 0, .ofNat 12), (0, .ofNat 0, .ofNat 0)), (2, 3, (1, .ofNat 1, .ofNat 2), (0, .ofNat 0, .ofNat 0), (0, .ofNat 0, .ofNat 0)), (2, 5, (0, .ofNat 0, .ofNat 40), (0, .ofNat 0, .ofNat 40), (0, .ofNat 0, .ofNat 0)), (2, 3, (0, .ofNat 0, .ofNat 40), (0, .ofNat 0, .ofNat 0), (0, .ofNat 0, .ofNat 0)), (2, 4, (2, .ofNat 1, .ofNat 1), (0, .ofNat 0, .ofNat 40), (0, .ofNat 0, .ofNat 0)), (2, 3, (2, .ofNat 1, .ofNat 1), (0, .ofNat 0, .ofNat 0), (0, .ofNat 0, .ofNat 0)), (0, 51, (4, .ofNat 1, .ofNat 0), (5, .ofNat 1, .ofNat 0), (0, .ofNat 0, .ofNat 0)), (2, 5, (1, .ofNat 1, .ofNat 0), (0, .ofNat 0, .ofNat 12), (0, .ofNat 0, .ofNat 0)), (2, 3, (1, .ofNat 1, .ofNat 0), (0, .ofNat 0, .ofNat 0), (0, .ofNat 0, .ofNat 0)), (2, 5, (2, .ofNat 1, .ofNat 0), (0, .ofNat 0, .ofNat 40), (0, .ofNat 0, .ofNat 0)), (2, 3, (2, .ofNat 1, .ofNat 0), (0, .ofNat 0, .ofNat 0), (0, .ofNat 0, .ofNat 0)), (2, 5, (2, .ofNat 1, .ofNat 0), (0, .ofNat 0, .ofNat 40), (0, .ofNat 0, .ofNat 0))], [(1, [(.ofNat 0, .ofNat 10)]), (2, [(.ofNat 40, .ofNat 40)]), (3, [(.ofNat 0, .ofNat 532)]), (4, [(.ofNat 1012, .ofNat 2024)])], [((2, .ofNat 25, .ofNat 1012), (1, .ofNat 1, .ofNat 0), (4, .ofNat 1, .ofNat 0)), ((1, .ofNat 41, .ofNat 0), (2, .ofNat 1, .ofNat 0), (3, .ofNat 1, .ofNat 0))], []),
  (26, [(0, .inr (.inl [50])), (2, .inl (false, (1, .ofNat 1, .ofNat 0))), (3, .inl (false, (0, .ofNat 0, .ofNat 41)))], [], [(1, 63, (3, .ofNat 1, .ofNat 0), (5, .ofNat 1, .ofNat 0), (0, .ofNat 0, .ofNat 0)), (2, 4, (0, .ofNat 0, .ofNat 41), (0, .ofNat 0, .ofNat 40), (0, .ofNat 0, .ofNat 0)), (2, 3, (0, .ofNat 0, .ofNat 41), (0, .ofNat 0, .ofNat 0), (0, .ofNat 0, .ofNat 0)), (2, 4, (1, .ofNat 1, .ofNat 2), (0, .ofNat 0, .ofNat 12), (0, .ofNat 0, .ofNat 0)), (2, 3, (1, .ofNat 1, .ofNat 2), (0, .ofNat 0, .ofNat 0), (0, .ofNat 0, .ofNat 0)), (2, 5, (0, .ofNat 0, .ofNat 40), (0, .ofNat 0, .ofNat 40), (0, .ofNat 0, .ofNat 0)), (2, 3, (0, .ofNat 0, .ofNat 40), (0, .ofNat 0, .ofNat 0), (0, .ofNat 0, .ofNat 0)), (2, 4, (2, .ofNat 1, .ofNat 1), (0, .ofNat 0, .ofNat 40), (0, .ofNat 0, .ofNat 0)), (2, 3, (2, .ofNat 1, .ofNat 1), (0, .ofNat 0, .ofNat 0), (0, .ofNat 0, .ofNat 0)), (0, 51, (4, .ofNat 1, .ofNat 0), (5, .ofNat 1, .ofNat 0), (0, .ofNat 0, .ofNat 0)), (2, 5, (1, .ofNat 1, .ofNat 0), (0, .ofNat 0, .ofNat 12), (0, .ofNat 0, .ofNat 0)), (2, 3, (1, .ofNat 1, .ofNat 0), (0, .ofNat 0, .ofNat 0), (0, .ofNat 0, .ofNat 0)), (2, 5, (2, .ofNat 1, .ofNat 0), (0, .ofNat 0, .ofNat 40), (0, .ofNat 0, .ofNat 0)), (2, 3, (2, .ofNat 1, .ofNat 0), (0, .ofNat 0, .ofNat 0), (0, .ofNat 0, .ofNat 0)), (2, 5, (2, .ofNat 1, .ofNat 0), (0, .ofNat 0, .ofNat 40), (0, .ofNat 0, .ofNat 0))], [(1, [(.ofNat 11, .ofNat 12)]), (2, [(.ofNat 40, .ofNat 40)]), (3, [(.ofNat 0, .ofNat 532)]), (4, [(.ofNat 1012, .ofNat 2024)])], [((2, .ofNat 25, .ofNat 1012), (1, .ofNat 1, .ofNat 0), (4, .ofNat 1, .ofNat 0)), ((1, .ofNat 41, .ofNat 0), (2, .ofNat 1, .ofNat 0), (3, .ofNat 1, .ofNat 0))], []),
  (26, [(0, .inr (.inl [50])), (2, .inl (false, (1, .ofNat 1, .ofNat 0))), (3, .inl (false, (2, .ofNat 1, .ofNat 1)))], [], [(1, 63, (3, .ofNat 1, .ofNat 0), (14, .ofNat 1, .ofNat 0), (0, .ofNat 0, .ofNat 0)), (4, 3, (11, .ofNat 1, .ofNat 0), (13, .ofNat 1, .ofNat 0), (14, .ofNat 1, .ofNat 0)), (0, 51, (12, .ofNat 1, .ofNat 0), (13, .ofNat 1, .ofNat 0), (0, .ofNat 0, .ofNat 0)), (2, 5, (1, .ofNat 1, .ofNat 2), (0, .ofNat 0, .ofNat 12), (0, .ofNat 0, .ofNat 0)), (2, 3, (1, .ofNat 1, .ofNat 2), (0, .ofNat 0, .ofNat 0), (0, .ofNat 0, .ofNat 0)), (2, 5, (2, .ofNat 1, .ofNat 1), (0, .ofNat 0, .ofNat 40), (0, .ofNat 0, .ofNat 0)), (2, 3, (2, .ofNat 1, .ofNat 1), (0, .ofNat 0, .ofNat 0), (0, .ofNat 0, .ofNat 0)), (4, 4, (8, .ofNat 1, .ofNat 0), (10, .ofNat 1, .ofNat 0), (11, .ofNat 1, .ofNat 0)), (0, 51, (9, .ofNat 1, .ofNat 0), (10, .ofNat 1, .ofNat 0), (0, .ofNat 0, .ofNat 0)), (2, 5, (1, .ofNat 1, .ofNat 2), (0, .ofNat 0, .ofNat 12), (0, .ofNat 0, .ofNat 0)), (2, 3, (1, .ofNat 1, .ofNat 2), (0, .ofNat 0, .ofNat 0), (0, .ofNat 0, .ofNat 0)), (2, 5, (2, .ofNat 1, .ofNat 0), (0, .ofNat 0, .ofNat 40), (0, .ofNat 0, .ofNat 0)), (2, 3, (2, .ofNat 1, .ofNat 0), (0, .ofNat 0, .ofNat 0), (0, .ofNat 0, .ofNat 0)), (4, 4, (5, .ofNat 1, .ofNat 0), (7, .ofNat 1, .ofNat 0), (8, .ofNat 1, .ofNat 0)), (0, 51, (6, .ofNat 1, .ofNat 0), (7, .ofNat 1, .ofNat 0), (0, .ofNat 0, .ofNat 0)), (2, 5, (1, .ofNat 1, .ofNat 0), (0, .ofNat 0, .ofNat 12), (0, .ofNat 0, .ofNat 0)), (2, 3, (1, .ofNat 1, .ofNat 0), (0, .ofNat 0, .ofNat 0), (0, .ofNat 0, .ofNat 0)), (2, 5, (2, .ofNat 1, .ofNat 1), (0, .ofNat 0, .ofNat 40), (0, .ofNat 0, .ofNat 0)), (2, 3, (2, .ofNat 1, .ofNat 1), (0, .ofNat 0, .ofNat 0), (0, .ofNat 0, .ofNat 0)), (0, 51, (4, .ofNat 1, .ofNat 0), (5, .ofNat 1, .ofNat 0), (0, .ofNat 0, .ofNat 0)), (2, 5, (1, .ofNat 1, .ofNat 0), (0, .ofNat 0, .ofNat 12), (0, .ofNat 0, .ofNat 0)), (2, 3, (1, .ofNat 1, .ofNat 0), (0, .ofNat 0, .ofNat 0), (0, .ofNat 0, .ofNat 0)), (2, 5, (2, .ofNat 1, .ofNat 0), (0, .ofNat 0, .ofNat 40), (0, .ofNat 0, .ofNat 0)), (2, 3, (2, .ofNat 1, .ofNat 0), (0, .ofNat 0, .ofNat 0), (0, .ofNat 0, .ofNat 0)), (2, 5, (2, .ofNat 1, .ofNat 0), (0, .ofNat 0, .ofNat 40), (0, .ofNat 0, .ofNat 0))], [(1, [(.ofNat 0, .ofNat 10)]), (2, [(.ofNat 0, .ofNat 39)]), (3, [(.ofNat 0, .ofNat 532)]), (4, [(.ofNat 1012, .ofNat 2024)]), (6, [(.ofNat 1037, .ofNat 2024)]), (9, [(.ofNat 1014, .ofNat 1999)]), (12, [(.ofNat 1039, .ofNat 2024)])], [((2, .ofNat 25, .ofNat 1037), (1, .ofNat 1, .ofNat 2), (12, .ofNat 1, .ofNat 0)), ((2, .ofNat 25, .ofNat 1012), (1, .ofNat 1, .ofNat 2), (9, .ofNat 1, .ofNat 0)), ((2, .ofNat 25, .ofNat 1037), (1, .ofNat 1, .ofNat 0), (6, .ofNat 1, .ofNat 0)), ((2, .ofNat 25, .ofNat 1012), (1, .ofNat 1, .ofNat 0), (4, .ofNat 1, .ofNat 0)), ((1, .ofNat 41, .ofNat 0), (2, .ofNat 1, .ofNat 0), (3, .ofNat 1, .ofNat 0))], []),
  (26, [(0, .inr (.inl [50])), (2, .inl (false, (1, .ofNat 1, .ofNat 0))), (3, .inl (false, (2, .ofNat 1, .ofNat 1)))], [], [(1, 63, (3, .ofNat 1, .ofNat 0), (8, .ofNat 1, .ofNat 0), (0, .ofNat 0, .ofNat 0)), (2, 4, (1, .ofNat 1, .ofNat 2), (0, .ofNat 0, .ofNat 12), (0, .ofNat 0, .ofNat 0)), (2, 3, (1, .ofNat 1, .ofNat 2), (0, .ofNat 0, .ofNat 0), (0, .ofNat 0, .ofNat 0)), (2, 5, (2, .ofNat 1, .ofNat 1), (0, .ofNat 0, .ofNat 40), (0, .ofNat 0, .ofNat 0)), (2, 3, (2, .ofNat 1, .ofNat 1), (0, .ofNat 0, .ofNat 0), (0, .ofNat 0, .ofNat 0)), (2, 4, (1, .ofNat 1, .ofNat 2), (0, .ofNat 0, .ofNat 12), (0, .ofNat 0, .ofNat 0)), (2, 3, (1, .ofNat 1, .ofNat 2), (0, .ofNat 0, .ofNat 0), (0, .ofNat 0, .ofNat 0)), (2, 5, (2, .ofNat 1, .ofNat 0), (0, .ofNat 0, .ofNat 40), (0, .ofNat 0, .ofNat 0)), (2, 3, (2, .ofNat 1, .ofNat 0), (0, .ofNat 0, .ofNat 0), (0, .ofNat 0, .ofNat 0)), (4, 4, (5, .ofNat 1, .ofNat 0), (7, .ofNat 1, .ofNat 0), (8, .ofNat 1, .ofNat 0)), (0, 51, (6, .ofNat 1, .ofNat 0), (7, .ofNat 1, .ofNat 0), (0, .ofNat 0, .ofNat 0)), (2, 5, (1, .ofNat 1, .ofNat 0), (0, .ofNat 0, .ofNat 12), (0, .ofNat 0, .ofNat 0)), (2, 3, (1, .ofNat 1, .ofNat 0), (0, .ofNat 0, .ofNat 0), (0, .ofNat 0, .ofNat 0)), (2, 5, (2, .ofNat 1, .ofNat 1), (0, .ofNat 0, .ofNat 40), (0, .ofNat 0, .ofNat 0)), (2, 3, (2, .ofNat 1, .ofNat 1), (0, .ofNat 0, .ofNat 0), (0, .ofNat 0, .ofNat 0)), (0, 51, (4, .ofNat 1, .ofNat 0), (5, .ofNat 1, .ofNat 0), (0, .ofNat 0, .ofNat 0)), (2, 5, (1, .ofNat 1, .ofNat 0), (0, .ofNat 0, .ofNat 12), (0, .ofNat 0, .ofNat 0)), (2, 3, (1, .ofNat 1, .ofNat 0), (0, .ofNat 0, .ofNat 0), (0, .ofNat 0, .ofNat 0)), (2, 5, (2, .ofNat 1, .ofNat 0), (0, .ofNat 0, .ofNat 40), (0, .ofNat 0, .ofNat 0)), (2, 3, (2, .ofNat 1, .ofNat 0), (0, .ofNat 0, .ofNat 0), (0, .ofNat 0, .ofNat 0)), (2, 5, (2, .ofNat 1, .ofNat 0), (0, .ofNat 0, .ofNat 40), (0, .ofNat 0, .ofNat 0))], [(1, [(.ofNat 11, .ofNat 12)]), (2, [(.ofNat 0, .ofNat 39)]), (3, [(.ofNat 0, .ofNat 532)]), (4, [(.ofNat 1012, .ofNat 2024)]), (6, [(.ofNat 1037, .ofNat 2024)])], [((2, .ofNat 25, .ofNat 1037), (1, .ofNat 1, .ofNat 0), (6, .ofNat 1, .ofNat 0)), ((2, .ofNat 25, .ofNat 1012), (1, .ofNat 1, .ofNat 0), (4, .ofNat 1, .ofNat 0)), ((1, .ofNat 41, .ofNat 0), (2, .ofNat 1, .ofNat 0), (3, .ofNat 1, .ofNat 0))], [])]
set_option maxRecDepth 1000000 in
theorem sg_fn_c_g : sg_go [] [25, 17] 3000 19 25 2 3 [(0, [(.ofNat 0, .ofNat 0)]), (1, [(.ofNat 0, .ofNat 12)]), (2, [(.ofNat 0, .ofNat 41)])] [] [] [] [(0, .inr (.inl [50])), (2, .inl (false, (1, .ofNat 1, .ofNat 0))), (3, .inl (false, (2, .ofNat 1, .ofNat 0)))] [] [(63, none)] sg_fn_c_Z = true := by decide +kernel
set_option maxRecDepth 100000 in
theorem sg_fn_c {Q : Option Value × am_S → Prop} {d : Nat} {S : am_S} {L : am_L} {x1 x2 : Int} (hd : 2 ≤ d) (hP : ax_P0 none S) (l0 : lc L 0 50) (l2 : li L 2 x1) (l3 : li L 3 x2) (b1 : (0 ≤ x1 ∧ x1 ≤ 12)) (b2 : (0 ≤ x2 ∧ x2 ≤ 41))
    (k0 : ∀ (L' : am_L) (S' : am_S), ax_P0 none S' → rd S' = rd S → 40 < x2 → (0 ≤ x1 ∧ x1 ≤ 12) → (41 ≤ x2 ∧ x2 ≤ 41) → lc L' 0 50 → li L' 2 (x1 + 1) → li L' 3 41 → am_V none d 19 17 L' ([]) S' Q)
    (k1 : ∀ (x3 x4 x5 x6 x7 : Int) (L' : am_L) (S' : am_S), ax_P0 none S' → rd S' = sg_up (rd S) 63 x3 x7 → x2 ≤ 40 → 0 ≤ x2 → x2 ≤ 40 → 0 ≤ x1 → x1 ≤ 12 → rd S 51 x4 = x5 → 0 ≤ x2 + 1 → 40 < x2 + 1 → 0 ≤ x1 + 2 → x1 + 2 ≤ 12 → rd S 51 (x1 + 2014) = x6 → (∃ a b : Int64, a.toInt = x5 ∧ b.toInt = x6 ∧ (a - b).toInt = x7) → (0 ≤ x1 ∧ x1 ≤ 10) → (40 ≤ x2 ∧ x2 ≤ 40) → (0 ≤ x3 ∧ x3 ≤ 532) → (1012 ≤ x4 ∧ x4 ≤ 2024) → (25 * x2 + 1012) + x1 = x4 → (41 * x1 + 0) + x2 = x3 → lc L' 0 50 → li L' 2 x1 → li L' 3 41 → am_V none d 19 25 L' ([]) S' Q)
    (k2 : ∀ (x3 x4 x5 : Int) (L' : am_L) (S' : am_S), ax_P0 none S' → rd S' = sg_up (rd S) 63 x3 x5 → x2 ≤ 40 → 0 ≤ x2 → x2 ≤ 40 → 0 ≤ x1 → x1 ≤ 12 → rd S 51 x4 = x5 → 0 ≤ x2 + 1 → 40 < x2 + 1 → 0 ≤ x1 + 2 → 12 < x1 + 2 → (11 ≤ x1 ∧ x1 ≤ 12) → (40 ≤ x2 ∧ x2 ≤ 40) → (0 ≤ x3 ∧ x3 ≤ 532) → (1012 ≤ x4 ∧ x4 ≤ 2024) → (25 * x2 + 1012) + x1 = x4 → (41 * x1 + 0) + x2 = x3 → lc L' 0 50 → li L' 2 x1 → li L' 3 41 → am_V none d 19 25 L' ([]) S' Q)
    (k3 : ∀ (x3 x4 x5 x6 x7 x8 x9 x10 x11 x12 x13 x14 : Int) (L' : am_L) (S' : am_S), ax_P0 none S' → rd S' = sg_up (rd S) 63 x3 x14 → x2 ≤ 40 → 0 ≤ x2 → x2 ≤ 40 → 0 ≤ x1 → x1 ≤ 12 → rd S 51 x4 = x5 → 0 ≤ x2 + 1 → x2 + 1 ≤ 40 → 0 ≤ x1 → x1 ≤ 12 → rd S 51 x6 = x7 → (∃ a b : Int64, a.toInt = x5 ∧ b.toInt = x7 ∧ (a - b).toInt = x8) → 0 ≤ x2 → x2 ≤ 40 → 0 ≤ x1 + 2 → x1 + 2 ≤ 12 → rd S 51 x9 = x10 → (∃ a b : Int64, a.toInt = x8 ∧ b.toInt = x10 ∧ (a - b).toInt = x11) → 0 ≤ x2 + 1 → x2 + 1 ≤ 40 → 0 ≤ x1 + 2 → x1 + 2 ≤ 12 → rd S 51 x12 = x13 → (∃ a b : Int64, a.toInt = x11 ∧ b.toInt = x13 ∧ (a + b).toInt = x14) → (0 ≤ x1 ∧ x1 ≤ 10) → (0 ≤ x2 ∧ x2 ≤ 39) → (0 ≤ x3 ∧ x3 ≤ 532) → (1012 ≤ x4 ∧ x4 ≤ 2024) → (1037 ≤ x6 ∧ x6 ≤ 2024) → (1014 ≤ x9 ∧ x9 ≤ 1999) → (1039 ≤ x12 ∧ x12 ≤ 2024) → (25 * x2 + 1037) + (x1 + 2) = x12 → (25 * x2 + 1012) + (x1 + 2) = x9 → (25 * x2 + 1037) + x1 = x6 → (25 * x2 + 1012) + x1 = x4 → (41 * x1 + 0) + x2 = x3 → lc L' 0 50 → li L' 2 x1 → li L' 3 (x2 + 1) → am_V none d 19 25 L' ([]) S' Q)
    (k4 : ∀ (x3 x4 x5 x6 x7 x8 : Int) (L' : am_L) (S' : am_S), ax_P0 none S' → rd S' = sg_up (rd S) 63 x3 x8 → x2 ≤ 40 → 0 ≤ x2 → x2 ≤ 40 → 0 ≤ x1 → x1 ≤ 12 → rd S 51 x4 = x5 → 0 ≤ x2 + 1 → x2 + 1 ≤ 40 → 0 ≤ x1 → x1 ≤ 12 → rd S 51 x6 = x7 → (∃ a b : Int64, a.toInt = x5 ∧ b.toInt = x7 ∧ (a - b).toInt = x8) → 0 ≤ x2 → x2 ≤ 40 → 0 ≤ x1 + 2 → 12 < x1 + 2 → 0 ≤ x2 + 1 → x2 + 1 ≤ 40 → 0 ≤ x1 + 2 → 12 < x1 + 2 → (11 ≤ x1 ∧ x1 ≤ 12) → (0 ≤ x2 ∧ x2 ≤ 39) → (0 ≤ x3 ∧ x3 ≤ 532) → (1012 ≤ x4 ∧ x4 ≤ 2024) → (1037 ≤ x6 ∧ x6 ≤ 2024) → (25 * x2 + 1037) + x1 = x6 → (25 * x2 + 1012) + x1 = x4 → (41 * x1 + 0) + x2 = x3 → lc L' 0 50 → li L' 2 x1 → li L' 3 (x2 + 1) → am_V none d 19 25 L' ([]) S' Q) : am_V none d 19 25 L ([]) S Q := by
  refine sg_use sg_fn_c_g hd hP (sg_xs [0, x1, x2]) ⟨⟨Int.le_refl 0, Int.le_refl 0⟩, b1, b2, trivial⟩ trivial trivial trivial ⟨l0, l2, l3, trivial⟩ trivial ?_
  intro z hz x' L' st' S' hx hP' hW hL' hs' hJ hE' hT' hD'
  have q1 : x' 1 = x1 := hx 1 (by decide)
  subst q1
  have q2 : x' 2 = x2 := hx 2 (by decide)
  subst q2
  simp only [sg_fn_c_Z, List.mem_cons, List.not_mem_nil, or_false] at hz
  rcases hz with rfl | rfl | rfl | rfl | rfl
  · obtain ⟨f0, hσ⟩ := hJ
    obtain ⟨e0, e1, -⟩ := hE'
    obtain ⟨p0, p1, p2, -⟩ := hL'
    obtain rfl := sg_tn hs'
    exact k0 L' S' hP' hσ f0 e0 e1 p0 p1 p2
  · obtain ⟨f0, f1, f2, f3, f4, f5, f6, f7, -, -, f10, f11, f12, f13, -, -, hσ⟩ := hJ
    obtain ⟨e0, e1, e2, e3, -⟩ := hE'
    obtain ⟨t0, t1, -⟩ := hT'
    obtain ⟨p0, p1, p2, -⟩ := hL'
    obtain rfl := sg_tn hs'
    exact k1 (x' 3) (x' 4) (x' 5) (x' 6) (x' 7) L' S' hP' hσ f0 f1 f2 f3 f4 f5 f6 f7 f10 f11 f12 f13 e0 e1 e2 e3 t0 t1 p0 p1 p2
  · obtain ⟨f0, f1, f2, f3, f4, f5, f6, f7, -, -, f10, f11, -, -, hσ⟩ := hJ
    obtain ⟨e0, e1, e2, e3, -⟩ := hE'
    obtain ⟨t0, t1, -⟩ := hT'
    obtain ⟨p0, p1, p2, -⟩ := hL'
    obtain rfl := sg_tn hs'
    exact k2 (x' 3) (x' 4) (x' 5) L' S' hP' hσ f0 f1 f2 f3 f4 f5 f6 f7 f10 f11 e0 e1 e2 e3 t0 t1 p0 p1 p2
  · obtain ⟨f0, f1, f2, f3, f4, f5, f6, f7, f8, f9, f10, f11, f12, f13, f14, f15, f16, f17, f18, f19, f20, f21, f22, f23, hσ⟩ := hJ
    obtain ⟨e0, e1, e2, e3, e4, e5, e6, -⟩ := hE'
    obtain ⟨t0, t1, t2, t3, t4, -⟩ := hT'
    obtain ⟨p0, p1, p2, -⟩ := hL'
    obtain rfl := sg_tn hs'
    exact k3 (x' 3) (x' 4) (x' 5) (x' 6) (x' 7) (x' 8) (x' 9) (x' 10) (x' 11) (x' 12) (x' 13) (x' 14) L' S' hP' hσ f0 f1 f2 f3 f4 f5 f6 f7 f8 f9 f10 f11 f12 f13 f14 f15 f16 f17 f18 f19 f20 f21 f22 f23 e0 e1 e2 e3 e4 e5 e6 t0 t1 t2 t3 t4 p0 p1 p2
  · obtain ⟨f0, f1, f2, f3, f4, f5, f6, f7, f8, f9, f10, f11, f12, f13, f14, f15, f16, f17, f18, f19, hσ⟩ := hJ
    obtain ⟨e0, e1, e2, e3, e4, -⟩ := hE'
    obtain ⟨t0, t1, t2, -⟩ := hT'
    obtain ⟨p0, p1, p2, -⟩ := hL'
    obtain rfl := sg_tn hs'
    exact k4 (x' 3) (x' 4) (x' 5) (x' 6) (x' 7) (x' 8) L' S' hP' hσ f0 f1 f2 f3 f4 f5 f6 f7 f8 f9 f10 f11 f12 f13 f14 f15 f16 f17 f18 f19 e0 e1 e2 e3 e4 t0 t1 t2 p0 p1 p2
