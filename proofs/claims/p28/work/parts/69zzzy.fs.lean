/-! ===== fillings: what happens from place to place (the class) ===== -/
def sg_ch_a_Z : List sg_z := [(3, [(0, .inr (.inl [50])), (1, .inl (false, (1, .ofNat 1, .ofNat 0))), (2, .inl (false, (0, .ofNat 0, .ofNat 0)))], [], [], [(1, [(.ofNat 0, .ofNat 3)])], [], [])]
set_option maxRecDepth 1000000 in
theorem sg_ch_a_g : sg_go [] [2] 3000 15 0 0 2 [(0, [(.ofNat 0, .ofNat 0)]), (1, [(.ofNat 0, .ofNat 3)])] [] [] [] [(0, .inr (.inl [50])), (1, .inl (false, (1, .ofNat 1, .ofNat 0)))] [] [] sg_ch_a_Z = true := by decide +kernel
set_option maxRecDepth 100000 in
theorem sg_ch_a {Q : Option Value × am_S → Prop} {d : Nat} {S : am_S} {L : am_L} {x1 : Int} (hd : 0 ≤ d) (hP : ax_P0 none S) (l0 : lc L 0 50) (l1 : li L 1 x1) (b1 : (0 ≤ x1 ∧ x1 ≤ 3))
    (k0 : ∀ (L' : am_L), (0 ≤ x1 ∧ x1 ≤ 3) → lc L' 0 50 → li L' 1 x1 → li L' 2 0 → am_V none d 15 2 L' ([]) S Q) : am_V none d 15 0 L ([]) S Q := by
  refine sg_use sg_ch_a_g hd hP (sg_xs [0, x1]) ⟨⟨Int.le_refl 0, Int.le_refl 0⟩, b1, trivial⟩ trivial trivial trivial ⟨l0, l1, trivial⟩ trivial ?_
  intro z hz x' L' st' S' hx hP' hW hL' hs' hJ hE' hT' hD'
  have q1 : x' 1 = x1 := hx 1 (by decide)
  subst q1
  have eS : S' = S := hW.1 rfl
  subst eS
  simp only [sg_ch_a_Z, List.mem_cons, List.not_mem_nil, or_false] at hz
  rcases hz with rfl
  · have hσ := hJ
    obtain ⟨e0, -⟩ := hE'
    obtain ⟨p0, p1, p2, -⟩ := hL'
    obtain rfl := sg_tn hs'
    exact k0 L' e0 p0 p1 p2
def sg_ch_b_Z : List sg_z := [(38, [(0, .inr (.inl [50])), (1, .inl (false, (1, .ofNat 1, .ofNat 0))), (2, .inl (false, (1, .negSucc 0, .ofNat 0)))], [], [(1, 54, (0, .ofNat 0, .ofNat 6), (0, .ofNat 0, .ofNat 1), (0, .ofNat 0, .ofNat 0)), (2, 4, (2, .ofNat 1, .ofNat 0), (0, .ofNat 0, .ofNat 7), (0, .ofNat 0, .ofNat 0))], [(1, [(.ofNat 0, .ofNat 3)]), (2, [(.ofNat 8, .ofNat 8)])], [], []),
  (16, [(0, .inr (.inl [50])), (1, .inl (false, (1, .ofNat 1, .ofNat 0))), (2, .inl (false, (0, .ofNat 0, .ofNat 7)))], [.inl (true, (0, .ofNat 0, .ofNat 0)), .inr (.inl [61])], [(2, 5, (2, .ofNat 1, .ofNat 0), (0, .ofNat 0, .ofNat 7), (0, .ofNat 0, .ofNat 0))], [(1, [(.ofNat 0, .ofNat 3)]), (2, [(.ofNat 7, .ofNat 7)])], [], []),
  (16, [(0, .inr (.inl [50])), (1, .inl (false, (1, .ofNat 1, .ofNat 0))), (2, .inl (false, (0, .ofNat 0, .ofNat 6)))], [.inl (true, (0, .ofNat 0, .ofNat 0)), .inr (.inl [60])], [(2, 5, (2, .ofNat 1, .ofNat 0), (0, .ofNat 0, .ofNat 7), (0, .ofNat 0, .ofNat 0))], [(1, [(.ofNat 0, .ofNat 3)]), (2, [(.ofNat 6, .ofNat 6)])], [], []),
  (16, [(0, .inr (.inl [50])), (1, .inl (false, (1, .ofNat 1, .ofNat 0))), (2, .inl (false, (0, .ofNat 0, .ofNat 5)))], [.inl (true, (0, .ofNat 0, .ofNat 0)), .inr (.inl [59])], [(2, 5, (2, .ofNat 1, .ofNat 0), (0, .ofNat 0, .ofNat 7), (0, .ofNat 0, .ofNat 0))], [(1, [(.ofNat 0, .ofNat 3)]), (2, [(.ofNat 5, .ofNat 5)])], [], []),
  (16, [(0, .inr (.inl [50])), (1, .inl (false, (1, .ofNat 1, .ofNat 0))), (2, .inl (false, (0, .ofNat 0, .ofNat 4)))], [.inl (true, (0, .ofNat 0, .ofNat 0)), .inr (.inl [58])], [(2, 5, (2, .ofNat 1, .ofNat 0), (0, .ofNat 0, .ofNat 7), (0, .ofNat 0, .ofNat 0))], [(1, [(.ofNat 0, .ofNat 3)]), (2, [(.ofNat 4, .ofNat 4)])], [], []),
  (16, [(0, .inr (.inl [50])), (1, .inl (false, (1, .ofNat 1, .ofNat 0))), (2, .inl (false, (0, .ofNat 0, .ofNat 3)))], [.inl (true, (0, .ofNat 0, .ofNat 0)), .inr (.inl [57])], [(2, 5, (2, .ofNat 1, .ofNat 0), (0, .ofNat 0, .ofNat 7), (0, .ofNat 0, .ofNat 0))], [(1, [(.ofNat 0, .ofNat 3)]), (2, [(.ofNat 3, .ofNat 3)])], [], []),
  (16, [(0, .inr (.inl [50])), (1, .inl (false, (1, .ofNat 1, .ofNat 0))), (2, .inl (false, (0, .ofNat 0, .ofNat 2)))], [.inl (true, (0, .ofNat 0, .ofNat 0)), .inr (.inl [56])], [(2, 5, (2, .ofNat 1, .ofNat 0), (0, .ofNat 0, .ofNat 7), (0, .ofNat 0, .ofNat 0))], [(1, [(.ofNat 0, .ofNat 3)]), (2, [(.ofNat 2, .ofNat 2)])], [], []),
  (16, [(0, .inr (.inl [50])), (1, .inl (false, (1, .ofNat 1, .ofNat 0))), (2, .inl (false, (0, .ofNat 0, .ofNat 1)))], [.inl (true, (0, .ofNat 0, .ofNat 0)), .inr (.inl [55])], [(2, 5, (2, .ofNat 1, .ofNat 0), (0, .ofNat 0, .ofNat 7), (0, .ofNat 0, .ofNat 0))], [(1, [(.ofNat 0, .ofNat 3)]), (2, [(.ofNat 1, .ofNat 1)])], [], []),
  (16, [(0, .inr (.inl [50])), (1, .inl (false, (1, .ofNat 1, .ofNat 0))), (2, .inl (false, (0, .ofNat 0, .ofNat 0)))], [.inl (true, (0, .ofNat 0, .ofNat 0)), .inr (.inl [54])], [(2, 5, (2, .ofNat 1, .ofNat 0), (0, .ofNat 0, .ofNat 7), (0, .ofNat 0, .ofNat 0))], [(1, [(.ofNat 0, .ofNat 3)]), (2, [(.ofNat 0, .ofNat 0)])], [], [])]
set_option maxRecDepth 1000000 in
theorem sg_ch_b_g : sg_go [(983048, .inr 2)] [15, 37] 3000 15 2 0 3 [(0, [(.ofNat 0, .ofNat 0)]), (1, [(.ofNat 0, .ofNat 3)]), (2, [(.ofNat 0, .ofNat 8)])] [] [] [] [(0, .inr (.inl [50])), (1, .inl (false, (1, .ofNat 1, .ofNat 0))), (2, .inl (false, (2, .ofNat 1, .ofNat 0)))] [] [(54, none)] sg_ch_b_Z = true := by decide +kernel
set_option maxRecDepth 100000 in
theorem sg_ch_b {Q : Option Value × am_S → Prop} {d : Nat} {S : am_S} {L : am_L} {x1 x2 : Int} (hd : 0 ≤ d) (hP : ax_P0 none S) (l0 : lc L 0 50) (l1 : li L 1 x1) (l2 : li L 2 x2) (b1 : (0 ≤ x1 ∧ x1 ≤ 3)) (b2 : (0 ≤ x2 ∧ x2 ≤ 8))
    (k0 : ∀ (L' : am_L) (S' : am_S), ax_P0 none S' → rd S' = sg_up (rd S) 54 6 1 → 7 < x2 → (0 ≤ x1 ∧ x1 ≤ 3) → (8 ≤ x2 ∧ x2 ≤ 8) → lc L' 0 50 → li L' 1 x1 → li L' 2 ((-1) * x1 + 0) → am_V none d 15 37 L' ([]) S' Q)
    (k1 : ∀ (L' : am_L) (S' : am_S) (i1 : Int64), ax_P0 none S' → rd S' = rd S → x2 ≤ 7 → (0 ≤ x1 ∧ x1 ≤ 3) → (7 ≤ x2 ∧ x2 ≤ 7) → lc L' 0 50 → li L' 1 x1 → li L' 2 7 → i1.toInt = 0 → am_V none d 15 15 L' ((.long i1) :: (.ref 61) :: []) S' Q)
    (k2 : ∀ (L' : am_L) (S' : am_S) (i1 : Int64), ax_P0 none S' → rd S' = rd S → x2 ≤ 7 → (0 ≤ x1 ∧ x1 ≤ 3) → (6 ≤ x2 ∧ x2 ≤ 6) → lc L' 0 50 → li L' 1 x1 → li L' 2 6 → i1.toInt = 0 → am_V none d 15 15 L' ((.long i1) :: (.ref 60) :: []) S' Q)
    (k3 : ∀ (L' : am_L) (S' : am_S) (i1 : Int64), ax_P0 none S' → rd S' = rd S → x2 ≤ 7 → (0 ≤ x1 ∧ x1 ≤ 3) → (5 ≤ x2 ∧ x2 ≤ 5) → lc L' 0 50 → li L' 1 x1 → li L' 2 5 → i1.toInt = 0 → am_V none d 15 15 L' ((.long i1) :: (.ref 59) :: []) S' Q)
    (k4 : ∀ (L' : am_L) (S' : am_S) (i1 : Int64), ax_P0 none S' → rd S' = rd S → x2 ≤ 7 → (0 ≤ x1 ∧ x1 ≤ 3) → (4 ≤ x2 ∧ x2 ≤ 4) → lc L' 0 50 → li L' 1 x1 → li L' 2 4 → i1.toInt = 0 → am_V none d 15 15 L' ((.long i1) :: (.ref 58) :: []) S' Q)
    (k5 : ∀ (L' : am_L) (S' : am_S) (i1 : Int64), ax_P0 none S' → rd S' = rd S → x2 ≤ 7 → (0 ≤ x1 ∧ x1 ≤ 3) → (3 ≤ x2 ∧ x2 ≤ 3) → lc L' 0 50 → li L' 1 x1 → li L' 2 3 → i1.toInt = 0 → am_V none d 15 15 L' ((.long i1) :: (.ref 57) :: []) S' Q)
    (k6 : ∀ (L' : am_L) (S' : am_S) (i1 : Int64), ax_P0 none S' → rd S' = rd S → x2 ≤ 7 → (0 ≤ x1 ∧ x1 ≤ 3) → (2 ≤ x2 ∧ x2 ≤ 2) → lc L' 0 50 → li L' 1 x1 → li L' 2 2 → i1.toInt = 0 → am_V none d 15 15 L' ((.long i1) :: (.ref 56) :: []) S' Q)
    (k7 : ∀ (L' : am_L) (S' : am_S) (i1 : Int64), ax_P0 none S' → rd S' = rd S → x2 ≤ 7 → (0 ≤ x1 ∧ x1 ≤ 3) → (1 ≤ x2 ∧ x2 ≤ 1) → lc L' 0 50 → li L' 1 x1 → li L' 2 1 → i1.toInt = 0 → am_V none d 15 15 L' ((.long i1) :: (.ref 55) :: []) S' Q)
    (k8 : ∀ (L' : am_L) (S' : am_S) (i1 : Int64), ax_P0 none S' → rd S' = rd S → x2 ≤ 7 → (0 ≤ x1 ∧ x1 ≤ 3) → (0 ≤ x2 ∧ x2 ≤ 0) → lc L' 0 50 → li L' 1 x1 → li L' 2 0 → i1.toInt = 0 → am_V none d 15 15 L' ((.long i1) :: (.ref 54) :: []) S' Q) : am_V none d 15 2 L ([]) S Q := by
  refine sg_use sg_ch_b_g hd hP (sg_xs [0, x1, x2]) ⟨⟨Int.le_refl 0, Int.le_refl 0⟩, b1, b2, trivial⟩ trivial trivial trivial ⟨l0, l1, l2, trivial⟩ trivial ?_
  intro z hz x' L' st' S' hx hP' hW hL' hs' hJ hE' hT' hD'
  have q1 : x' 1 = x1 := hx 1 (by decide)
  subst q1
  have q2 : x' 2 = x2 := hx 2 (by decide)
  subst q2
  simp only [sg_ch_b_Z, List.mem_cons, List.not_mem_nil, or_false] at hz
  rcases hz with rfl | rfl | rfl | rfl | rfl | rfl | rfl | rfl | rfl
  · obtain ⟨f0, hσ⟩ := hJ
    obtain ⟨e0, e1, -⟩ := hE'
    obtain ⟨p0, p1, p2, -⟩ := hL'
    obtain rfl := sg_tn hs'
    exact k0 L' S' hP' hσ f0 e0 e1 p0 p1 p2
  · obtain ⟨f0, hσ⟩ := hJ
    obtain ⟨e0, e1, -⟩ := hE'
    obtain ⟨p0, p1, p2, -⟩ := hL'
    obtain ⟨v1, r1, rfl, ⟨i1, rfl, g1⟩, hs1⟩ := sg_tc hs'
    obtain ⟨v2, r2, rfl, rfl, hs2⟩ := sg_tc hs1
    obtain rfl := sg_tn hs2
    exact k1 L' S' i1 hP' hσ f0 e0 e1 p0 p1 p2 g1
  · obtain ⟨f0, hσ⟩ := hJ
    obtain ⟨e0, e1, -⟩ := hE'
    obtain ⟨p0, p1, p2, -⟩ := hL'
    obtain ⟨v1, r1, rfl, ⟨i1, rfl, g1⟩, hs1⟩ := sg_tc hs'
    obtain ⟨v2, r2, rfl, rfl, hs2⟩ := sg_tc hs1
    obtain rfl := sg_tn hs2
    exact k2 L' S' i1 hP' hσ f0 e0 e1 p0 p1 p2 g1
  · obtain ⟨f0, hσ⟩ := hJ
    obtain ⟨e0, e1, -⟩ := hE'
    obtain ⟨p0, p1, p2, -⟩ := hL'
    obtain ⟨v1, r1, rfl, ⟨i1, rfl, g1⟩, hs1⟩ := sg_tc hs'
    obtain ⟨v2, r2, rfl, rfl, hs2⟩ := sg_tc hs1
    obtain rfl := sg_tn hs2
    exact k3 L' S' i1 hP' hσ f0 e0 e1 p0 p1 p2 g1
  · obtain ⟨f0, hσ⟩ := hJ
    obtain ⟨e0, e1, -⟩ := hE'
    obtain ⟨p0, p1, p2, -⟩ := hL'
    obtain ⟨v1, r1, rfl, ⟨i1, rfl, g1⟩, hs1⟩ := sg_tc hs'
    obtain ⟨v2, r2, rfl, rfl, hs2⟩ := sg_tc hs1
    obtain rfl := sg_tn hs2
    exact k4 L' S' i1 hP' hσ f0 e0 e1 p0 p1 p2 g1
  · obtain ⟨f0, hσ⟩ := hJ
    obtain ⟨e0, e1, -⟩ := hE'
    obtain ⟨p0, p1, p2, -⟩ := hL'
    obtain ⟨v1, r1, rfl, ⟨i1, rfl, g1⟩, hs1⟩ := sg_tc hs'
    obtain ⟨v2, r2, rfl, rfl, hs2⟩ := sg_tc hs1
    obtain rfl := sg_tn hs2
    exact k5 L' S' i1 hP' hσ f0 e0 e1 p0 p1 p2 g1
  · obtain ⟨f0, hσ⟩ := hJ
    obtain ⟨e0, e1, -⟩ := hE'
    obtain ⟨p0, p1, p2, -⟩ := hL'
    obtain ⟨v1, r1, rfl, ⟨i1, rfl, g1⟩, hs1⟩ := sg_tc hs'
    obtain ⟨v2, r2, rfl, rfl, hs2⟩ := sg_tc hs1
    obtain rfl := sg_tn hs2
    exact k6 L' S' i1 hP' hσ f0 e0 e1 p0 p1 p2 g1
  · obtain ⟨f0, hσ⟩ := hJ
    obtain ⟨e0, e1, -⟩ := hE'
    obtain ⟨p0, p1, p2, -⟩ := hL'
    obtain ⟨v1, r1, rfl, ⟨i1, rfl, g1⟩, hs1⟩ := sg_tc hs'
    obtain ⟨v2, r2, rfl, rfl, hs2⟩ := sg_tc hs1
    obtain rfl := sg_tn hs2
    exact k7 L' S' i1 hP' hσ f0 e0 e1 p0 p1 p2 g1
  · obtain ⟨f0, hσ⟩ := hJ
    obtain ⟨e0, e1, -⟩ := hE'
    obtain ⟨p0, p1, p2, -⟩ := hL'
    obtain ⟨v1, r1, rfl, ⟨i1, rfl, g1⟩, hs1⟩ := sg_tc hs'
    obtain ⟨v2, r2, rfl, rfl, hs2⟩ := sg_tc hs1
    obtain rfl := sg_tn hs2
    exact k8 L' S' i1 hP' hσ f0 e0 e1 p0 p1 p2 g1
def sg_ch_c_Z : List sg_z := [(3, [(0, .inr (.inl [50])), (1, .inl (false, (1, .ofNat 1, .ofNat 0))), (2, .inl (false, (2, .ofNat 1, .ofNat 1)))], [], [], [(1, [(.ofNat 0, .ofNat 3)]), (2, [(.ofNat 0, .ofNat 7)])], [], [])]
set_option maxRecDepth 1000000 in
theorem sg_ch_c_g : sg_go [] [2] 3000 15 18 0 3 [(0, [(.ofNat 0, .ofNat 0)]), (1, [(.ofNat 0, .ofNat 3)]), (2, [(.ofNat 0, .ofNat 7)])] [] [] [] [(0, .inr (.inl [50])), (1, .inl (false, (1, .ofNat 1, .ofNat 0))), (2, .inl (false, (2, .ofNat 1, .ofNat 0)))] [] [] sg_ch_c_Z = true := by decide +kernel
set_option maxRecDepth 100000 in
theorem sg_ch_c {Q : Option Value × am_S → Prop} {d : Nat} {S : am_S} {L : am_L} {x1 x2 : Int} (hd : 0 ≤ d) (hP : ax_P0 none S) (l0 : lc L 0 50) (l1 : li L 1 x1) (l2 : li L 2 x2) (b1 : (0 ≤ x1 ∧ x1 ≤ 3)) (b2 : (0 ≤ x2 ∧ x2 ≤ 7))
    (k0 : ∀ (L' : am_L), (0 ≤ x1 ∧ x1 ≤ 3) → (0 ≤ x2 ∧ x2 ≤ 7) → lc L' 0 50 → li L' 1 x1 → li L' 2 (x2 + 1) → am_V none d 15 2 L' ([]) S Q) : am_V none d 15 18 L ([]) S Q := by
  refine sg_use sg_ch_c_g hd hP (sg_xs [0, x1, x2]) ⟨⟨Int.le_refl 0, Int.le_refl 0⟩, b1, b2, trivial⟩ trivial trivial trivial ⟨l0, l1, l2, trivial⟩ trivial ?_
  intro z hz x' L' st' S' hx hP' hW hL' hs' hJ hE' hT' hD'
  have q1 : x' 1 = x1 := hx 1 (by decide)
  subst q1
  have q2 : x' 2 = x2 := hx 2 (by decide)
  subst q2
  have eS : S' = S := hW.1 rfl
  subst eS
  simp only [sg_ch_c_Z, List.mem_cons, List.not_mem_nil, or_false] at hz
  rcases hz with rfl
  · have hσ := hJ
    obtain ⟨e0, e1, -⟩ := hE'
    obtain ⟨p0, p1, p2, -⟩ := hL'
    obtain rfl := sg_tn hs'
    exact k0 L' e0 e1 p0 p1 p2
def sg_ch_d_Z : List sg_z := [(0, [], [], [(2, 4, (2, .ofNat 1, .ofNat 0), (1, .ofNat 1, .ofNat 0), (0, .ofNat 0, .ofNat 0))], [(1, [(.ofNat 0, .ofNat 3)]), (2, [(.ofNat 1, .ofNat 4)])], [], []),
  (46, [(0, .inr (.inl [50])), (1, .inl (false, (1, .ofNat 1, .ofNat 0))), (2, .inl (false, (2, .ofNat 1, .ofNat 0))), (3, .inl (false, (0, .ofNat 0, .ofNat 7)))], [], [(2, 5, (2, .ofNat 1, .ofNat 0), (1, .ofNat 1, .ofNat 0), (0, .ofNat 0, .ofNat 0))], [(1, [(.ofNat 0, .ofNat 3)]), (2, [(.negSucc 2, .ofNat 3)])], [], [])]
set_option maxRecDepth 1000000 in
theorem sg_ch_d_g : sg_go [] [45] 3000 15 37 0 3 [(0, [(.ofNat 0, .ofNat 0)]), (1, [(.ofNat 0, .ofNat 3)]), (2, [(.negSucc 2, .ofNat 4)])] [] [] [] [(0, .inr (.inl [50])), (1, .inl (false, (1, .ofNat 1, .ofNat 0))), (2, .inl (false, (2, .ofNat 1, .ofNat 0)))] [] [] sg_ch_d_Z = true := by decide +kernel
set_option maxRecDepth 100000 in
theorem sg_ch_d {Q : Option Value × am_S → Prop} {d : Nat} {S : am_S} {L : am_L} {x1 x2 : Int} (hd : 0 ≤ d) (hP : ax_P0 none S) (l0 : lc L 0 50) (l1 : li L 1 x1) (l2 : li L 2 x2) (b1 : (0 ≤ x1 ∧ x1 ≤ 3)) (b2 : ((-3) ≤ x2 ∧ x2 ≤ 4))
    (k0 : x1 < x2 → (0 ≤ x1 ∧ x1 ≤ 3) → (1 ≤ x2 ∧ x2 ≤ 4) → Q (none, S))
    (k1 : ∀ (L' : am_L), x2 ≤ x1 → (0 ≤ x1 ∧ x1 ≤ 3) → ((-3) ≤ x2 ∧ x2 ≤ 3) → lc L' 0 50 → li L' 1 x1 → li L' 2 x2 → li L' 3 7 → am_V none d 15 45 L' ([]) S Q) : am_V none d 15 37 L ([]) S Q := by
  refine sg_use sg_ch_d_g hd hP (sg_xs [0, x1, x2]) ⟨⟨Int.le_refl 0, Int.le_refl 0⟩, b1, b2, trivial⟩ trivial trivial trivial ⟨l0, l1, l2, trivial⟩ trivial ?_
  intro z hz x' L' st' S' hx hP' hW hL' hs' hJ hE' hT' hD'
  have q1 : x' 1 = x1 := hx 1 (by decide)
  subst q1
  have q2 : x' 2 = x2 := hx 2 (by decide)
  subst q2
  have eS : S' = S := hW.1 rfl
  subst eS
  simp only [sg_ch_d_Z, List.mem_cons, List.not_mem_nil, or_false] at hz
  rcases hz with rfl | rfl
  · obtain ⟨f0, hσ⟩ := hJ
    obtain ⟨e0, e1, -⟩ := hE'
    intro v hv
    subst hv
    cases v with
    | some _ => exact hs'.elim
    | none =>
      exact k0 f0 e0 e1
  · obtain ⟨f0, hσ⟩ := hJ
    obtain ⟨e0, e1, -⟩ := hE'
    obtain ⟨p0, p1, p2, p3, -⟩ := hL'
    obtain rfl := sg_tn hs'
    exact k1 L' f0 e0 e1 p0 p1 p2 p3
def sg_ch_e_Z : List sg_z := [(38, [(0, .inr (.inl [50])), (1, .inl (false, (1, .ofNat 1, .ofNat 0))), (2, .inl (false, (2, .ofNat 1, .ofNat 1))), (3, .inl (false, (0, .ofNat 0, .ofNat 0)))], [], [(2, 2, (3, .ofNat 1, .ofNat 0), (0, .ofNat 0, .ofNat 1), (0, .ofNat 0, .ofNat 0))], [(1, [(.ofNat 0, .ofNat 3)]), (2, [(.negSucc 2, .ofNat 3)]), (3, [(.ofNat 0, .ofNat 0)])], [], []),
  (59, [(0, .inr (.inl [50])), (1, .inl (false, (1, .ofNat 1, .ofNat 0))), (2, .inl (false, (2, .ofNat 1, .ofNat 0))), (3, .inl (false, (3, .ofNat 1, .ofNat 0))), (4, .inl (false, (2, .negSucc 0, .ofNat 0)))], [], [(2, 2, (0, .ofNat 0, .ofNat 0), (2, .negSucc 0, .ofNat 0), (0, .ofNat 0, .ofNat 0)), (2, 3, (3, .ofNat 1, .ofNat 0), (0, .ofNat 0, .ofNat 1), (0, .ofNat 0, .ofNat 0))], [(1, [(.ofNat 0, .ofNat 3)]), (2, [(.negSucc 2, .negSucc 0)]), (3, [(.ofNat 1, .ofNat 7)])], [], []),
  (59, [(0, .inr (.inl [50])), (1, .inl (false, (1, .ofNat 1, .ofNat 0))), (2, .inl (false, (2, .ofNat 1, .ofNat 0))), (3, .inl (false, (3, .ofNat 1, .ofNat 0))), (4, .inl (false, (0, .ofNat 0, .ofNat 0)))], [], [(2, 3, (0, .ofNat 0, .ofNat 0), (2, .negSucc 0, .ofNat 0), (0, .ofNat 0, .ofNat 0)), (2, 3, (3, .ofNat 1, .ofNat 0), (0, .ofNat 0, .ofNat 1), (0, .ofNat 0, .ofNat 0))], [(1, [(.ofNat 0, .ofNat 3)]), (2, [(.ofNat 0, .ofNat 3)]), (3, [(.ofNat 1, .ofNat 7)])], [], [])]
set_option maxRecDepth 1000000 in
theorem sg_ch_e_g : sg_go [] [58, 37] 3000 15 45 1 4 [(0, [(.ofNat 0, .ofNat 0)]), (1, [(.ofNat 0, .ofNat 3)]), (2, [(.negSucc 2, .ofNat 3)]), (3, [(.ofNat 0, .ofNat 7)])] [] [] [] [(0, .inr (.inl [50])), (1, .inl (false, (1, .ofNat 1, .ofNat 0))), (2, .inl (false, (2, .ofNat 1, .ofNat 0))), (3, .inl (false, (3, .ofNat 1, .ofNat 0)))] [] [] sg_ch_e_Z = true := by decide +kernel
set_option maxRecDepth 100000 in
theorem sg_ch_e {Q : Option Value × am_S → Prop} {d : Nat} {S : am_S} {L : am_L} {x1 x2 x3 : Int} (hd : 1 ≤ d) (hP : ax_P0 none S) (l0 : lc L 0 50) (l1 : li L 1 x1) (l2 : li L 2 x2) (l3 : li L 3 x3) (b1 : (0 ≤ x1 ∧ x1 ≤ 3)) (b2 : ((-3) ≤ x2 ∧ x2 ≤ 3)) (b3 : (0 ≤ x3 ∧ x3 ≤ 7))
    (k0 : ∀ (L' : am_L), x3 < 1 → (0 ≤ x1 ∧ x1 ≤ 3) → ((-3) ≤ x2 ∧ x2 ≤ 3) → (0 ≤ x3 ∧ x3 ≤ 0) → lc L' 0 50 → li L' 1 x1 → li L' 2 (x2 + 1) → li L' 3 0 → am_V none d 15 37 L' ([]) S Q)
    (k1 : ∀ (L' : am_L), 1 ≤ x3 → 0 < (-1) * x2 + 0 → (0 ≤ x1 ∧ x1 ≤ 3) → ((-3) ≤ x2 ∧ x2 ≤ (-1)) → (1 ≤ x3 ∧ x3 ≤ 7) → lc L' 0 50 → li L' 1 x1 → li L' 2 x2 → li L' 3 x3 → li L' 4 ((-1) * x2 + 0) → am_V none d 15 58 L' ([]) S Q)
    (k2 : ∀ (L' : am_L), 1 ≤ x3 → (-1) * x2 + 0 ≤ 0 → (0 ≤ x1 ∧ x1 ≤ 3) → (0 ≤ x2 ∧ x2 ≤ 3) → (1 ≤ x3 ∧ x3 ≤ 7) → lc L' 0 50 → li L' 1 x1 → li L' 2 x2 → li L' 3 x3 → li L' 4 0 → am_V none d 15 58 L' ([]) S Q) : am_V none d 15 45 L ([]) S Q := by
  refine sg_use sg_ch_e_g hd hP (sg_xs [0, x1, x2, x3]) ⟨⟨Int.le_refl 0, Int.le_refl 0⟩, b1, b2, b3, trivial⟩ trivial trivial trivial ⟨l0, l1, l2, l3, trivial⟩ trivial ?_
  intro z hz x' L' st' S' hx hP' hW hL' hs' hJ hE' hT' hD'
  have q1 : x' 1 = x1 := hx 1 (by decide)
  subst q1
  have q2 : x' 2 = x2 := hx 2 (by decide)
  subst q2
  have q3 : x' 3 = x3 := hx 3 (by decide)
  subst q3
  have eS : S' = S := hW.1 rfl
  subst eS
  simp only [sg_ch_e_Z, List.mem_cons, List.not_mem_nil, or_false] at hz
  rcases hz with rfl | rfl | rfl
  · obtain ⟨f0, hσ⟩ := hJ
    obtain ⟨e0, e1, e2, -⟩ := hE'
    obtain ⟨p0, p1, p2, p3, -⟩ := hL'
    obtain rfl := sg_tn hs'
    exact k0 L' f0 e0 e1 e2 p0 p1 p2 p3
  · obtain ⟨f0, f1, hσ⟩ := hJ
    obtain ⟨e0, e1, e2, -⟩ := hE'
    obtain ⟨p0, p1, p2, p3, p4, -⟩ := hL'
    obtain rfl := sg_tn hs'
    exact k1 L' f0 f1 e0 e1 e2 p0 p1 p2 p3 p4
  · obtain ⟨f0, f1, hσ⟩ := hJ
    obtain ⟨e0, e1, e2, -⟩ := hE'
    obtain ⟨p0, p1, p2, p3, p4, -⟩ := hL'
    obtain rfl := sg_tn hs'
    exact k2 L' f0 f1 e0 e1 e2 p0 p1 p2 p3 p4
def sg_ch_f_Z : List sg_z := [(46, [(0, .inr (.inl [50])), (1, .inl (false, (1, .ofNat 1, .ofNat 0))), (2, .inl (false, (2, .ofNat 1, .ofNat 0))), (3, .inl (false, (3, .ofNat 1, .negSucc 0))), (4, .inl (false, (0, .ofNat 0, .ofNat 13)))], [], [(2, 4, (4, .ofNat 1, .ofNat 0), (0, .ofNat 0, .ofNat 12), (0, .ofNat 0, .ofNat 0))], [(1, [(.ofNat 0, .ofNat 3)]), (2, [(.negSucc 2, .ofNat 3)]), (3, [(.ofNat 1, .ofNat 7)]), (4, [(.ofNat 13, .ofNat 13)]), (5, [(.ofNat 0, .ofNat 16)])], [], []),
  (46, [(0, .inr (.inl [50])), (1, .inl (false, (1, .ofNat 1, .ofNat 0))), (2, .inl (false, (2, .ofNat 1, .ofNat 0))), (3, .inl (false, (3, .ofNat 1, .negSucc 0))), (4, .inl (false, (4, .ofNat 1, .ofNat 0)))], [], [(2, 4, (5, .ofNat 1, .ofNat 0), (0, .ofNat 0, .ofNat 12), (0, .ofNat 0, .ofNat 0)), (2, 5, (4, .ofNat 1, .ofNat 0), (0, .ofNat 0, .ofNat 12), (0, .ofNat 0, .ofNat 0))], [(1, [(.ofNat 0, .ofNat 3)]), (2, [(.negSucc 2, .ofNat 3)]), (3, [(.ofNat 1, .ofNat 7)]), (4, [(.ofNat 0, .ofNat 12)]), (5, [(.ofNat 13, .ofNat 16)])], [((4, .ofNat 1, .ofNat 0), (2, .ofNat 1, .ofNat 0), (5, .ofNat 1, .ofNat 0))], []),
  (59, [(0, .inr (.inl [50])), (1, .inl (false, (1, .ofNat 1, .ofNat 0))), (2, .inl (false, (2, .ofNat 1, .ofNat 0))), (3, .inl (false, (0, .ofNat 0, .ofNat 7))), (4, .inl (false, (4, .ofNat 1, .ofNat 1)))], [], [(1, 61, (5, .ofNat 1, .ofNat 0), (8, .ofNat 1, .ofNat 0), (0, .ofNat 0, .ofNat 0)), (4, 3, (6, .ofNat 1, .ofNat 0), (7, .ofNat 1, .ofNat 0), (8, .ofNat 1, .ofNat 0)), (0, 60, (4, .ofNat 1, .ofNat 0), (7, .ofNat 1, .ofNat 0), (0, .ofNat 0, .ofNat 0)), (0, 61, (5, .ofNat 1, .ofNat 0), (6, .ofNat 1, .ofNat 0), (0, .ofNat 0, .ofNat 0)), (2, 5, (5, .ofNat 1, .ofNat 0), (0, .ofNat 0, .ofNat 12), (0, .ofNat 0, .ofNat 0)), (2, 5, (4, .ofNat 1, .ofNat 0), (0, .ofNat 0, .ofNat 12), (0, .ofNat 0, .ofNat 0))], [(1, [(.ofNat 0, .ofNat 3)]), (2, [(.negSucc 2, .ofNat 3)]), (3, [(.ofNat 7, .ofNat 7)]), (4, [(.ofNat 0, .ofNat 12)]), (5, [(.ofNat 0, .ofNat 12)])], [((4, .ofNat 1, .ofNat 0), (2, .ofNat 1, .ofNat 0), (5, .ofNat 1, .ofNat 0))], []),
  (59, [(0, .inr (.inl [50])), (1, .inl (false, (1, .ofNat 1, .ofNat 0))), (2, .inl (false, (2, .ofNat 1, .ofNat 0))), (3, .inl (false, (0, .ofNat 0, .ofNat 6))), (4, .inl (false, (4, .ofNat 1, .ofNat 1)))], [], [(1, 60, (5, .ofNat 1, .ofNat 0), (8, .ofNat 1, .ofNat 0), (0, .ofNat 0, .ofNat 0)), (4, 3, (6, .ofNat 1, .ofNat 0), (7, .ofNat 1, .ofNat 0), (8, .ofNat 1, .ofNat 0)), (0, 59, (4, .ofNat 1, .ofNat 0), (7, .ofNat 1, .ofNat 0), (0, .ofNat 0, .ofNat 0)), (0, 60, (5, .ofNat 1, .ofNat 0), (6, .ofNat 1, .ofNat 0), (0, .ofNat 0, .ofNat 0)), (2, 5, (5, .ofNat 1, .ofNat 0), (0, .ofNat 0, .ofNat 12), (0, .ofNat 0, .ofNat 0)), (2, 5, (4, .ofNat 1, .ofNat 0), (0, .ofNat 0, .ofNat 12), (0, .ofNat 0, .ofNat 0))], [(1, [(.ofNat 0, .ofNat 3)]), (2, [(.negSucc 2, .ofNat 3)]), (3, [(.ofNat 6, .ofNat 6)]), (4, [(.ofNat 0, .ofNat 12)]), (5, [(.ofNat 0, .ofNat 12)])], [((4, .ofNat 1, .ofNat 0), (2, .ofNat 1, .ofNat 0), (5, .ofNat 1, .ofNat 0))], []),
  (59, [(0, .inr (.inl [50])), (1, .inl (false, (1, .ofNat 1, .ofNat 0))), (2, .inl (false, (2, .ofNat 1, .ofNat 0))), (3, .inl (false, (0, .ofNat 0, .ofNat 5))), (4, .inl (false, (4, .ofNat 1, .ofNat 1)))], [], [(1, 59, (5, .ofNat 1, .ofNat 0), (8, .ofNat 1, .ofNat 0), (0, .ofNat 0, .ofNat 0)), (4, 3, (6, .ofNat 1, .ofNat 0), (7, .ofNat 1, .ofNat 0), (8, .ofNat 1, .ofNat 0)), (0, 58, (4, .ofNat 1, .ofNat 0), (7, .ofNat 1, .ofNat 0), (0, .ofNat 0, .ofNat 0)), (0, 59, (5, .ofNat 1, .ofNat 0), (6, .ofNat 1, .ofNat 0), (0, .ofNat 0, .ofNat 0)), (2, 5, (5, .ofNat 1, .ofNat 0), (0, .ofNat 0, .ofNat 12), (0, .ofNat 0, .ofNat 0)), (2, 5, (4, .ofNat 1, .ofNat 0), (0, .ofNat 0, .ofNat 12), (0, .ofNat 0, .ofNat 0))], [(1, [(.ofNat 0, .ofNat 3)]), (2, [(.negSucc 2, .ofNat 3)]), (3, [(.ofNat 5, .ofNat 5)]), (4, [(.ofNat 0, .ofNat 12)]), (5, [(.ofNat 0, .ofNat 12)])], [((4, .ofNat 1, .ofNat 0), (2, .ofNat 1, .ofNat 0), (5, .ofNat 1, .ofNat 0))], []),
  (59, [(0, .inr (.inl [50])), (1, .inl (false, (1, .ofNat 1, .ofNat 0))), (2, .inl (false, (2, .ofNat 1, .ofNat 0))), (3, .inl (false, (0, .ofNat 0, .ofNat 4))), (4, .inl (false, (4, .ofNat 1, .ofNat 1)))], [], [(1, 58, (5, .ofNat 1, .ofNat 0), (8, .ofNat 1, .ofNat 0), (0, .ofNat 0, .ofNat 0)), (4, 3, (6, .ofNat 1, .ofNat 0), (7, .ofNat 1, .ofNat 0), (8, .ofNat 1, .ofNat 0)), (0, 57, (4, .ofNat 1, .ofNat 0), (7, .ofNat 1, .ofNat 0), (0, .ofNat 0, .ofNat 0)), (0, 58, (5, .ofNat 1, .ofNat 0), (6, .ofNat 1, .ofNat 0), (0, .ofNat 0, .ofNat 0)), (2, 5, (5, .ofNat 1, .ofNat 0), (0, .ofNat 0, .ofNat 12), (0, .ofNat 0, .ofNat 0)), (2, 5, (4, .ofNat 1, .ofNat 0), (0, .ofNat 0, .ofNat 12), (0, .ofNat 0, .ofNat 0))], [(1, [(.ofNat 0, .ofNat 3)]), (2, [(.negSucc 2, .ofNat 3)]), (3, [(.ofNat 4, .ofNat 4)]), (4, [(.ofNat 0, .ofNat 12)]), (5, [(.ofNat 0, .ofNat 12)])], [((4, .ofNat 1, .ofNat 0), (2, .ofNat 1, .ofNat 0), (5, .ofNat 1, .ofNat 0))], []),
  (59, [(0, .inr (.inl [50])), (1, .inl (false, (1, .ofNat 1, .ofNat 0))), (2, .inl (false, (2, .ofNat 1, .ofNat 0))), (3, .inl (false, (0, .ofNat 0, .ofNat 3))), (4, .inl (false, (4, .ofNat 1, .ofNat 1)))], [], [(1, 57, (5, .ofNat 1, .ofNat 0), (8, .ofNat 1, .ofNat 0), (0, .ofNat 0, .ofNat 0)), (4, 3, (6, .ofNat 1, .ofNat 0), (7, .ofNat 1, .ofNat 0), (8, .ofNat 1, .ofNat 0)), (0, 56, (4, .ofNat 1, .ofNat 0), (7, .ofNat 1, .ofNat 0), (0, .ofNat 0, .ofNat 0)), (0, 57, (5, .ofNat 1, .ofNat 0), (6, .ofNat 1, .ofNat 0), (0, .ofNat 0, .ofNat 0)), (2, 5, (5, .ofNat 1, .ofNat 0), (0, .ofNat 0, .ofNat 12), (0, .ofNat 0, .ofNat 0)), (2, 5, (4, .ofNat 1, .ofNat 0), (0, .ofNat 0, .ofNat 12), (0, .ofNat 0, .ofNat 0))], [(1, [(.ofNat 0, .ofNat 3)]), (2, [(.negSucc 2, .ofNat 3)]), (3, [(.ofNat 3, .ofNat 3)]), (4, [(.ofNat 0, .ofNat 12)]), (5, [(.ofNat 0, .ofNat 12)])], [((4, .ofNat 1, .ofNat 0), (2, .ofNat 1, .ofNat 0), (5, .ofNat 1, .ofNat 0))], []),
  (59, [(0, .inr (.inl [50])), (1, .inl (false, (1, .ofNat 1, .ofNat 0))), (2, .inl (false, (2, .ofNat 1, .ofNat 0))), (3, .inl (false, (0, .ofNat 0, .ofNat 2))), (4, .inl (false, (4, .ofNat 1, .ofNat 1)))], [], [(1, 56, (5, .ofNat 1, .ofNat 0), (8, .ofNat 1, .ofNat 0), (0, .ofNat 0, .ofNat 0)), (4, 3, (6, .ofNat 1, .ofNat 0), (7, .ofNat 1, .ofNat 0), (8, .ofNat 1, .ofNat 0)), (0, 55, (4, .ofNat 1, .ofNat 0), (7, .ofNat 1, .ofNat 0), (0, .ofNat 0, .ofNat 0)), (0, 56, (5, .ofNat 1, .ofNat 0), (6, .ofNat 1, .ofNat 0), (0, .ofNat 0, .ofNat 0)), (2, 5, (5, .ofNat 1, .ofNat 0), (0, .ofNat 0, .ofNat 12), (0, .ofNat 0, .ofNat 0)), (2, 5, (4, .ofNat 1, .ofNat 0), (0, .ofNat 0, .ofNat 12), (0, .ofNat 0, .ofNat 0))], [(1, [(.ofNat 0, .ofNat 3)]), (2, [(.negSucc 2, .ofNat 3)]), (3, [(.ofNat 2, .ofNat 2)]), (4, [(.ofNat 0, .ofNat 12)]), (5, [(.ofNat 0, .ofNat 12)])], [((4, .ofNat 1, .ofNat 0), (2, .ofNat 1, .ofNat 0), (5, .ofNat 1, .ofNat 0))], []),
  (59, [(0, .inr (.inl [50])), (1, .inl (false, (1, .ofNat 1, .ofNat 0))), (2, .inl (false, (2, .ofNat 1, .ofNat 0))), (3, .inl (false, (0, .ofNat 0, .ofNat 1))), (4, .inl (false, (4, .ofNat 1, .ofNat 1)))], [], [(1, 55, (5, .ofNat 1, .ofNat 0), (8, .ofNat 1, .ofNat 0), (0, .ofNat 0, .ofNat 0)), (4, 3, (6, .ofNat 1, .ofNat 0), (7, .ofNat 1, .ofNat 0), (8, .ofNat 1, .ofNat 0)), (0, 54, (4, .ofNat 1, .ofNat 0), (7, .ofNat 1, .ofNat 0), (0, .ofNat 0, .ofNat 0)), (0, 55, (5, .ofNat 1, .ofNat 0), (6, .ofNat 1, .ofNat 0), (0, .ofNat 0, .ofNat 0)), (2, 5, (5, .ofNat 1, .ofNat 0), (0, .ofNat 0, .ofNat 12), (0, .ofNat 0, .ofNat 0)), (2, 5, (4, .ofNat 1, .ofNat 0), (0, .ofNat 0, .ofNat 12), (0, .ofNat 0, .ofNat 0))], [(1, [(.ofNat 0, .ofNat 3)]), (2, [(.negSucc 2, .ofNat 3)]), (3, [(.ofNat 1, .ofNat 1)]), (4, [(.ofNat 0, .ofNat 12)]), (5, [(.ofNat 0, .ofNat 12)])], [((4, .ofNat 1, .ofNat 0), (2, .ofNat 1, .ofNat 0), (5, .ofNat 1, .ofNat 0))], [])]
set_option maxRecDepth 1000000 in
theorem sg_ch_f_g : sg_go [(983114, .inr 3)] [58, 45] 3000 15 58 0 6 [(0, [(.ofNat 0, .ofNat 0)]), (1, [(.ofNat 0, .ofNat 3)]), (2, [(.negSucc 2, .ofNat 3)]), (3, [(.ofNat 1, .ofNat 7)]), (4, [(.ofNat 0, .ofNat 13)]), (5, [(.ofNat 0, .ofNat 16)])] [] [((4, .ofNat 1, .ofNat 0), (2, .ofNat 1, .ofNat 0), (5, .ofNat 1, .ofNat 0))] [] [(0, .inr (.inl [50])), (1, .inl (false, (1, .ofNat 1, .ofNat 0))), (2, .inl (false, (2, .ofNat 1, .ofNat 0))), (3, .inl (false, (3, .ofNat 1, .ofNat 0))), (4, .inl (false, (4, .ofNat 1, .ofNat 0)))] [] [(55, none), (56, none), (57, none), (58, none), (59, none), (60, none), (61, none)] sg_ch_f_Z = true := by decide +kernel
set_option maxRecDepth 100000 in
theorem sg_ch_f {Q : Option Value × am_S → Prop} {d : Nat} {S : am_S} {L : am_L} {x1 x2 x3 x4 x5 : Int} (hd : 0 ≤ d) (hP : ax_P0 none S) (l0 : lc L 0 50) (l1 : li L 1 x1) (l2 : li L 2 x2) (l3 : li L 3 x3) (l4 : li L 4 x4) (b1 : (0 ≤ x1 ∧ x1 ≤ 3)) (b2 : ((-3) ≤ x2 ∧ x2 ≤ 3)) (b3 : (1 ≤ x3 ∧ x3 ≤ 7)) (b4 : (0 ≤ x4 ∧ x4 ≤ 13)) (b5 : (0 ≤ x5 ∧ x5 ≤ 16)) (t0 : x4 + x2 = x5)
    (k0 : ∀ (L' : am_L) (S' : am_S), ax_P0 none S' → rd S' = rd S → 12 < x4 → (0 ≤ x1 ∧ x1 ≤ 3) → ((-3) ≤ x2 ∧ x2 ≤ 3) → (1 ≤ x3 ∧ x3 ≤ 7) → (13 ≤ x4 ∧ x4 ≤ 13) → (0 ≤ x5 ∧ x5 ≤ 16) → lc L' 0 50 → li L' 1 x1 → li L' 2 x2 → li L' 3 (x3 + (-1)) → li L' 4 13 → am_V none d 15 45 L' ([]) S' Q)
    (k1 : ∀ (L' : am_L) (S' : am_S), ax_P0 none S' → rd S' = rd S → x4 ≤ 12 → 12 < x5 → (0 ≤ x1 ∧ x1 ≤ 3) → ((-3) ≤ x2 ∧ x2 ≤ 3) → (1 ≤ x3 ∧ x3 ≤ 7) → (0 ≤ x4 ∧ x4 ≤ 12) → (13 ≤ x5 ∧ x5 ≤ 16) → x4 + x2 = x5 → lc L' 0 50 → li L' 1 x1 → li L' 2 x2 → li L' 3 (x3 + (-1)) → li L' 4 x4 → am_V none d 15 45 L' ([]) S' Q)
    (k2 : ∀ (x6 x7 x8 : Int) (L' : am_L) (S' : am_S), ax_P0 none S' → rd S' = sg_up (rd S) 61 x5 x8 → x4 ≤ 12 → x5 ≤ 12 → rd S 61 x5 = x6 → rd S 60 x4 = x7 → (∃ a b : Int64, a.toInt = x6 ∧ b.toInt = x7 ∧ (a + b).toInt = x8) → (0 ≤ x1 ∧ x1 ≤ 3) → ((-3) ≤ x2 ∧ x2 ≤ 3) → (7 ≤ x3 ∧ x3 ≤ 7) → (0 ≤ x4 ∧ x4 ≤ 12) → (0 ≤ x5 ∧ x5 ≤ 12) → x4 + x2 = x5 → lc L' 0 50 → li L' 1 x1 → li L' 2 x2 → li L' 3 7 → li L' 4 (x4 + 1) → am_V none d 15 58 L' ([]) S' Q)
    (k3 : ∀ (x6 x7 x8 : Int) (L' : am_L) (S' : am_S), ax_P0 none S' → rd S' = sg_up (rd S) 60 x5 x8 → x4 ≤ 12 → x5 ≤ 12 → rd S 60 x5 = x6 → rd S 59 x4 = x7 → (∃ a b : Int64, a.toInt = x6 ∧ b.toInt = x7 ∧ (a + b).toInt = x8) → (0 ≤ x1 ∧ x1 ≤ 3) → ((-3) ≤ x2 ∧ x2 ≤ 3) → (6 ≤ x3 ∧ x3 ≤ 6) → (0 ≤ x4 ∧ x4 ≤ 12) → (0 ≤ x5 ∧ x5 ≤ 12) → x4 + x2 = x5 → lc L' 0 50 → li L' 1 x1 → li L' 2 x2 → li L' 3 6 → li L' 4 (x4 + 1) → am_V none d 15 58 L' ([]) S' Q)
    (k4 : ∀ (x6 x7 x8 : Int) (L' : am_L) (S' : am_S), ax_P0 none S' → rd S' = sg_up (rd S) 59 x5 x8 → x4 ≤ 12 → x5 ≤ 12 → rd S 59 x5 = x6 → rd S 58 x4 = x7 → (∃ a b : Int64, a.toInt = x6 ∧ b.toInt = x7 ∧ (a + b).toInt = x8) → (0 ≤ x1 ∧ x1 ≤ 3) → ((-3) ≤ x2 ∧ x2 ≤ 3) → (5 ≤ x3 ∧ x3 ≤ 5) → (0 ≤ x4 ∧ x4 ≤ 12) → (0 ≤ x5 ∧ x5 ≤ 12) → x4 + x2 = x5 → lc L' 0 50 → li L' 1 x1 → li L' 2 x2 → li L' 3 5 → li L' 4 (x4 + 1) → am_V none d 15 58 L' ([]) S' Q)
    (k5 : ∀ (x6 x7 x8 : Int) (L' : am_L) (S' : am_S), ax_P0 none S' → rd S' = sg_up (rd S) 58 x5 x8 → x4 ≤ 12 → x5 ≤ 12 → rd S 58 x5 = x6 → rd S 57 x4 = x7 → (∃ a b : Int64, a.toInt = x6 ∧ b.toInt = x7 ∧ (a + b).toInt = x8) → (0 ≤ x1 ∧ x1 ≤ 3) → ((-3) ≤ x2 ∧ x2 ≤ 3) → (4 ≤ x3 ∧ x3 ≤ 4) → (0 ≤ x4 ∧ x4 ≤ 12) → (0 ≤ x5 ∧ x5 ≤ 12) → x4 + x2 = x5 → lc L' 0 50 → li L' 1 x1 → li L' 2 x2 → li L' 3 4 → li L' 4 (x4 + 1) → am_V none d 15 58 L' ([]) S' Q)
    (k6 : ∀ (x6 x7 x8 : Int) (L' : am_L) (S' : am_S), ax_P0 none S' → rd S' = sg_up (rd S) 57 x5 x8 → x4 ≤ 12 → x5 ≤ 12 → rd S 57 x5 = x6 → rd S 56 x4 = x7 → (∃ a b : Int64, a.toInt = x6 ∧ b.toInt = x7 ∧ (a + b).toInt = x8) → (0 ≤ x1 ∧ x1 ≤ 3) → ((-3) ≤ x2 ∧ x2 ≤ 3) → (3 ≤ x3 ∧ x3 ≤ 3) → (0 ≤ x4 ∧ x4 ≤ 12) → (0 ≤ x5 ∧ x5 ≤ 12) → x4 + x2 = x5 → lc L' 0 50 → li L' 1 x1 → li L' 2 x2 → li L' 3 3 → li L' 4 (x4 + 1) → am_V none d 15 58 L' ([]) S' Q)
    (k7 : ∀ (x6 x7 x8 : Int) (L' : am_L) (S' : am_S), ax_P0 none S' → rd S' = sg_up (rd S) 56 x5 x8 → x4 ≤ 12 → x5 ≤ 12 → rd S 56 x5 = x6 → rd S 55 x4 = x7 → (∃ a b : Int64, a.toInt = x6 ∧ b.toInt = x7 ∧ (a + b).toInt = x8) → (0 ≤ x1 ∧ x1 ≤ 3) → ((-3) ≤ x2 ∧ x2 ≤ 3) → (2 ≤ x3 ∧ x3 ≤ 2) → (0 ≤ x4 ∧ x4 ≤ 12) → (0 ≤ x5 ∧ x5 ≤ 12) → x4 + x2 = x5 → lc L' 0 50 → li L' 1 x1 → li L' 2 x2 → li L' 3 2 → li L' 4 (x4 + 1) → am_V none d 15 58 L' ([]) S' Q)
    (k8 : ∀ (x6 x7 x8 : Int) (L' : am_L) (S' : am_S), ax_P0 none S' → rd S' = sg_up (rd S) 55 x5 x8 → x4 ≤ 12 → x5 ≤ 12 → rd S 55 x5 = x6 → rd S 54 x4 = x7 → (∃ a b : Int64, a.toInt = x6 ∧ b.toInt = x7 ∧ (a + b).toInt = x8) → (0 ≤ x1 ∧ x1 ≤ 3) → ((-3) ≤ x2 ∧ x2 ≤ 3) → (1 ≤ x3 ∧ x3 ≤ 1) → (0 ≤ x4 ∧ x4 ≤ 12) → (0 ≤ x5 ∧ x5 ≤ 12) → x4 + x2 = x5 → lc L' 0 50 → li L' 1 x1 → li L' 2 x2 → li L' 3 1 → li L' 4 (x4 + 1) → am_V none d 15 58 L' ([]) S' Q) : am_V none d 15 58 L ([]) S Q := by
  refine sg_use sg_ch_f_g hd hP (sg_xs [0, x1, x2, x3, x4, x5]) ⟨⟨Int.le_refl 0, Int.le_refl 0⟩, b1, b2, b3, b4, b5, trivial⟩ trivial ⟨t0, trivial⟩ trivial ⟨l0, l1, l2, l3, l4, trivial⟩ trivial ?_
  intro z hz x' L' st' S' hx hP' hW hL' hs' hJ hE' hT' hD'
  have q1 : x' 1 = x1 := hx 1 (by decide)
  subst q1
  have q2 : x' 2 = x2 := hx 2 (by decide)
  subst q2
  have q3 : x' 3 = x3 := hx 3 (by decide)
  subst q3
  have q4 : x' 4 = x4 := hx 4 (by decide)
  subst q4
  have q5 : x' 5 = x5 := hx 5 (by decide)
  subst q5
  simp only [sg_ch_f_Z, List.mem_cons, List.not_mem_nil, or_false] at hz
  rcases hz with rfl | rfl | rfl | rfl | rfl | rfl | rfl | rfl | rfl
  · obtain ⟨f0, hσ⟩ := hJ
    obtain ⟨e0, e1, e2, e3, e4, -⟩ := hE'
    obtain ⟨p0, p1, p2, p3, p4, -⟩ := hL'
    obtain rfl := sg_tn hs'
    exact k0 L' S' hP' hσ f0 e0 e1 e2 e3 e4 p0 p1 p2 p3 p4
  · obtain ⟨f0, f1, hσ⟩ := hJ
    obtain ⟨e0, e1, e2, e3, e4, -⟩ := hE'
    obtain ⟨t0, -⟩ := hT'
    obtain ⟨p0, p1, p2, p3, p4, -⟩ := hL'
    obtain rfl := sg_tn hs'
    exact k1 L' S' hP' hσ f0 f1 e0 e1 e2 e3 e4 t0 p0 p1 p2 p3 p4
  · obtain ⟨f0, f1, f2, f3, f4, hσ⟩ := hJ
    obtain ⟨e0, e1, e2, e3, e4, -⟩ := hE'
    obtain ⟨t0, -⟩ := hT'
    obtain ⟨p0, p1, p2, p3, p4, -⟩ := hL'
    obtain rfl := sg_tn hs'
    exact k2 (x' 6) (x' 7) (x' 8) L' S' hP' hσ f0 f1 f2 f3 f4 e0 e1 e2 e3 e4 t0 p0 p1 p2 p3 p4
  · obtain ⟨f0, f1, f2, f3, f4, hσ⟩ := hJ
    obtain ⟨e0, e1, e2, e3, e4, -⟩ := hE'
    obtain ⟨t0, -⟩ := hT'
    obtain ⟨p0, p1, p2, p3, p4, -⟩ := hL'
    obtain rfl := sg_tn hs'
    exact k3 (x' 6) (x' 7) (x' 8) L' S' hP' hσ f0 f1 f2 f3 f4 e0 e1 e2 e3 e4 t0 p0 p1 p2 p3 p4
  · obtain ⟨f0, f1, f2, f3, f4, hσ⟩ := hJ
    obtain ⟨e0, e1, e2, e3, e4, -⟩ := hE'
    obtain ⟨t0, -⟩ := hT'
    obtain ⟨p0, p1, p2, p3, p4, -⟩ := hL'
    obtain rfl := sg_tn hs'
    exact k4 (x' 6) (x' 7) (x' 8) L' S' hP' hσ f0 f1 f2 f3 f4 e0 e1 e2 e3 e4 t0 p0 p1 p2 p3 p4
  · obtain ⟨f0, f1, f2, f3, f4, hσ⟩ := hJ
    obtain ⟨e0, e1, e2, e3, e4, -⟩ := hE'
    obtain ⟨t0, -⟩ := hT'
    obtain ⟨p0, p1, p2, p3, p4, -⟩ := hL'
    obtain rfl := sg_tn hs'
    exact k5 (x' 6) (x' 7) (x' 8) L' S' hP' hσ f0 f1 f2 f3 f4 e0 e1 e2 e3 e4 t0 p0 p1 p2 p3 p4
  · obtain ⟨f0, f1, f2, f3, f4, hσ⟩ := hJ
    obtain ⟨e0, e1, e2, e3, e4, -⟩ := hE'
    obtain ⟨t0, -⟩ := hT'
    obtain ⟨p0, p1, p2, p3, p4, -⟩ := hL'
    obtain rfl := sg_tn hs'
    exact k6 (x' 6) (x' 7) (x' 8) L' S' hP' hσ f0 f1 f2 f3 f4 e0 e1 e2 e3 e4 t0 p0 p1 p2 p3 p4
  · obtain ⟨f0, f1, f2, f3, f4, hσ⟩ := hJ
    obtain ⟨e0, e1, e2, e3, e4, -⟩ := hE'
    obtain ⟨t0, -⟩ := hT'
    obtain ⟨p0, p1, p2, p3, p4, -⟩ := hL'
    obtain rfl := sg_tn hs'
    exact k7 (x' 6) (x' 7) (x' 8) L' S' hP' hσ f0 f1 f2 f3 f4 e0 e1 e2 e3 e4 t0 p0 p1 p2 p3 p4
  · obtain ⟨f0, f1, f2, f3, f4, hσ⟩ := hJ
    obtain ⟨e0, e1, e2, e3, e4, -⟩ := hE'
    obtain ⟨t0, -⟩ := hT'
    obtain ⟨p0, p1, p2, p3, p4, -⟩ := hL'
    obtain rfl := sg_tn hs'
    exact k8 (x' 6) (x' 7) (x' 8) L' S' hP' hσ f0 f1 f2 f3 f4 e0 e1 e2 e3 e4 t0 p0 p1 p2 p3 p4
def sg_ph_a_Z : List sg_z := [(6, [(0, .inr (.inl [50])), (1, .inl (false, (1, .ofNat 1, .ofNat 0))), (2, .inl (false, (2, .ofNat 1, .ofNat 0)))], [.inl (true, (0, .ofNat 0, .ofNat 0)), .inr (.inl [62])], [], [(1, [(.ofNat 0, .ofNat 7)]), (2, [(.ofNat 0, .ofNat 7)])], [], [])]
set_option maxRecDepth 1000000 in
theorem sg_ph_a_g : sg_go [] [5] 3000 16 0 0 3 [(0, [(.ofNat 0, .ofNat 0)]), (1, [(.ofNat 0, .ofNat 7)]), (2, [(.ofNat 0, .ofNat 7)])] [] [] [] [(0, .inr (.inl [50])), (1, .inl (false, (1, .ofNat 1, .ofNat 0))), (2, .inl (false, (2, .ofNat 1, .ofNat 0)))] [] [] sg_ph_a_Z = true := by decide +kernel
set_option maxRecDepth 100000 in
theorem sg_ph_a {Q : Option Value × am_S → Prop} {d : Nat} {S : am_S} {L : am_L} {x1 x2 : Int} (hd : 0 ≤ d) (hP : ax_P0 none S) (l0 : lc L 0 50) (l1 : li L 1 x1) (l2 : li L 2 x2) (b1 : (0 ≤ x1 ∧ x1 ≤ 7)) (b2 : (0 ≤ x2 ∧ x2 ≤ 7))
    (k0 : ∀ (L' : am_L) (i1 : Int64), (0 ≤ x1 ∧ x1 ≤ 7) → (0 ≤ x2 ∧ x2 ≤ 7) → lc L' 0 50 → li L' 1 x1 → li L' 2 x2 → i1.toInt = 0 → am_V none d 16 5 L' ((.long i1) :: (.ref 62) :: []) S Q) : am_V none d 16 0 L ([]) S Q := by
  refine sg_use sg_ph_a_g hd hP (sg_xs [0, x1, x2]) ⟨⟨Int.le_refl 0, Int.le_refl 0⟩, b1, b2, trivial⟩ trivial trivial trivial ⟨l0, l1, l2, trivial⟩ trivial ?_
  intro z hz x' L' st' S' hx hP' hW hL' hs' hJ hE' hT' hD'
  have q1 : x' 1 = x1 := hx 1 (by decide)
  subst q1
  have q2 : x' 2 = x2 := hx 2 (by decide)
  subst q2
  have eS : S' = S := hW.1 rfl
  subst eS
  simp only [sg_ph_a_Z, List.mem_cons, List.not_mem_nil, or_false] at hz
  rcases hz with rfl
  · have hσ := hJ
    obtain ⟨e0, e1, -⟩ := hE'
    obtain ⟨p0, p1, p2, -⟩ := hL'
    obtain ⟨v1, r1, rfl, ⟨i1, rfl, g1⟩, hs1⟩ := sg_tc hs'
    obtain ⟨v2, r2, rfl, rfl, hs2⟩ := sg_tc hs1
    obtain rfl := sg_tn hs2
    exact k0 L' i1 e0 e1 p0 p1 p2 g1
def sg_ph_b_Z : List sg_z := [(11, [(0, .inr (.inl [50])), (1, .inl (false, (1, .ofNat 1, .ofNat 0))), (2, .inl (false, (2, .ofNat 1, .ofNat 0))), (3, .inl (false, (0, .ofNat 0, .ofNat 0)))], [], [], [(1, [(.ofNat 0, .ofNat 7)]), (2, [(.ofNat 0, .ofNat 7)])], [], [])]
set_option maxRecDepth 1000000 in
theorem sg_ph_b_g : sg_go [] [10] 3000 16 8 0 3 [(0, [(.ofNat 0, .ofNat 0)]), (1, [(.ofNat 0, .ofNat 7)]), (2, [(.ofNat 0, .ofNat 7)])] [] [] [] [(0, .inr (.inl [50])), (1, .inl (false, (1, .ofNat 1, .ofNat 0))), (2, .inl (false, (2, .ofNat 1, .ofNat 0)))] [] [] sg_ph_b_Z = true := by decide +kernel
set_option maxRecDepth 100000 in
theorem sg_ph_b {Q : Option Value × am_S → Prop} {d : Nat} {S : am_S} {L : am_L} {x1 x2 : Int} (hd : 0 ≤ d) (hP : ax_P0 none S) (l0 : lc L 0 50) (l1 : li L 1 x1) (l2 : li L 2 x2) (b1 : (0 ≤ x1 ∧ x1 ≤ 7)) (b2 : (0 ≤ x2 ∧ x2 ≤ 7))
    (k0 : ∀ (L' : am_L), (0 ≤ x1 ∧ x1 ≤ 7) → (0 ≤ x2 ∧ x2 ≤ 7) → lc L' 0 50 → li L' 1 x1 → li L' 2 x2 → li L' 3 0 → am_V none d 16 10 L' ([]) S Q) : am_V none d 16 8 L ([]) S Q := by
  refine sg_use sg_ph_b_g hd hP (sg_xs [0, x1, x2]) ⟨⟨Int.le_refl 0, Int.le_refl 0⟩, b1, b2, trivial⟩ trivial trivial trivial ⟨l0, l1, l2, trivial⟩ trivial ?_
  intro z hz x' L' st' S' hx hP' hW hL' hs' hJ hE' hT' hD'
  have q1 : x' 1 = x1 := hx 1 (by decide)
  subst q1
  have q2 : x' 2 = x2 := hx 2 (by decide)
  subst q2
  have eS : S' = S := hW.1 rfl
  subst eS
  simp only [sg_ph_b_Z, List.mem_cons, List.not_mem_nil, or_false] at hz
  rcases hz with rfl
  · have hσ := hJ
    obtain ⟨e0, e1, -⟩ := hE'
    obtain ⟨p0, p1, p2, p3, -⟩ := hL'
    obtain rfl := sg_tn hs'
    exact k0 L' e0 e1 p0 p1 p2 p3
def sg_ph_c_Z : List sg_z := [(0, [], [], [(2, 4, (3, .ofNat 1, .ofNat 0), (0, .ofNat 0, .ofNat 12), (0, .ofNat 0, .ofNat 0))], [(1, [(.ofNat 0, .ofNat 7)]), (2, [(.ofNat 0, .ofNat 7)]), (3, [(.ofNat 13, .ofNat 13)])], [], []),
  (20, [(0, .inr (.inl [50])), (1, .inl (false, (1, .ofNat 1, .ofNat 0))), (2, .inl (false, (2, .ofNat 1, .ofNat 0))), (3, .inl (false, (3, .ofNat 1, .ofNat 0))), (4, .inl (false, (0, .ofNat 0, .ofNat 0)))], [], [(2, 5, (3, .ofNat 1, .ofNat 0), (0, .ofNat 0, .ofNat 12), (0, .ofNat 0, .ofNat 0))], [(1, [(.ofNat 0, .ofNat 7)]), (2, [(.ofNat 0, .ofNat 7)]), (3, [(.ofNat 0, .ofNat 12)])], [], [])]
set_option maxRecDepth 1000000 in
theorem sg_ph_c_g : sg_go [] [19] 3000 16 10 0 4 [(0, [(.ofNat 0, .ofNat 0)]), (1, [(.ofNat 0, .ofNat 7)]), (2, [(.ofNat 0, .ofNat 7)]), (3, [(.ofNat 0, .ofNat 13)])] [] [] [] [(0, .inr (.inl [50])), (1, .inl (false, (1, .ofNat 1, .ofNat 0))), (2, .inl (false, (2, .ofNat 1, .ofNat 0))), (3, .inl (false, (3, .ofNat 1, .ofNat 0)))] [] [] sg_ph_c_Z = true := by decide +kernel
set_option maxRecDepth 100000 in
theorem sg_ph_c {Q : Option Value × am_S → Prop} {d : Nat} {S : am_S} {L : am_L} {x1 x2 x3 : Int} (hd : 0 ≤ d) (hP : ax_P0 none S) (l0 : lc L 0 50) (l1 : li L 1 x1) (l2 : li L 2 x2) (l3 : li L 3 x3) (b1 : (0 ≤ x1 ∧ x1 ≤ 7)) (b2 : (0 ≤ x2 ∧ x2 ≤ 7)) (b3 : (0 ≤ x3 ∧ x3 ≤ 13))
    (k0 : 12 < x3 → (0 ≤ x1 ∧ x1 ≤ 7) → (0 ≤ x2 ∧ x2 ≤ 7) → (13 ≤ x3 ∧ x3 ≤ 13) → Q (none, S))
    (k1 : ∀ (L' : am_L), x3 ≤ 12 → (0 ≤ x1 ∧ x1 ≤ 7) → (0 ≤ x2 ∧ x2 ≤ 7) → (0 ≤ x3 ∧ x3 ≤ 12) → lc L' 0 50 → li L' 1 x1 → li L' 2 x2 → li L' 3 x3 → li L' 4 0 → am_V none d 16 19 L' ([]) S Q) : am_V none d 16 10 L ([]) S Q := by
  refine sg_use sg_ph_c_g hd hP (sg_xs [0, x1, x2, x3]) ⟨⟨Int.le_refl 0, Int.le_refl 0⟩, b1, b2, b3, trivial⟩ trivial trivial trivial ⟨l0, l1, l2, l3, trivial⟩ trivial ?_
  intro z hz x' L' st' S' hx hP' hW hL' hs' hJ hE' hT' hD'
  have q1 : x' 1 = x1 := hx 1 (by decide)
  subst q1
  have q2 : x' 2 = x2 := hx 2 (by decide)
  subst q2
  have q3 : x' 3 = x3 := hx 3 (by decide)
  subst q3
  have eS : S' = S := hW.1 rfl
  subst eS
  simp only [sg_ph_c_Z, List.mem_cons, List.not_mem_nil, or_false] at hz
  rcases hz with rfl | rfl
  · obtain ⟨f0, hσ⟩ := hJ
    obtain ⟨e0, e1, e2, -⟩ := hE'
    intro v hv
    subst hv
    cases v with
    | some _ => exact hs'.elim
    | none =>
      exact k0 f0 e0 e1 e2
  · obtain ⟨f0, hσ⟩ := hJ
    obtain ⟨e0, e1, e2, -⟩ := hE'
    obtain ⟨p0, p1, p2, p3, p4, -⟩ := hL'
    obtain rfl := sg_tn hs'
    exact k1 L' f0 e0 e1 e2 p0 p1 p2 p3 p4
def sg_ph_d_Z : List sg_z := [(11, [(0, .inr (.inl [50])), (1, .inl (false, (1, .ofNat 1, .ofNat 0))), (2, .inl (false, (2, .ofNat 1, .ofNat 0))), (3, .inl (false, (3, .ofNat 1, .ofNat 1))), (4, .inl (false, (0, .ofNat 0, .ofNat 13)))], [], [(2, 4, (4, .ofNat 1, .ofNat 0), (0, .ofNat 0, .ofNat 12), (0, .ofNat 0, .ofNat 0))], [(1, [(.ofNat 0, .ofNat 7)]), (2, [(.ofNat 0, .ofNat 7)]), (3, [(.ofNat 0, .ofNat 12)]), (4, [(.ofNat 13, .ofNat 13)])], [], []),
  (45, [(0, .inr (.inl [50])), (1, .inl (false, (0, .ofNat 0, .ofNat 7))), (2, .inl (false, (2, .ofNat 1, .ofNat 0))), (3, .inl (false, (3, .ofNat 1, .ofNat 0))), (4, .inl (false, (4, .ofNat 1, .ofNat 0)))], [.inl (true, (7, .ofNat 1, .ofNat 0)), .inl (true, (6, .ofNat 1, .ofNat 0)), .inl (false, (5, .ofNat 1, .ofNat 0)), .inr (.inl [62])], [(0, 61, (3, .ofNat 1, .ofNat 0), (7, .ofNat 1, .ofNat 0), (0, .ofNat 0, .ofNat 0)), (0, 62, (5, .ofNat 1, .ofNat 0), (6, .ofNat 1, .ofNat 0), (0, .ofNat 0, .ofNat 0)), (2, 5, (4, .ofNat 1, .ofNat 0), (0, .ofNat 0, .ofNat 12), (0, .ofNat 0, .ofNat 0))], [(1, [(.ofNat 7, .ofNat 7)]), (2, [(.ofNat 0, .ofNat 7)]), (3, [(.ofNat 0, .ofNat 12)]), (4, [(.ofNat 0, .ofNat 12)]), (5, [(.ofNat 0, .ofNat 24)])], [((3, .ofNat 1, .ofNat 0), (4, .ofNat 1, .ofNat 0), (5, .ofNat 1, .ofNat 0))], []),
  (45, [(0, .inr (.inl [50])), (1, .inl (false, (0, .ofNat 0, .ofNat 6))), (2, .inl (false, (2, .ofNat 1, .ofNat 0))), (3, .inl (false, (3, .ofNat 1, .ofNat 0))), (4, .inl (false, (4, .ofNat 1, .ofNat 0)))], [.inl (true, (7, .ofNat 1, .ofNat 0)), .inl (true, (6, .ofNat 1, .ofNat 0)), .inl (false, (5, .ofNat 1, .ofNat 0)), .inr (.inl [62])], [(0, 60, (3, .ofNat 1, .ofNat 0), (7, .ofNat 1, .ofNat 0), (0, .ofNat 0, .ofNat 0)), (0, 62, (5, .ofNat 1, .ofNat 0), (6, .ofNat 1, .ofNat 0), (0, .ofNat 0, .ofNat 0)), (2, 5, (4, .ofNat 1, .ofNat 0), (0, .ofNat 0, .ofNat 12), (0, .ofNat 0, .ofNat 0))], [(1, [(.ofNat 6, .ofNat 6)]), (2, [(.ofNat 0, .ofNat 7)]), (3, [(.ofNat 0, .ofNat 12)]), (4, [(.ofNat 0, .ofNat 12)]), (5, [(.ofNat 0, .ofNat 24)])], [((3, .ofNat 1, .ofNat 0), (4, .ofNat 1, .ofNat 0), (5, .ofNat 1, .ofNat 0))], []),
  (45, [(0, .inr (.inl [50])), (1, .inl (false, (0, .ofNat 0, .ofNat 5))), (2, .inl (false, (2, .ofNat 1, .ofNat 0))), (3, .inl (false, (3, .ofNat 1, .ofNat 0))), (4, .inl (false, (4, .ofNat 1, .ofNat 0)))], [.inl (true, (7, .ofNat 1, .ofNat 0)), .inl (true, (6, .ofNat 1, .ofNat 0)), .inl (false, (5, .ofNat 1, .ofNat 0)), .inr (.inl [62])], [(0, 59, (3, .ofNat 1, .ofNat 0), (7, .ofNat 1, .ofNat 0), (0, .ofNat 0, .ofNat 0)), (0, 62, (5, .ofNat 1, .ofNat 0), (6, .ofNat 1, .ofNat 0), (0, .ofNat 0, .ofNat 0)), (2, 5, (4, .ofNat 1, .ofNat 0), (0, .ofNat 0, .ofNat 12), (0, .ofNat 0, .ofNat 0))], [(1, [(.ofNat 5, .ofNat 5)]), (2, [(.ofNat 0, .ofNat 7)]), (3, [(.ofNat 0, .ofNat 12)]), (4, [(.ofNat 0, .ofNat 12)]), (5, [(.ofNat 0, .ofNat 24)])], [((3, .ofNat 1, .ofNat 0), (4, .ofNat 1, .ofNat 0), (5, .ofNat 1, .ofNat 0))], []),
  (45, [(0, .inr (.inl [50])), (1, .inl (false, (0, .ofNat 0, .ofNat 4))), (2, .inl (false, (2, .ofNat 1, .ofNat 0))), (3, .inl (false, (3, .ofNat 1, .ofNat 0))), (4, .inl (false, (4, .ofNat 1, .ofNat 0)))], [.inl (true, (7, .ofNat 1, .ofNat 0)), .inl (true, (6, .ofNat 1, .ofNat 0)), .inl (false, (5, .ofNat 1, .ofNat 0)), .inr (.inl [62])], [(0, 58, (3, .ofNat 1, .ofNat 0), (7, .ofNat 1, .ofNat 0), (0, .ofNat 0, .ofNat 0)), (0, 62, (5, .ofNat 1, .ofNat 0), (6, .ofNat 1, .ofNat 0), (0, .ofNat 0, .ofNat 0)), (2, 5, (4, .ofNat 1, .ofNat 0), (0, .ofNat 0, .ofNat 12), (0, .ofNat 0, .ofNat 0))], [(1, [(.ofNat 4, .ofNat 4)]), (2, [(.ofNat 0, .ofNat 7)]), (3, [(.ofNat 0, .ofNat 12)]), (4, [(.ofNat 0, .ofNat 12)]), (5, [(.ofNat 0, .ofNat 24)])], [((3, .ofNat 1, .ofNat 0), (4, .ofNat 1, .ofNat 0), (5, .ofNat 1, .ofNat 0))], []),
  (45, [(0, .inr (.inl [50])), (1, .inl (false, (0, .ofNat 0, .ofNat 3))), (2, .inl (false, (2, .ofNat 1, .ofNat 0))), (3, .inl (false, (3, .ofNat 1, .ofNat 0))), (4, .inl (false, (4, .ofNat 1, .ofNat 0)))], [.inl (true, (7, .ofNat 1, .ofNat 0)), .inl (true, (6, .ofNat 1, .ofNat 0)), .inl (false, (5, .ofNat 1, .ofNat 0)), .inr (.inl [62])], [(0, 57, (3, .ofNat 1, .ofNat 0), (7, .ofNat 1, .ofNat 0), (0, .ofNat 0, .ofNat 0)), (0, 62, (5, .ofNat 1, .ofNat 0), (6, .ofNat 1, .ofNat 0), (0, .ofNat 0, .ofNat 0)), (2, 5, (4, .ofNat 1, .ofNat 0), (0, .ofNat 0, .ofNat 12), (0, .ofNat 0, .ofNat 0))], [(1, [(.ofNat 3, .ofNat 3)]), (2, [(.ofNat 0, .ofNat 7)]), (3, [(.ofNat 0, .ofNat 12)]), (4, [(.ofNat 0, .ofNat 12)]), (5, [(.ofNat 0, .ofNat 24)])], [((3, .ofNat 1, .ofNat 0), (4, .ofNat 1, .ofNat 0), (5, .ofNat 1, .ofNat 0))], []),
  (45, [(0, .inr (.inl [50])), (1, .inl (false, (0, .ofNat 0, .ofNat 2))), (2, .inl (false, (2, .ofNat 1, .ofNat 0))), (3, .inl (false, (3, .ofNat 1, .ofNat 0))), (4, .inl (false, (4, .ofNat 1, .ofNat 0)))], [.inl (true, (7, .ofNat 1, .ofNat 0)), .inl (true, (6, .ofNat 1, .ofNat 0)), .inl (false, (5, .ofNat 1, .ofNat 0)), .inr (.inl [62])], [(0, 56, (3, .ofNat 1, .ofNat 0), (7, .ofNat 1, .ofNat 0), (0, .ofNat 0, .ofNat 0)), (0, 62, (5, .ofNat 1, .ofNat 0), (6, .ofNat 1, .ofNat 0), (0, .ofNat 0, .ofNat 0)), (2, 5, (4, .ofNat 1, .ofNat 0), (0, .ofNat 0, .ofNat 12), (0, .ofNat 0, .ofNat 0))], [(1, [(.ofNat 2, .ofNat 2)]), (2, [(.ofNat 0, .ofNat 7)]), (3, [(.ofNat 0, .ofNat 12)]), (4, [(.ofNat 0, .ofNat 12)]), (5, [(.ofNat 0, .ofNat 24)])], [((3, .ofNat 1, .ofNat 0), (4, .ofNat 1, .ofNat 0), (5, .ofNat 1, .ofNat 0))], []),
  (45, [(0, .inr (.inl [50])), (1, .inl (false, (0, .ofNat 0, .ofNat 1))), (2, .inl (false, (2, .ofNat 1, .ofNat 0))), (3, .inl (false, (3, .ofNat 1, .ofNat 0))), (4, .inl (false, (4, .ofNat 1, .ofNat 0)))], [.inl (true, (7, .ofNat 1, .ofNat 0)), .inl (true, (6, .ofNat 1, .ofNat 0)), .inl (false, (5, .ofNat 1, .ofNat 0)), .inr (.inl [62])], [(0, 55, (3, .ofNat 1, .ofNat 0), (7, .ofNat 1, .ofNat 0), (0, .ofNat 0, .ofNat 0)), (0, 62, (5, .ofNat 1, .ofNat 0), (6, .ofNat 1, .ofNat 0), (0, .ofNat 0, .ofNat 0)), (2, 5, (4, .ofNat 1, .ofNat 0), (0, .ofNat 0, .ofNat 12), (0, .ofNat 0, .ofNat 0))], [(1, [(.ofNat 1, .ofNat 1)]), (2, [(.ofNat 0, .ofNat 7)]), (3, [(.ofNat 0, .ofNat 12)]), (4, [(.ofNat 0, .ofNat 12)]), (5, [(.ofNat 0, .ofNat 24)])], [((3, .ofNat 1, .ofNat 0), (4, .ofNat 1, .ofNat 0), (5, .ofNat 1, .ofNat 0))], []),
  (45, [(0, .inr (.inl [50])), (1, .inl (false, (0, .ofNat 0, .ofNat 0))), (2, .inl (false, (2, .ofNat 1, .ofNat 0))), (3, .inl (false, (3, .ofNat 1, .ofNat 0))), (4, .inl (false, (4, .ofNat 1, .ofNat 0)))], [.inl (true, (7, .ofNat 1, .ofNat 0)), .inl (true, (6, .ofNat 1, .ofNat 0)), .inl (false, (5, .ofNat 1, .ofNat 0)), .inr (.inl [62])], [(0, 54, (3, .ofNat 1, .ofNat 0), (7, .ofNat 1, .ofNat 0), (0, .ofNat 0, .ofNat 0)), (0, 62, (5, .ofNat 1, .ofNat 0), (6, .ofNat 1, .ofNat 0), (0, .ofNat 0, .ofNat 0)), (2, 5, (4, .ofNat 1, .ofNat 0), (0, .ofNat 0, .ofNat 12), (0, .ofNat 0, .ofNat 0))], [(1, [(.ofNat 0, .ofNat 0)]), (2, [(.ofNat 0, .ofNat 7)]), (3, [(.ofNat 0, .ofNat 12)]), (4, [(.ofNat 0, .ofNat 12)]), (5, [(.ofNat 0, .ofNat 24)])], [((3, .ofNat 1, .ofNat 0), (4, .ofNat 1, .ofNat 0), (5, .ofNat 1, .ofNat 0))], [])]
set_option maxRecDepth 1000000 in
theorem sg_ph_d_g : sg_go [(1048612, .inr 1)] [44, 10] 3000 16 19 0 5 [(0, [(.ofNat 0, .ofNat 0)]), (1, [(.ofNat 0, .ofNat 7)]), (2, [(.ofNat 0, .ofNat 7)]), (3, [(.ofNat 0, .ofNat 12)]), (4, [(.ofNat 0, .ofNat 13)])] [] [] [] [(0, .inr (.inl [50])), (1, .inl (false, (1, .ofNat 1, .ofNat 0))), (2, .inl (false, (2, .ofNat 1, .ofNat 0))), (3, .inl (false, (3, .ofNat 1, .ofNat 0))), (4, .inl (false, (4, .ofNat 1, .ofNat 0)))] [] [] sg_ph_d_Z = true := by decide +kernel
set_option maxRecDepth 100000 in
theorem sg_ph_d {Q : Option Value × am_S → Prop} {d : Nat} {S : am_S} {L : am_L} {x1 x2 x3 x4 : Int} (hd : 0 ≤ d) (hP : ax_P0 none S) (l0 : lc L 0 50) (l1 : li L 1 x1) (l2 : li L 2 x2) (l3 : li L 3 x3) (l4 : li L 4 x4) (b1 : (0 ≤ x1 ∧ x1 ≤ 7)) (b2 : (0 ≤ x2 ∧ x2 ≤ 7)) (b3 : (0 ≤ x3 ∧ x3 ≤ 12)) (b4 : (0 ≤ x4 ∧ x4 ≤ 13))
    (k0 : ∀ (L' : am_L), 12 < x4 → (0 ≤ x1 ∧ x1 ≤ 7) → (0 ≤ x2 ∧ x2 ≤ 7) → (0 ≤ x3 ∧ x3 ≤ 12) → (13 ≤ x4 ∧ x4 ≤ 13) → lc L' 0 50 → li L' 1 x1 → li L' 2 x2 → li L' 3 (x3 + 1) → li L' 4 13 → am_V none d 16 10 L' ([]) S Q)
    (k1 : ∀ (x5 x6 x7 : Int) (L' : am_L) (i1 : Int64) (i2 : Int64) (i3 : Int32), x4 ≤ 12 → rd S 62 x5 = x6 → rd S 61 x3 = x7 → (7 ≤ x1 ∧ x1 ≤ 7) → (0 ≤ x2 ∧ x2 ≤ 7) → (0 ≤ x3 ∧ x3 ≤ 12) → (0 ≤ x4 ∧ x4 ≤ 12) → (0 ≤ x5 ∧ x5 ≤ 24) → x3 + x4 = x5 → lc L' 0 50 → li L' 1 7 → li L' 2 x2 → li L' 3 x3 → li L' 4 x4 → i1.toInt = x7 → i2.toInt = x6 → i3.toInt = x5 → am_V none d 16 44 L' ((.long i1) :: (.long i2) :: (.int i3) :: (.ref 62) :: []) S Q)
    (k2 : ∀ (x5 x6 x7 : Int) (L' : am_L) (i1 : Int64) (i2 : Int64) (i3 : Int32), x4 ≤ 12 → rd S 62 x5 = x6 → rd S 60 x3 = x7 → (6 ≤ x1 ∧ x1 ≤ 6) → (0 ≤ x2 ∧ x2 ≤ 7) → (0 ≤ x3 ∧ x3 ≤ 12) → (0 ≤ x4 ∧ x4 ≤ 12) → (0 ≤ x5 ∧ x5 ≤ 24) → x3 + x4 = x5 → lc L' 0 50 → li L' 1 6 → li L' 2 x2 → li L' 3 x3 → li L' 4 x4 → i1.toInt = x7 → i2.toInt = x6 → i3.toInt = x5 → am_V none d 16 44 L' ((.long i1) :: (.long i2) :: (.int i3) :: (.ref 62) :: []) S Q)
    (k3 : ∀ (x5 x6 x7 : Int) (L' : am_L) (i1 : Int64) (i2 : Int64) (i3 : Int32), x4 ≤ 12 → rd S 62 x5 = x6 → rd S 59 x3 = x7 → (5 ≤ x1 ∧ x1 ≤ 5) → (0 ≤ x2 ∧ x2 ≤ 7) → (0 ≤ x3 ∧ x3 ≤ 12) → (0 ≤ x4 ∧ x4 ≤ 12) → (0 ≤ x5 ∧ x5 ≤ 24) → x3 + x4 = x5 → lc L' 0 50 → li L' 1 5 → li L' 2 x2 → li L' 3 x3 → li L' 4 x4 → i1.toInt = x7 → i2.toInt = x6 → i3.toInt = x5 → am_V none d 16 44 L' ((.long i1) :: (.long i2) :: (.int i3) :: (.ref 62) :: []) S Q)
    (k4 : ∀ (x5 x6 x7 : Int) (L' : am_L) (i1 : Int64) (i2 : Int64) (i3 : Int32), x4 ≤ 12 → rd S 62 x5 = x6 → rd S 58 x3 = x7 → (4 ≤ x1 ∧ x1 ≤ 4) → (0 ≤ x2 ∧ x2 ≤ 7) → (0 ≤ x3 ∧ x3 ≤ 12) → (0 ≤ x4 ∧ x4 ≤ 12) → (0 ≤ x5 ∧ x5 ≤ 24) → x3 + x4 = x5 → lc L' 0 50 → li L' 1 4 → li L' 2 x2 → li L' 3 x3 → li L' 4 x4 → i1.toInt = x7 → i2.toInt = x6 → i3.toInt = x5 → am_V none d 16 44 L' ((.long i1) :: (.long i2) :: (.int i3) :: (.ref 62) :: []) S Q)
    (k5 : ∀ (x5 x6 x7 : Int) (L' : am_L) (i1 : Int64) (i2 : Int64) (i3 : Int32), x4 ≤ 12 → rd S 62 x5 = x6 → rd S 57 x3 = x7 → (3 ≤ x1 ∧ x1 ≤ 3) → (0 ≤ x2 ∧ x2 ≤ 7) → (0 ≤ x3 ∧ x3 ≤ 12) → (0 ≤ x4 ∧ x4 ≤ 12) → (0 ≤ x5 ∧ x5 ≤ 24) → x3 + x4 = x5 → lc L' 0 50 → li L' 1 3 → li L' 2 x2 → li L' 3 x3 → li L' 4 x4 → i1.toInt = x7 → i2.toInt = x6 → i3.toInt = x5 → am_V none d 16 44 L' ((.long i1) :: (.long i2) :: (.int i3) :: (.ref 62) :: []) S Q)
    (k6 : ∀ (x5 x6 x7 : Int) (L' : am_L) (i1 : Int64) (i2 : Int64) (i3 : Int32), x4 ≤ 12 → rd S 62 x5 = x6 → rd S 56 x3 = x7 → (2 ≤ x1 ∧ x1 ≤ 2) → (0 ≤ x2 ∧ x2 ≤ 7) → (0 ≤ x3 ∧ x3 ≤ 12) → (0 ≤ x4 ∧ x4 ≤ 12) → (0 ≤ x5 ∧ x5 ≤ 24) → x3 + x4 = x5 → lc L' 0 50 → li L' 1 2 → li L' 2 x2 → li L' 3 x3 → li L' 4 x4 → i1.toInt = x7 → i2.toInt = x6 → i3.toInt = x5 → am_V none d 16 44 L' ((.long i1) :: (.long i2) :: (.int i3) :: (.ref 62) :: []) S Q)
    (k7 : ∀ (x5 x6 x7 : Int) (L' : am_L) (i1 : Int64) (i2 : Int64) (i3 : Int32), x4 ≤ 12 → rd S 62 x5 = x6 → rd S 55 x3 = x7 → (1 ≤ x1 ∧ x1 ≤ 1) → (0 ≤ x2 ∧ x2 ≤ 7) → (0 ≤ x3 ∧ x3 ≤ 12) → (0 ≤ x4 ∧ x4 ≤ 12) → (0 ≤ x5 ∧ x5 ≤ 24) → x3 + x4 = x5 → lc L' 0 50 → li L' 1 1 → li L' 2 x2 → li L' 3 x3 → li L' 4 x4 → i1.toInt = x7 → i2.toInt = x6 → i3.toInt = x5 → am_V none d 16 44 L' ((.long i1) :: (.long i2) :: (.int i3) :: (.ref 62) :: []) S Q)
    (k8 : ∀ (x5 x6 x7 : Int) (L' : am_L) (i1 : Int64) (i2 : Int64) (i3 : Int32), x4 ≤ 12 → rd S 62 x5 = x6 → rd S 54 x3 = x7 → (0 ≤ x1 ∧ x1 ≤ 0) → (0 ≤ x2 ∧ x2 ≤ 7) → (0 ≤ x3 ∧ x3 ≤ 12) → (0 ≤ x4 ∧ x4 ≤ 12) → (0 ≤ x5 ∧ x5 ≤ 24) → x3 + x4 = x5 → lc L' 0 50 → li L' 1 0 → li L' 2 x2 → li L' 3 x3 → li L' 4 x4 → i1.toInt = x7 → i2.toInt = x6 → i3.toInt = x5 → am_V none d 16 44 L' ((.long i1) :: (.long i2) :: (.int i3) :: (.ref 62) :: []) S Q) : am_V none d 16 19 L ([]) S Q := by
  refine sg_use sg_ph_d_g hd hP (sg_xs [0, x1, x2, x3, x4]) ⟨⟨Int.le_refl 0, Int.le_refl 0⟩, b1, b2, b3, b4, trivial⟩ trivial trivial trivial ⟨l0, l1, l2, l3, l4, trivial⟩ trivial ?_
  intro z hz x' L' st' S' hx hP' hW hL' hs' hJ hE' hT' hD'
  have q1 : x' 1 = x1 := hx 1 (by decide)
  subst q1
  have q2 : x' 2 = x2 := hx 2 (by decide)
  subst q2
  have q3 : x' 3 = x3 := hx 3 (by decide)
  subst q3
  have q4 : x' 4 = x4 := hx 4 (by decide)
  subst q4
  have eS : S' = S := hW.1 rfl
  subst eS
  simp only [sg_ph_d_Z, List.mem_cons, List.not_mem_nil, or_false] at hz
  rcases hz with rfl | rfl | rfl | rfl | rfl | rfl | rfl | rfl | rfl
  · obtain ⟨f0, hσ⟩ := hJ
    obtain ⟨e0, e1, e2, e3, -⟩ := hE'
    obtain ⟨p0, p1, p2, p3, p4, -⟩ := hL'
    obtain rfl := sg_tn hs'
    exact k0 L' f0 e0 e1 e2 e3 p0 p1 p2 p3 p4
  · obtain ⟨f0, f1, f2, hσ⟩ := hJ
    obtain ⟨e0, e1, e2, e3, e4, -⟩ := hE'
    obtain ⟨t0, -⟩ := hT'
    obtain ⟨p0, p1, p2, p3, p4, -⟩ := hL'
    obtain ⟨v1, r1, rfl, ⟨i1, rfl, g1⟩, hs1⟩ := sg_tc hs'
    obtain ⟨v2, r2, rfl, ⟨i2, rfl, g2⟩, hs2⟩ := sg_tc hs1
    obtain ⟨v3, r3, rfl, ⟨i3, rfl, g3⟩, hs3⟩ := sg_tc hs2
    obtain ⟨v4, r4, rfl, rfl, hs4⟩ := sg_tc hs3
    obtain rfl := sg_tn hs4
    exact k1 (x' 5) (x' 6) (x' 7) L' i1 i2 i3 f0 f1 f2 e0 e1 e2 e3 e4 t0 p0 p1 p2 p3 p4 g1 g2 g3
  · obtain ⟨f0, f1, f2, hσ⟩ := hJ
    obtain ⟨e0, e1, e2, e3, e4, -⟩ := hE'
    obtain ⟨t0, -⟩ := hT'
    obtain ⟨p0, p1, p2, p3, p4, -⟩ := hL'
    obtain ⟨v1, r1, rfl, ⟨i1, rfl, g1⟩, hs1⟩ := sg_tc hs'
    obtain ⟨v2, r2, rfl, ⟨i2, rfl, g2⟩, hs2⟩ := sg_tc hs1
    obtain ⟨v3, r3, rfl, ⟨i3, rfl, g3⟩, hs3⟩ := sg_tc hs2
    obtain ⟨v4, r4, rfl, rfl, hs4⟩ := sg_tc hs3
    obtain rfl := sg_tn hs4
    exact k2 (x' 5) (x' 6) (x' 7) L' i1 i2 i3 f0 f1 f2 e0 e1 e2 e3 e4 t0 p0 p1 p2 p3 p4 g1 g2 g3
  · obtain ⟨f0, f1, f2, hσ⟩ := hJ
    obtain ⟨e0, e1, e2, e3, e4, -⟩ := hE'
    obtain ⟨t0, -⟩ := hT'
    obtain ⟨p0, p1, p2, p3, p4, -⟩ := hL'
    obtain ⟨v1, r1, rfl, ⟨i1, rfl, g1⟩, hs1⟩ := sg_tc hs'
    obtain ⟨v2, r2, rfl, ⟨i2, rfl, g2⟩, hs2⟩ := sg_tc hs1
    obtain ⟨v3, r3, rfl, ⟨i3, rfl, g3⟩, hs3⟩ := sg_tc hs2
    obtain ⟨v4, r4, rfl, rfl, hs4⟩ := sg_tc hs3
    obtain rfl := sg_tn hs4
    exact k3 (x' 5) (x' 6) (x' 7) L' i1 i2 i3 f0 f1 f2 e0 e1 e2 e3 e4 t0 p0 p1 p2 p3 p4 g1 g2 g3
  · obtain ⟨f0, f1, f2, hσ⟩ := hJ
    obtain ⟨e0, e1, e2, e3, e4, -⟩ := hE'
    obtain ⟨t0, -⟩ := hT'
    obtain ⟨p0, p1, p2, p3, p4, -⟩ := hL'
    obtain ⟨v1, r1, rfl, ⟨i1, rfl, g1⟩, hs1⟩ := sg_tc hs'
    obtain ⟨v2, r2, rfl, ⟨i2, rfl, g2⟩, hs2⟩ := sg_tc hs1
    obtain ⟨v3, r3, rfl, ⟨i3, rfl, g3⟩, hs3⟩ := sg_tc hs2
    obtain ⟨v4, r4, rfl, rfl, hs4⟩ := sg_tc hs3
    obtain rfl := sg_tn hs4
    exact k4 (x' 5) (x' 6) (x' 7) L' i1 i2 i3 f0 f1 f2 e0 e1 e2 e3 e4 t0 p0 p1 p2 p3 p4 g1 g2 g3
  · obtain ⟨f0, f1, f2, hσ⟩ := hJ
    obtain ⟨e0, e1, e2, e3, e4, -⟩ := hE'
    obtain ⟨t0, -⟩ := hT'
    obtain ⟨p0, p1, p2, p3, p4, -⟩ := hL'
    obtain ⟨v1, r1, rfl, ⟨i1, rfl, g1⟩, hs1⟩ := sg_tc hs'
    obtain ⟨v2, r2, rfl, ⟨i2, rfl, g2⟩, hs2⟩ := sg_tc hs1
    obtain ⟨v3, r3, rfl, ⟨i3, rfl, g3⟩, hs3⟩ := sg_tc hs2
    obtain ⟨v4, r4, rfl, rfl, hs4⟩ := sg_tc hs3
    obtain rfl := sg_tn hs4
    exact k5 (x' 5) (x' 6) (x' 7) L' i1 i2 i3 f0 f1 f2 e0 e1 e2 e3 e4 t0 p0 p1 p2 p3 p4 g1 g2 g3
  · obtain ⟨f0, f1, f2, hσ⟩ := hJ
    obtain ⟨e0, e1, e2, e3, e4, -⟩ := hE'
    obtain ⟨t0, -⟩ := hT'
    obtain ⟨p0, p1, p2, p3, p4, -⟩ := hL'
    obtain ⟨v1, r1, rfl, ⟨i1, rfl, g1⟩, hs1⟩ := sg_tc hs'
    obtain ⟨v2, r2, rfl, ⟨i2, rfl, g2⟩, hs2⟩ := sg_tc hs1
    obtain ⟨v3, r3, rfl, ⟨i3, rfl, g3⟩, hs3⟩ := sg_tc hs2
    obtain ⟨v4, r4, rfl, rfl, hs4⟩ := sg_tc hs3
    obtain rfl := sg_tn hs4
    exact k6 (x' 5) (x' 6) (x' 7) L' i1 i2 i3 f0 f1 f2 e0 e1 e2 e3 e4 t0 p0 p1 p2 p3 p4 g1 g2 g3
  · obtain ⟨f0, f1, f2, hσ⟩ := hJ
    obtain ⟨e0, e1, e2, e3, e4, -⟩ := hE'
    obtain ⟨t0, -⟩ := hT'
    obtain ⟨p0, p1, p2, p3, p4, -⟩ := hL'
    obtain ⟨v1, r1, rfl, ⟨i1, rfl, g1⟩, hs1⟩ := sg_tc hs'
    obtain ⟨v2, r2, rfl, ⟨i2, rfl, g2⟩, hs2⟩ := sg_tc hs1
    obtain ⟨v3, r3, rfl, ⟨i3, rfl, g3⟩, hs3⟩ := sg_tc hs2
    obtain ⟨v4, r4, rfl, rfl, hs4⟩ := sg_tc hs3
    obtain rfl := sg_tn hs4
    exact k7 (x' 5) (x' 6) (x' 7) L' i1 i2 i3 f0 f1 f2 e0 e1 e2 e3 e4 t0 p0 p1 p2 p3 p4 g1 g2 g3
  · obtain ⟨f0, f1, f2, hσ⟩ := hJ
    obtain ⟨e0, e1, e2, e3, e4, -⟩ := hE'
    obtain ⟨t0, -⟩ := hT'
    obtain ⟨p0, p1, p2, p3, p4, -⟩ := hL'
    obtain ⟨v1, r1, rfl, ⟨i1, rfl, g1⟩, hs1⟩ := sg_tc hs'
    obtain ⟨v2, r2, rfl, ⟨i2, rfl, g2⟩, hs2⟩ := sg_tc hs1
    obtain ⟨v3, r3, rfl, ⟨i3, rfl, g3⟩, hs3⟩ := sg_tc hs2
    obtain ⟨v4, r4, rfl, rfl, hs4⟩ := sg_tc hs3
    obtain rfl := sg_tn hs4
    exact k8 (x' 5) (x' 6) (x' 7) L' i1 i2 i3 f0 f1 f2 e0 e1 e2 e3 e4 t0 p0 p1 p2 p3 p4 g1 g2 g3
def sg_ph_e_Z : List sg_z := [(20, [(0, .inr (.inl [50])), (1, .inl (false, (1, .ofNat 1, .ofNat 0))), (2, .inl (false, (0, .ofNat 0, .ofNat 7))), (3, .inl (false, (3, .ofNat 1, .ofNat 0))), (4, .inl (false, (4, .ofNat 1, .ofNat 1)))], [], [(1, 62, (7, .ofNat 1, .ofNat 0), (10, .ofNat 1, .ofNat 0), (0, .ofNat 0, .ofNat 0)), (4, 3, (6, .ofNat 1, .ofNat 0), (9, .ofNat 1, .ofNat 0), (10, .ofNat 1, .ofNat 0)), (4, 0, (5, .ofNat 1, .ofNat 0), (8, .ofNat 1, .ofNat 0), (9, .ofNat 1, .ofNat 0)), (0, 61, (4, .ofNat 1, .ofNat 0), (8, .ofNat 1, .ofNat 0), (0, .ofNat 0, .ofNat 0))], [(1, [(.ofNat 0, .ofNat 7)]), (2, [(.ofNat 7, .ofNat 7)]), (3, [(.ofNat 0, .ofNat 12)]), (4, [(.ofNat 0, .ofNat 12)]), (7, [(.ofNat 0, .ofNat 24)])], [], []),
  (20, [(0, .inr (.inl [50])), (1, .inl (false, (1, .ofNat 1, .ofNat 0))), (2, .inl (false, (0, .ofNat 0, .ofNat 6))), (3, .inl (false, (3, .ofNat 1, .ofNat 0))), (4, .inl (false, (4, .ofNat 1, .ofNat 1)))], [], [(1, 62, (7, .ofNat 1, .ofNat 0), (10, .ofNat 1, .ofNat 0), (0, .ofNat 0, .ofNat 0)), (4, 3, (6, .ofNat 1, .ofNat 0), (9, .ofNat 1, .ofNat 0), (10, .ofNat 1, .ofNat 0)), (4, 0, (5, .ofNat 1, .ofNat 0), (8, .ofNat 1, .ofNat 0), (9, .ofNat 1, .ofNat 0)), (0, 60, (4, .ofNat 1, .ofNat 0), (8, .ofNat 1, .ofNat 0), (0, .ofNat 0, .ofNat 0))], [(1, [(.ofNat 0, .ofNat 7)]), (2, [(.ofNat 6, .ofNat 6)]), (3, [(.ofNat 0, .ofNat 12)]), (4, [(.ofNat 0, .ofNat 12)]), (7, [(.ofNat 0, .ofNat 24)])], [], []),
  (20, [(0, .inr (.inl [50])), (1, .inl (false, (1, .ofNat 1, .ofNat 0))), (2, .inl (false, (0, .ofNat 0, .ofNat 5))), (3, .inl (false, (3, .ofNat 1, .ofNat 0))), (4, .inl (false, (4, .ofNat 1, .ofNat 1)))], [], [(1, 62, (7, .ofNat 1, .ofNat 0), (10, .ofNat 1, .ofNat 0), (0, .ofNat 0, .ofNat 0)), (4, 3, (6, .ofNat 1, .ofNat 0), (9, .ofNat 1, .ofNat 0), (10, .ofNat 1, .ofNat 0)), (4, 0, (5, .ofNat 1, .ofNat 0), (8, .ofNat 1, .ofNat 0), (9, .ofNat 1, .ofNat 0)), (0, 59, (4, .ofNat 1, .ofNat 0), (8, .ofNat 1, .ofNat 0), (0, .ofNat 0, .ofNat 0))], [(1, [(.ofNat 0, .ofNat 7)]), (2, [(.ofNat 5, .ofNat 5)]), (3, [(.ofNat 0, .ofNat 12)]), (4, [(.ofNat 0, .ofNat 12)]), (7, [(.ofNat 0, .ofNat 24)])], [], []),
  (20, [(0, .inr (.inl [50])), (1, .inl (false, (1, .ofNat 1, .ofNat 0))), (2, .inl (false, (0, .ofNat 0, .ofNat 4))), (3, .inl (false, (3, .ofNat 1, .ofNat 0))), (4, .inl (false, (4, .ofNat 1, .ofNat 1)))], [], [(1, 62, (7, .ofNat 1, .ofNat 0), (10, .ofNat 1, .ofNat 0), (0, .ofNat 0, .ofNat 0)), (4, 3, (6, .ofNat 1, .ofNat 0), (9, .ofNat 1, .ofNat 0), (10, .ofNat 1, .ofNat 0)), (4, 0, (5, .ofNat 1, .ofNat 0), (8, .ofNat 1, .ofNat 0), (9, .ofNat 1, .ofNat 0)), (0, 58, (4, .ofNat 1, .ofNat 0), (8, .ofNat 1, .ofNat 0), (0, .ofNat 0, .ofNat 0))], [(1, [(.ofNat 0, .ofNat 7)]), (2, [(.ofNat 4, .ofNat 4)]), (3, [(.ofNat 0, .ofNat 12)]), (4, [(.ofNat 0, .ofNat 12)]), (7, [(.ofNat 0, .ofNat 24)])], [], []),
  (20, [(0, .inr (.inl [50])), (1, .inl (false, (1, .ofNat 1, .ofNat 0))), (2, .inl (false, (0, .ofNat 0, .ofNat 3))), (3, .inl (false, (3, .ofNat 1, .ofNat 0))), (4, .inl (false, (4, .ofNat 1, .ofNat 1)))], [], [(1, 62, (7, .ofNat 1, .ofNat 0), (10, .ofNat 1, .ofNat 0), (0, .ofNat 0, .ofNat 0)), (4, 3, (6, .ofNat 1, .ofNat 0), (9, .ofNat 1, .ofNat 0), (10, .ofNat 1, .ofNat 0)), (4, 0, (5, .ofNat 1, .ofNat 0), (8, .ofNat 1, .ofNat 0), (9, .ofNat 1, .ofNat 0)), (0, 57, (4, .ofNat 1, .ofNat 0), (8, .ofNat 1, .ofNat 0), (0, .ofNat 0, .ofNat 0))], [(1, [(.ofNat 0, .ofNat 7)]), (2, [(.ofNat 3, .ofNat 3)]), (3, [(.ofNat 0, .ofNat 12)]), (4, [(.ofNat 0, .ofNat 12)]), (7, [(.ofNat 0, .ofNat 24)])], [], []),
  (20, [(0, .inr (.inl [50])), (1, .inl (false, (1, .ofNat 1, .ofNat 0))), (2, .inl (false, (0, .ofNat 0, .ofNat 2))), (3, .inl (false, (3, .ofNat 1, .ofNat 0))), (4, .inl (false, (4, .ofNat 1, .ofNat 1)))], [], [(1, 62, (7, .ofNat 1, .ofNat 0), (10, .ofNat 1, .ofNat 0), (0, .ofNat 0, .ofNat 0)), (4, 3, (6, .ofNat 1, .ofNat 0), (9, .ofNat 1, .ofNat 0), (10, .ofNat 1, .ofNat 0)), (4, 0, (5, .ofNat 1, .ofNat 0), (8, .ofNat 1, .ofNat 0), (9, .ofNat 1, .ofNat 0)), (0, 56, (4, .ofNat 1, .ofNat 0), (8, .ofNat 1, .ofNat 0), (0, .ofNat 0, .ofNat 0))], [(1, [(.ofNat 0, .ofNat 7)]), (2, [(.ofNat 2, .ofNat 2)]), (3, [(.ofNat 0, .ofNat 12)]), (4, [(.ofNat 0, .ofNat 12)]), (7, [(.ofNat 0, .ofNat 24)])], [], []),
  (20, [(0, .inr (.inl [50])), (1, .inl (false, (1, .ofNat 1, .ofNat 0))), (2, .inl (false, (0, .ofNat 0, .ofNat 1))), (3, .inl (false, (3, .ofNat 1, .ofNat 0))), (4, .inl (false, (4, .ofNat 1, .ofNat 1)))], [], [(1, 62, (7, .ofNat 1, .ofNat 0), (10, .ofNat 1, .ofNat 0), (0, .ofNat 0, .ofNat 0)), (4, 3, (6, .ofNat 1, .ofNat 0), (9, .ofNat 1, .ofNat 0), (10, .ofNat 1, .ofNat 0)), (4, 0, (5, .ofNat 1, .ofNat 0), (8, .ofNat 1, .ofNat 0), (9, .ofNat 1, .ofNat 0)), (0, 55, (4, .ofNat 1, .ofNat 0), (8, .ofNat 1, .ofNat 0), (0, .ofNat 0, .ofNat 0))], [(1, [(.ofNat 0, .ofNat 7)]), (2, [(.ofNat 1, .ofNat 1)]), (3, [(.ofNat 0, .ofNat 12)]), (4, [(.ofNat 0, .ofNat 12)]), (7, [(.ofNat 0, .ofNat 24)])], [], []),
  (20, [(0, .inr (.inl [50])), (1, .inl (false, (1, .ofNat 1, .ofNat 0))), (2, .inl (false, (0, .ofNat 0, .ofNat 0))), (3, .inl (false, (3, .ofNat 1, .ofNat 0))), (4, .inl (false, (4, .ofNat 1, .ofNat 1)))], [], [(1, 62, (7, .ofNat 1, .ofNat 0), (10, .ofNat 1, .ofNat 0), (0, .ofNat 0, .ofNat 0)), (4, 3, (6, .ofNat 1, .ofNat 0), (9, .ofNat 1, .ofNat 0), (10, .ofNat 1, .ofNat 0)), (4, 0, (5, .ofNat 1, .ofNat 0), (8, .ofNat 1, .ofNat 0), (9, .ofNat 1, .ofNat 0)), (0, 54, (4, .ofNat 1, .ofNat 0), (8, .ofNat 1, .ofNat 0), (0, .ofNat 0, .ofNat 0))], [(1, [(.ofNat 0, .ofNat 7)]), (2, [(.ofNat 0, .ofNat 0)]), (3, [(.ofNat 0, .ofNat 12)]), (4, [(.ofNat 0, .ofNat 12)]), (7, [(.ofNat 0, .ofNat 24)])], [], [])]
set_option maxRecDepth 1000000 in
theorem sg_ph_e_g : sg_go [(1048620, .inr 2)] [19] 3000 16 44 0 8 [(0, [(.ofNat 0, .ofNat 0)]), (1, [(.ofNat 0, .ofNat 7)]), (2, [(.ofNat 0, .ofNat 7)]), (3, [(.ofNat 0, .ofNat 12)]), (4, [(.ofNat 0, .ofNat 12)]), (5, [(.negSucc 9223372036854775807, .ofNat 9223372036854775807)]), (6, [(.negSucc 9223372036854775807, .ofNat 9223372036854775807)]), (7, [(.ofNat 0, .ofNat 24)])] [] [] [] [(0, .inr (.inl [50])), (1, .inl (false, (1, .ofNat 1, .ofNat 0))), (2, .inl (false, (2, .ofNat 1, .ofNat 0))), (3, .inl (false, (3, .ofNat 1, .ofNat 0))), (4, .inl (false, (4, .ofNat 1, .ofNat 0)))] [.inl (true, (5, .ofNat 1, .ofNat 0)), .inl (true, (6, .ofNat 1, .ofNat 0)), .inl (false, (7, .ofNat 1, .ofNat 0)), .inr (.inl [62])] [(62, none)] sg_ph_e_Z = true := by decide +kernel
set_option maxRecDepth 100000 in
theorem sg_ph_e {Q : Option Value × am_S → Prop} {d : Nat} {S : am_S} {L : am_L} {x1 x2 x3 x4 x5 x6 x7 : Int} {i1 : Int64} {i2 : Int64} {i3 : Int32} (hd : 0 ≤ d) (hP : ax_P0 none S) (l0 : lc L 0 50) (l1 : li L 1 x1) (l2 : li L 2 x2) (l3 : li L 3 x3) (l4 : li L 4 x4) (b1 : (0 ≤ x1 ∧ x1 ≤ 7)) (b2 : (0 ≤ x2 ∧ x2 ≤ 7)) (b3 : (0 ≤ x3 ∧ x3 ≤ 12)) (b4 : (0 ≤ x4 ∧ x4 ≤ 12)) (b5 : ((-9223372036854775808) ≤ x5 ∧ x5 ≤ 9223372036854775807)) (b6 : ((-9223372036854775808) ≤ x6 ∧ x6 ≤ 9223372036854775807)) (b7 : (0 ≤ x7 ∧ x7 ≤ 24)) (s1 : i1.toInt = x5) (s2 : i2.toInt = x6) (s3 : i3.toInt = x7)
    (k0 : ∀ (x8 x9 x10 : Int) (L' : am_L) (S' : am_S), ax_P0 none S' → rd S' = sg_up (rd S) 62 x7 x10 → rd S 61 x4 = x8 → (∃ a b : Int64, a.toInt = x5 ∧ b.toInt = x8 ∧ (a * b).toInt = x9) → (∃ a b : Int64, a.toInt = x6 ∧ b.toInt = x9 ∧ (a + b).toInt = x10) → (0 ≤ x1 ∧ x1 ≤ 7) → (7 ≤ x2 ∧ x2 ≤ 7) → (0 ≤ x3 ∧ x3 ≤ 12) → (0 ≤ x4 ∧ x4 ≤ 12) → (0 ≤ x7 ∧ x7 ≤ 24) → lc L' 0 50 → li L' 1 x1 → li L' 2 7 → li L' 3 x3 → li L' 4 (x4 + 1) → am_V none d 16 19 L' ([]) S' Q)
    (k1 : ∀ (x8 x9 x10 : Int) (L' : am_L) (S' : am_S), ax_P0 none S' → rd S' = sg_up (rd S) 62 x7 x10 → rd S 60 x4 = x8 → (∃ a b : Int64, a.toInt = x5 ∧ b.toInt = x8 ∧ (a * b).toInt = x9) → (∃ a b : Int64, a.toInt = x6 ∧ b.toInt = x9 ∧ (a + b).toInt = x10) → (0 ≤ x1 ∧ x1 ≤ 7) → (6 ≤ x2 ∧ x2 ≤ 6) → (0 ≤ x3 ∧ x3 ≤ 12) → (0 ≤ x4 ∧ x4 ≤ 12) → (0 ≤ x7 ∧ x7 ≤ 24) → lc L' 0 50 → li L' 1 x1 → li L' 2 6 → li L' 3 x3 → li L' 4 (x4 + 1) → am_V none d 16 19 L' ([]) S' Q)
    (k2 : ∀ (x8 x9 x10 : Int) (L' : am_L) (S' : am_S), ax_P0 none S' → rd S' = sg_up (rd S) 62 x7 x10 → rd S 59 x4 = x8 → (∃ a b : Int64, a.toInt = x5 ∧ b.toInt = x8 ∧ (a * b).toInt = x9) → (∃ a b : Int64, a.toInt = x6 ∧ b.toInt = x9 ∧ (a + b).toInt = x10) → (0 ≤ x1 ∧ x1 ≤ 7) → (5 ≤ x2 ∧ x2 ≤ 5) → (0 ≤ x3 ∧ x3 ≤ 12) → (0 ≤ x4 ∧ x4 ≤ 12) → (0 ≤ x7 ∧ x7 ≤ 24) → lc L' 0 50 → li L' 1 x1 → li L' 2 5 → li L' 3 x3 → li L' 4 (x4 + 1) → am_V none d 16 19 L' ([]) S' Q)
    (k3 : ∀ (x8 x9 x10 : Int) (L' : am_L) (S' : am_S), ax_P0 none S' → rd S' = sg_up (rd S) 62 x7 x10 → rd S 58 x4 = x8 → (∃ a b : Int64, a.toInt = x5 ∧ b.toInt = x8 ∧ (a * b).toInt = x9) → (∃ a b : Int64, a.toInt = x6 ∧ b.toInt = x9 ∧ (a + b).toInt = x10) → (0 ≤ x1 ∧ x1 ≤ 7) → (4 ≤ x2 ∧ x2 ≤ 4) → (0 ≤ x3 ∧ x3 ≤ 12) → (0 ≤ x4 ∧ x4 ≤ 12) → (0 ≤ x7 ∧ x7 ≤ 24) → lc L' 0 50 → li L' 1 x1 → li L' 2 4 → li L' 3 x3 → li L' 4 (x4 + 1) → am_V none d 16 19 L' ([]) S' Q)
    (k4 : ∀ (x8 x9 x10 : Int) (L' : am_L) (S' : am_S), ax_P0 none S' → rd S' = sg_up (rd S) 62 x7 x10 → rd S 57 x4 = x8 → (∃ a b : Int64, a.toInt = x5 ∧ b.toInt = x8 ∧ (a * b).toInt = x9) → (∃ a b : Int64, a.toInt = x6 ∧ b.toInt = x9 ∧ (a + b).toInt = x10) → (0 ≤ x1 ∧ x1 ≤ 7) → (3 ≤ x2 ∧ x2 ≤ 3) → (0 ≤ x3 ∧ x3 ≤ 12) → (0 ≤ x4 ∧ x4 ≤ 12) → (0 ≤ x7 ∧ x7 ≤ 24) → lc L' 0 50 → li L' 1 x1 → li L' 2 3 → li L' 3 x3 → li L' 4 (x4 + 1) → am_V none d 16 19 L' ([]) S' Q)
    (k5 : ∀ (x8 x9 x10 : Int) (L' : am_L) (S' : am_S), ax_P0 none S' → rd S' = sg_up (rd S) 62 x7 x10 → rd S 56 x4 = x8 → (∃ a b : Int64, a.toInt = x5 ∧ b.toInt = x8 ∧ (a * b).toInt = x9) → (∃ a b : Int64, a.toInt = x6 ∧ b.toInt = x9 ∧ (a + b).toInt = x10) → (0 ≤ x1 ∧ x1 ≤ 7) → (2 ≤ x2 ∧ x2 ≤ 2) → (0 ≤ x3 ∧ x3 ≤ 12) → (0 ≤ x4 ∧ x4 ≤ 12) → (0 ≤ x7 ∧ x7 ≤ 24) → lc L' 0 50 → li L' 1 x1 → li L' 2 2 → li L' 3 x3 → li L' 4 (x4 + 1) → am_V none d 16 19 L' ([]) S' Q)
    (k6 : ∀ (x8 x9 x10 : Int) (L' : am_L) (S' : am_S), ax_P0 none S' → rd S' = sg_up (rd S) 62 x7 x10 → rd S 55 x4 = x8 → (∃ a b : Int64, a.toInt = x5 ∧ b.toInt = x8 ∧ (a * b).toInt = x9) → (∃ a b : Int64, a.toInt = x6 ∧ b.toInt = x9 ∧ (a + b).toInt = x10) → (0 ≤ x1 ∧ x1 ≤ 7) → (1 ≤ x2 ∧ x2 ≤ 1) → (0 ≤ x3 ∧ x3 ≤ 12) → (0 ≤ x4 ∧ x4 ≤ 12) → (0 ≤ x7 ∧ x7 ≤ 24) → lc L' 0 50 → li L' 1 x1 → li L' 2 1 → li L' 3 x3 → li L' 4 (x4 + 1) → am_V none d 16 19 L' ([]) S' Q)
    (k7 : ∀ (x8 x9 x10 : Int) (L' : am_L) (S' : am_S), ax_P0 none S' → rd S' = sg_up (rd S) 62 x7 x10 → rd S 54 x4 = x8 → (∃ a b : Int64, a.toInt = x5 ∧ b.toInt = x8 ∧ (a * b).toInt = x9) → (∃ a b : Int64, a.toInt = x6 ∧ b.toInt = x9 ∧ (a + b).toInt = x10) → (0 ≤ x1 ∧ x1 ≤ 7) → (0 ≤ x2 ∧ x2 ≤ 0) → (0 ≤ x3 ∧ x3 ≤ 12) → (0 ≤ x4 ∧ x4 ≤ 12) → (0 ≤ x7 ∧ x7 ≤ 24) → lc L' 0 50 → li L' 1 x1 → li L' 2 0 → li L' 3 x3 → li L' 4 (x4 + 1) → am_V none d 16 19 L' ([]) S' Q) : am_V none d 16 44 L ((.long i1) :: (.long i2) :: (.int i3) :: (.ref 62) :: []) S Q := by
  refine sg_use sg_ph_e_g hd hP (sg_xs [0, x1, x2, x3, x4, x5, x6, x7]) ⟨⟨Int.le_refl 0, Int.le_refl 0⟩, b1, b2, b3, b4, b5, b6, b7, trivial⟩ trivial trivial trivial ⟨l0, l1, l2, l3, l4, trivial⟩ ⟨⟨_, rfl, s1⟩, ⟨_, rfl, s2⟩, ⟨_, rfl, s3⟩, rfl, trivial⟩ ?_
  intro z hz x' L' st' S' hx hP' hW hL' hs' hJ hE' hT' hD'
  have q1 : x' 1 = x1 := hx 1 (by decide)
  subst q1
  have q2 : x' 2 = x2 := hx 2 (by decide)
  subst q2
  have q3 : x' 3 = x3 := hx 3 (by decide)
  subst q3
  have q4 : x' 4 = x4 := hx 4 (by decide)
  subst q4
  have q5 : x' 5 = x5 := hx 5 (by decide)
  subst q5
  have q6 : x' 6 = x6 := hx 6 (by decide)
  subst q6
  have q7 : x' 7 = x7 := hx 7 (by decide)
  subst q7
  simp only [sg_ph_e_Z, List.mem_cons, List.not_mem_nil, or_false] at hz
  rcases hz with rfl | rfl | rfl | rfl | rfl | rfl | rfl | rfl
  · obtain ⟨f0, f1, f2, hσ⟩ := hJ
    obtain ⟨e0, e1, e2, e3, e4, -⟩ := hE'
    obtain ⟨p0, p1, p2, p3, p4, -⟩ := hL'
    obtain rfl := sg_tn hs'
    exact k0 (x' 8) (x' 9) (x' 10) L' S' hP' hσ f0 f1 f2 e0 e1 e2 e3 e4 p0 p1 p2 p3 p4
  · obtain ⟨f0, f1, f2, hσ⟩ := hJ
    obtain ⟨e0, e1, e2, e3, e4, -⟩ := hE'
    obtain ⟨p0, p1, p2, p3, p4, -⟩ := hL'
    obtain rfl := sg_tn hs'
    exact k1 (x' 8) (x' 9) (x' 10) L' S' hP' hσ f0 f1 f2 e0 e1 e2 e3 e4 p0 p1 p2 p3 p4
  · obtain ⟨f0, f1, f2, hσ⟩ := hJ
    obtain ⟨e0, e1, e2, e3, e4, -⟩ := hE'
    obtain ⟨p0, p1, p2, p3, p4, -⟩ := hL'
    obtain rfl := sg_tn hs'
    exact k2 (x' 8) (x' 9) (x' 10) L' S' hP' hσ f0 f1 f2 e0 e1 e2 e3 e4 p0 p1 p2 p3 p4
  · obtain ⟨f0, f1, f2, hσ⟩ := hJ
    obtain ⟨e0, e1, e2, e3, e4, -⟩ := hE'
    obtain ⟨p0, p1, p2, p3, p4, -⟩ := hL'
    obtain rfl := sg_tn hs'
    exact k3 (x' 8) (x' 9) (x' 10) L' S' hP' hσ f0 f1 f2 e0 e1 e2 e3 e4 p0 p1 p2 p3 p4
  · obtain ⟨f0, f1, f2, hσ⟩ := hJ
    obtain ⟨e0, e1, e2, e3, e4, -⟩ := hE'
    obtain ⟨p0, p1, p2, p3, p4, -⟩ := hL'
    obtain rfl := sg_tn hs'
    exact k4 (x' 8) (x' 9) (x' 10) L' S' hP' hσ f0 f1 f2 e0 e1 e2 e3 e4 p0 p1 p2 p3 p4
  · obtain ⟨f0, f1, f2, hσ⟩ := hJ
    obtain ⟨e0, e1, e2, e3, e4, -⟩ := hE'
    obtain ⟨p0, p1, p2, p3, p4, -⟩ := hL'
    obtain rfl := sg_tn hs'
    exact k5 (x' 8) (x' 9) (x' 10) L' S' hP' hσ f0 f1 f2 e0 e1 e2 e3 e4 p0 p1 p2 p3 p4
  · obtain ⟨f0, f1, f2, hσ⟩ := hJ
    obtain ⟨e0, e1, e2, e3, e4, -⟩ := hE'
    obtain ⟨p0, p1, p2, p3, p4, -⟩ := hL'
    obtain rfl := sg_tn hs'
    exact k6 (x' 8) (x' 9) (x' 10) L' S' hP' hσ f0 f1 f2 e0 e1 e2 e3 e4 p0 p1 p2 p3 p4
  · obtain ⟨f0, f1, f2, hσ⟩ := hJ
    obtain ⟨e0, e1, e2, e3, e4, -⟩ := hE'
    obtain ⟨p0, p1, p2, p3, p4, -⟩ := hL'
    obtain rfl := sg_tn hs'
    exact k7 (x' 8) (x' 9) (x' 10) L' S' hP' hσ f0 f1 f2 e0 e1 e2 e3 e4 p0 p1 p2 p3 p4
def sg_sp_a_Z : List sg_z := [(14, [(0, .inr (.inl [50])), (1, .inl (false, (1, .ofNat 1, .ofNat 0))), (2, .inl (false, (0, .ofNat 0, .ofNat 40))), (3, .inl (false, (0, .ofNat 0, .negSucc 39)))], [], [(2, 4, (2, .ofNat 1, .ofNat 0), (0, .ofNat 0, .ofNat 40), (0, .ofNat 0, .ofNat 0)), (0, 50, (0, .ofNat 0, .ofNat 8), (2, .ofNat 1, .ofNat 0), (0, .ofNat 0, .ofNat 0))], [(1, [(.negSucc 11, .ofNat 12)]), (2, [(.ofNat 41, .ofNat 108)])], [], []),
  (14, [(0, .inr (.inl [50])), (1, .inl (false, (1, .ofNat 1, .ofNat 0))), (2, .inl (false, (2, .ofNat 1, .ofNat 0))), (3, .inl (false, (2, .negSucc 0, .ofNat 0)))], [], [(2, 5, (2, .ofNat 1, .ofNat 0), (0, .ofNat 0, .ofNat 40), (0, .ofNat 0, .ofNat 0)), (0, 50, (0, .ofNat 0, .ofNat 8), (2, .ofNat 1, .ofNat 0), (0, .ofNat 0, .ofNat 0))], [(1, [(.negSucc 11, .ofNat 12)]), (2, [(.ofNat 0, .ofNat 40)])], [], [])]
set_option maxRecDepth 1000000 in
theorem sg_sp_a_g : sg_go [] [13] 3000 17 0 1 3 [(0, [(.ofNat 0, .ofNat 0)]), (1, [(.negSucc 11, .ofNat 12)]), (2, [(.ofNat 0, .ofNat 108)])] [(50, (0, .ofNat 0, .ofNat 8), (2, .ofNat 1, .ofNat 0))] [] [] [(0, .inr (.inl [50])), (1, .inl (false, (1, .ofNat 1, .ofNat 0)))] [] [] sg_sp_a_Z = true := by decide +kernel
set_option maxRecDepth 100000 in
theorem sg_sp_a {Q : Option Value × am_S → Prop} {d : Nat} {S : am_S} {L : am_L} {x1 x2 : Int} (hd : 1 ≤ d) (hP : ax_P0 none S) (l0 : lc L 0 50) (l1 : li L 1 x1) (b1 : ((-12) ≤ x1 ∧ x1 ≤ 12)) (b2 : (0 ≤ x2 ∧ x2 ≤ 108)) (m50_8 : rd S 50 8 = x2)
    (k0 : ∀ (L' : am_L), rd S 50 8 = x2 → 40 < x2 → ((-12) ≤ x1 ∧ x1 ≤ 12) → (41 ≤ x2 ∧ x2 ≤ 108) → lc L' 0 50 → li L' 1 x1 → li L' 2 40 → li L' 3 (-40) → am_V none d 17 13 L' ([]) S Q)
    (k1 : ∀ (L' : am_L), rd S 50 8 = x2 → x2 ≤ 40 → ((-12) ≤ x1 ∧ x1 ≤ 12) → (0 ≤ x2 ∧ x2 ≤ 40) → lc L' 0 50 → li L' 1 x1 → li L' 2 x2 → li L' 3 ((-1) * x2 + 0) → am_V none d 17 13 L' ([]) S Q) : am_V none d 17 0 L ([]) S Q := by
  refine sg_use sg_sp_a_g hd hP (sg_xs [0, x1, x2]) ⟨⟨Int.le_refl 0, Int.le_refl 0⟩, b1, b2, trivial⟩ ⟨sg_fs hP rfl m50_8, trivial⟩ trivial trivial ⟨l0, l1, trivial⟩ trivial ?_
  intro z hz x' L' st' S' hx hP' hW hL' hs' hJ hE' hT' hD'
  have q1 : x' 1 = x1 := hx 1 (by decide)
  subst q1
  have q2 : x' 2 = x2 := hx 2 (by decide)
  subst q2
  have eS : S' = S := hW.1 rfl
  subst eS
  simp only [sg_sp_a_Z, List.mem_cons, List.not_mem_nil, or_false] at hz
  rcases hz with rfl | rfl
  · obtain ⟨f0, f1, hσ⟩ := hJ
    obtain ⟨e0, e1, -⟩ := hE'
    obtain ⟨p0, p1, p2, p3, -⟩ := hL'
    obtain rfl := sg_tn hs'
    exact k0 L' f0 f1 e0 e1 p0 p1 p2 p3
  · obtain ⟨f0, f1, hσ⟩ := hJ
    obtain ⟨e0, e1, -⟩ := hE'
    obtain ⟨p0, p1, p2, p3, -⟩ := hL'
    obtain rfl := sg_tn hs'
    exact k1 L' f0 f1 e0 e1 p0 p1 p2 p3
def sg_sp_b_Z : List sg_z := [(0, [], [], [(2, 4, (3, .ofNat 1, .ofNat 0), (2, .ofNat 1, .ofNat 0), (0, .ofNat 0, .ofNat 0))], [(1, [(.negSucc 11, .ofNat 12)]), (2, [(.ofNat 0, .ofNat 40)]), (3, [(.ofNat 1, .ofNat 41)]), (4, [(.ofNat 0, .ofNat 12)])], [], []),
  (26, [(0, .inr (.inl [50])), (1, .inl (false, (1, .ofNat 1, .ofNat 0))), (2, .inl (false, (2, .ofNat 1, .ofNat 0))), (3, .inl (false, (3, .ofNat 1, .ofNat 0))), (4, .inl (false, (4, .negSucc 0, .ofNat 0)))], [], [(0, 50, (0, .ofNat 0, .ofNat 7), (4, .ofNat 1, .ofNat 0), (0, .ofNat 0, .ofNat 0)), (2, 5, (3, .ofNat 1, .ofNat 0), (2, .ofNat 1, .ofNat 0), (0, .ofNat 0, .ofNat 0))], [(1, [(.negSucc 11, .ofNat 12)]), (2, [(.ofNat 0, .ofNat 40)]), (3, [(.negSucc 39, .ofNat 40)]), (4, [(.ofNat 0, .ofNat 12)])], [], [])]
set_option maxRecDepth 1000000 in
theorem sg_sp_b_g : sg_go [] [25] 3000 17 13 0 5 [(0, [(.ofNat 0, .ofNat 0)]), (1, [(.negSucc 11, .ofNat 12)]), (2, [(.ofNat 0, .ofNat 40)]), (3, [(.negSucc 39, .ofNat 41)]), (4, [(.ofNat 0, .ofNat 12)])] [(50, (0, .ofNat 0, .ofNat 7), (4, .ofNat 1, .ofNat 0))] [] [] [(0, .inr (.inl [50])), (1, .inl (false, (1, .ofNat 1, .ofNat 0))), (2, .inl (false, (2, .ofNat 1, .ofNat 0))), (3, .inl (false, (3, .ofNat 1, .ofNat 0)))] [] [] sg_sp_b_Z = true := by decide +kernel
set_option maxRecDepth 100000 in
theorem sg_sp_b {Q : Option Value × am_S → Prop} {d : Nat} {S : am_S} {L : am_L} {x1 x2 x3 x4 : Int} (hd : 0 ≤ d) (hP : ax_P0 none S) (l0 : lc L 0 50) (l1 : li L 1 x1) (l2 : li L 2 x2) (l3 : li L 3 x3) (b1 : ((-12) ≤ x1 ∧ x1 ≤ 12)) (b2 : (0 ≤ x2 ∧ x2 ≤ 40)) (b3 : ((-40) ≤ x3 ∧ x3 ≤ 41)) (b4 : (0 ≤ x4 ∧ x4 ≤ 12)) (m50_7 : rd S 50 7 = x4)
    (k0 : x2 < x3 → ((-12) ≤ x1 ∧ x1 ≤ 12) → (0 ≤ x2 ∧ x2 ≤ 40) → (1 ≤ x3 ∧ x3 ≤ 41) → (0 ≤ x4 ∧ x4 ≤ 12) → Q (none, S))
    (k1 : ∀ (L' : am_L), x3 ≤ x2 → rd S 50 7 = x4 → ((-12) ≤ x1 ∧ x1 ≤ 12) → (0 ≤ x2 ∧ x2 ≤ 40) → ((-40) ≤ x3 ∧ x3 ≤ 40) → (0 ≤ x4 ∧ x4 ≤ 12) → lc L' 0 50 → li L' 1 x1 → li L' 2 x2 → li L' 3 x3 → li L' 4 ((-1) * x4 + 0) → am_V none d 17 25 L' ([]) S Q) : am_V none d 17 13 L ([]) S Q := by
  refine sg_use sg_sp_b_g hd hP (sg_xs [0, x1, x2, x3, x4]) ⟨⟨Int.le_refl 0, Int.le_refl 0⟩, b1, b2, b3, b4, trivial⟩ ⟨sg_fs hP rfl m50_7, trivial⟩ trivial trivial ⟨l0, l1, l2, l3, trivial⟩ trivial ?_
  intro z hz x' L' st' S' hx hP' hW hL' hs' hJ hE' hT' hD'
  have q1 : x' 1 = x1 := hx 1 (by decide)
  subst q1
  have q2 : x' 2 = x2 := hx 2 (by decide)
  subst q2
  have q3 : x' 3 = x3 := hx 3 (by decide)
  subst q3
  have q4 : x' 4 = x4 := hx 4 (by decide)
  subst q4
  have eS : S' = S := hW.1 rfl
  subst eS
  simp only [sg_sp_b_Z, List.mem_cons, List.not_mem_nil, or_false] at hz
  rcases hz with rfl | rfl
  · obtain ⟨f0, hσ⟩ := hJ
    obtain ⟨e0, e1, e2, e3, -⟩ := hE'
    intro v hv
    subst hv
    cases v with
    | some _ => exact hs'.elim
    | none =>
      exact k0 f0 e0 e1 e2 e3
  · obtain ⟨f0, f1, hσ⟩ := hJ
    obtain ⟨e0, e1, e2, e3, -⟩ := hE'
    obtain ⟨p0, p1, p2, p3, p4, -⟩ := hL'
    obtain rfl := sg_tn hs'
    exact k1 L' f0 f1 e0 e1 e2 e3 p0 p1 p2 p3 p4
def sg_sp_c_Z : List sg_z := [(14, [(0, .inr (.inl [50])), (1, .inl (false, (1, .ofNat 1, .ofNat 0))), (2, .inl (false, (2, .ofNat 1, .ofNat 0))), (3, .inl (false, (3, .ofNat 1, .ofNat 1))), (4, .inl (false, (4, .ofNat 1, .ofNat 0)))], [], [(2, 4, (4, .ofNat 1, .ofNat 0), (5, .ofNat 1, .ofNat 0), (0, .ofNat 0, .ofNat 0)), (0, 50, (0, .ofNat 0, .ofNat 7), (5, .ofNat 1, .ofNat 0), (0, .ofNat 0, .ofNat 0))], [(1, [(.negSucc 11, .ofNat 12)]), (2, [(.ofNat 0, .ofNat 40)]), (3, [(.negSucc 39, .ofNat 40)]), (4, [(.ofNat 1, .ofNat 14)]), (5, [(.ofNat 0, .ofNat 12)])], [], []),
  (26, [(0, .inr (.inl [50])), (1, .inl (false, (1, .ofNat 1, .ofNat 0))), (2, .inl (false, (2, .ofNat 1, .ofNat 0))), (3, .inl (false, (3, .ofNat 1, .ofNat 0))), (4, .inl (false, (4, .ofNat 1, .ofNat 2))), (5, .inl (true, (0, .ofNat 0, .ofNat 0)))], [], [(2, 0, (7, .ofNat 1, .ofNat 0), (0, .ofNat 0, .ofNat 0), (0, .ofNat 0, .ofNat 0)), (0, 51, (6, .ofNat 1, .ofNat 0), (7, .ofNat 1, .ofNat 0), (0, .ofNat 0, .ofNat 0)), (2, 5, (4, .ofNat 1, .ofNat 0), (0, .ofNat 0, .ofNat 12), (0, .ofNat 0, .ofNat 0)), (2, 3, (4, .ofNat 1, .ofNat 0), (0, .ofNat 0, .ofNat 0), (0, .ofNat 0, .ofNat 0)), (2, 5, (3, .ofNat 1, .ofNat 0), (0, .ofNat 0, .ofNat 40), (0, .ofNat 0, .ofNat 0)), (2, 3, (3, .ofNat 1, .ofNat 0), (0, .ofNat 0, .ofNat 0), (0, .ofNat 0, .ofNat 0)), (2, 5, (4, .ofNat 1, .ofNat 0), (5, .ofNat 1, .ofNat 0), (0, .ofNat 0, .ofNat 0)), (0, 50, (0, .ofNat 0, .ofNat 7), (5, .ofNat 1, .ofNat 0), (0, .ofNat 0, .ofNat 0))], [(1, [(.negSucc 11, .ofNat 12)]), (2, [(.ofNat 0, .ofNat 40)]), (3, [(.ofNat 0, .ofNat 40)]), (4, [(.ofNat 0, .ofNat 12)]), (5, [(.ofNat 0, .ofNat 12)]), (6, [(.ofNat 1012, .ofNat 2024)]), (7, [(.ofNat 0, .ofNat 0)])], [((3, .ofNat 25, .ofNat 1012), (4, .ofNat 1, .ofNat 0), (6, .ofNat 1, .ofNat 0))], []),
  (59, [(0, .inr (.inl [50])), (1, .inl (false, (1, .ofNat 1, .ofNat 0))), (2, .inl (false, (2, .ofNat 1, .ofNat 0))), (3, .inl (false, (3, .ofNat 1, .ofNat 0))), (4, .inl (false, (4, .ofNat 1, .ofNat 0))), (5, .inl (true, (7, .ofNat 1, .ofNat 0)))], [.inl (false, (8, .ofNat 1, .ofNat 0)), .inl (false, (3, .ofNat 1, .ofNat 0)), .inl (true, (7, .ofNat 1, .ofNat 0)), .inr (.inl [50])], [(2, 1, (7, .ofNat 1, .ofNat 0), (0, .ofNat 0, .ofNat 0), (0, .ofNat 0, .ofNat 0)), (0, 51, (6, .ofNat 1, .ofNat 0), (7, .ofNat 1, .ofNat 0), (0, .ofNat 0, .ofNat 0)), (2, 5, (4, .ofNat 1, .ofNat 0), (0, .ofNat 0, .ofNat 12), (0, .ofNat 0, .ofNat 0)), (2, 3, (4, .ofNat 1, .ofNat 0), (0, .ofNat 0, .ofNat 0), (0, .ofNat 0, .ofNat 0)), (2, 5, (3, .ofNat 1, .ofNat 0), (0, .ofNat 0, .ofNat 40), (0, .ofNat 0, .ofNat 0)), (2, 3, (3, .ofNat 1, .ofNat 0), (0, .ofNat 0, .ofNat 0), (0, .ofNat 0, .ofNat 0)), (2, 5, (4, .ofNat 1, .ofNat 0), (5, .ofNat 1, .ofNat 0), (0, .ofNat 0, .ofNat 0)), (0, 50, (0, .ofNat 0, .ofNat 7), (5, .ofNat 1, .ofNat 0), (0, .ofNat 0, .ofNat 0))], [(1, [(.negSucc 11, .ofNat 12)]), (2, [(.ofNat 0, .ofNat 40)]), (3, [(.ofNat 0, .ofNat 40)]), (4, [(.ofNat 0, .ofNat 12)]), (5, [(.ofNat 0, .ofNat 12)]), (6, [(.ofNat 1012, .ofNat 2024)]), (7, [(.negSucc 9223372036854775807, .negSucc 0), (.ofNat 1, .ofNat 9223372036854775807)]), (8, [(.negSucc 11, .ofNat 24)])], [((4, .ofNat 1, .ofNat 0), (1, .ofNat 1, .ofNat 0), (8, .ofNat 1, .ofNat 0)), ((3, .ofNat 25, .ofNat 1012), (4, .ofNat 1, .ofNat 0), (6, .ofNat 1, .ofNat 0))], []),
  (26, [(0, .inr (.inl [50])), (1, .inl (false, (1, .ofNat 1, .ofNat 0))), (2, .inl (false, (2, .ofNat 1, .ofNat 0))), (3, .inl (false, (3, .ofNat 1, .ofNat 0))), (4, .inl (false, (4, .ofNat 1, .ofNat 2))), (5, .inl (true, (0, .ofNat 0, .ofNat 0)))], [], [(2, 0, (7, .ofNat 1, .ofNat 0), (0, .ofNat 0, .ofNat 0), (0, .ofNat 0, .ofNat 0)), (0, 51, (6, .ofNat 1, .ofNat 0), (7, .ofNat 1, .ofNat 0), (0, .ofNat 0, .ofNat 0)), (2, 5, (4, .negSucc 0, .ofNat 0), (0, .ofNat 0, .ofNat 12), (0, .ofNat 0, .ofNat 0)), (2, 2, (4, .ofNat 1, .ofNat 0), (0, .ofNat 0, .ofNat 0), (0, .ofNat 0, .ofNat 0)), (2, 5, (3, .ofNat 1, .ofNat 0), (0, .ofNat 0, .ofNat 40), (0, .ofNat 0, .ofNat 0)), (2, 3, (3, .ofNat 1, .ofNat 0), (0, .ofNat 0, .ofNat 0), (0, .ofNat 0, .ofNat 0)), (2, 5, (4, .ofNat 1, .ofNat 0), (5, .ofNat 1, .ofNat 0), (0, .ofNat 0, .ofNat 0)), (0, 50, (0, .ofNat 0, .ofNat 7), (5, .ofNat 1, .ofNat 0), (0, .ofNat 0, .ofNat 0))], [(1, [(.negSucc 11, .ofNat 12)]), (2, [(.ofNat 0, .ofNat 40)]), (3, [(.ofNat 0, .ofNat 40)]), (4, [(.negSucc 11, .negSucc 0)]), (5, [(.ofNat 0, .ofNat 12)]), (6, [(.ofNat 1000, .ofNat 2011)]), (7, [(.ofNat 0, .ofNat 0)])], [((3, .ofNat 25, .ofNat 1012), (4, .ofNat 1, .ofNat 0), (6, .ofNat 1, .ofNat 0))], []),
  (59, [(0, .inr (.inl [50])), (1, .inl (false, (1, .ofNat 1, .ofNat 0))), (2, .inl (false, (2, .ofNat 1, .ofNat 0))), (3, .inl (false, (3, .ofNat 1, .ofNat 0))), (4, .inl (false, (4, .ofNat 1, .ofNat 0))), (5, .inl (true, (7, .ofNat 1, .ofNat 0)))], [.inl (false, (8, .ofNat 1, .ofNat 0)), .inl (false, (3, .ofNat 1, .ofNat 0)), .inl (true, (7, .ofNat 1, .ofNat 0)), .inr (.inl [50])], [(2, 1, (7, .ofNat 1, .ofNat 0), (0, .ofNat 0, .ofNat 0), (0, .ofNat 0, .ofNat 0)), (0, 51, (6, .ofNat 1, .ofNat 0), (7, .ofNat 1, .ofNat 0), (0, .ofNat 0, .ofNat 0)), (2, 5, (4, .negSucc 0, .ofNat 0), (0, .ofNat 0, .ofNat 12), (0, .ofNat 0, .ofNat 0)), (2, 2, (4, .ofNat 1, .ofNat 0), (0, .ofNat 0, .ofNat 0), (0, .ofNat 0, .ofNat 0)), (2, 5, (3, .ofNat 1, .ofNat 0), (0, .ofNat 0, .ofNat 40), (0, .ofNat 0, .ofNat 0)), (2, 3, (3, .ofNat 1, .ofNat 0), (0, .ofNat 0, .ofNat 0), (0, .ofNat 0, .ofNat 0)), (2, 5, (4, .ofNat 1, .ofNat 0), (5, .ofNat 1, .ofNat 0), (0, .ofNat 0, .ofNat 0)), (0, 50, (0, .ofNat 0, .ofNat 7), (5, .ofNat 1, .ofNat 0), (0, .ofNat 0, .ofNat 0))], [(1, [(.negSucc 11, .ofNat 12)]), (2, [(.ofNat 0, .ofNat 40)]), (3, [(.ofNat 0, .ofNat 40)]), (4, [(.negSucc 11, .negSucc 0)]), (5, [(.ofNat 0, .ofNat 12)]), (6, [(.ofNat 1000, .ofNat 2011)]), (7, [(.negSucc 9223372036854775807, .negSucc 0), (.ofNat 1, .ofNat 9223372036854775807)]), (8, [(.negSucc 23, .ofNat 11)])], [((4, .ofNat 1, .ofNat 0), (1, .ofNat 1, .ofNat 0), (8, .ofNat 1, .ofNat 0)), ((3, .ofNat 25, .ofNat 1012), (4, .ofNat 1, .ofNat 0), (6, .ofNat 1, .ofNat 0))], []),
  (26, [(0, .inr (.inl [50])), (1, .inl (false, (1, .ofNat 1, .ofNat 0))), (2, .inl (false, (2, .ofNat 1, .ofNat 0))), (3, .inl (false, (3, .ofNat 1, .ofNat 0))), (4, .inl (false, (4, .ofNat 1, .ofNat 2))), (5, .inl (true, (0, .ofNat 0, .ofNat 0)))], [], [(2, 0, (7, .ofNat 1, .ofNat 0), (0, .ofNat 0, .ofNat 0), (0, .ofNat 0, .ofNat 0)), (0, 51, (6, .ofNat 1, .ofNat 0), (7, .ofNat 1, .ofNat 0), (0, .ofNat 0, .ofNat 0)), (2, 5, (4, .ofNat 1, .ofNat 0), (0, .ofNat 0, .ofNat 12), (0, .ofNat 0, .ofNat 0)), (2, 3, (4, .ofNat 1, .ofNat 0), (0, .ofNat 0, .ofNat 0), (0, .ofNat 0, .ofNat 0)), (2, 5, (3, .negSucc 0, .ofNat 0), (0, .ofNat 0, .ofNat 40), (0, .ofNat 0, .ofNat 0)), (2, 2, (3, .ofNat 1, .ofNat 0), (0, .ofNat 0, .ofNat 0), (0, .ofNat 0, .ofNat 0)), (2, 5, (4, .ofNat 1, .ofNat 0), (5, .ofNat 1, .ofNat 0), (0, .ofNat 0, .ofNat 0)), (0, 50, (0, .ofNat 0, .ofNat 7), (5, .ofNat 1, .ofNat 0), (0, .ofNat 0, .ofNat 0))], [(1, [(.negSucc 11, .ofNat 12)]), (2, [(.ofNat 0, .ofNat 40)]), (3, [(.negSucc 39, .negSucc 0)]), (4, [(.ofNat 0, .ofNat 12)]), (5, [(.ofNat 0, .ofNat 12)]), (6, [(.ofNat 12, .ofNat 999)]), (7, [(.ofNat 0, .ofNat 0)])], [((3, .ofNat 25, .ofNat 1012), (4, .ofNat 1, .ofNat 0), (6, .ofNat 1, .ofNat 0))], []),
  (59, [(0, .inr (.inl [50])), (1, .inl (false, (1, .ofNat 1, .ofNat 0))), (2, .inl (false, (2, .ofNat 1, .ofNat 0))), (3, .inl (false, (3, .ofNat 1, .ofNat 0))), (4, .inl (false, (4, .ofNat 1, .ofNat 0))), (5, .inl (true, (7, .ofNat 1, .ofNat 0)))], [.inl (false, (8, .ofNat 1, .ofNat 0)), .inl (false, (3, .ofNat 1, .ofNat 0)), .inl (true, (7, .ofNat 1, .ofNat 0)), .inr (.inl [50])], [(2, 1, (7, .ofNat 1, .ofNat 0), (0, .ofNat 0, .ofNat 0), (0, .ofNat 0, .ofNat 0)), (0, 51, (6, .ofNat 1, .ofNat 0), (7, .ofNat 1, .ofNat 0), (0, .ofNat 0, .ofNat 0)), (2, 5, (4, .ofNat 1, .ofNat 0), (0, .ofNat 0, .ofNat 12), (0, .ofNat 0, .ofNat 0)), (2, 3, (4, .ofNat 1, .ofNat 0), (0, .ofNat 0, .ofNat 0), (0, .ofNat 0, .ofNat 0)), (2, 5, (3, .negSucc 0, .ofNat 0), (0, .ofNat 0, .ofNat 40), (0, .ofNat 0, .ofNat 0)), (2, 2, (3, .ofNat 1, .ofNat 0), (0, .ofNat 0, .ofNat 0), (0, .ofNat 0, .ofNat 0)), (2, 5, (4, .ofNat 1, .ofNat 0), (5, .ofNat 1, .ofNat 0), (0, .ofNat 0, .ofNat 0)), (0, 50, (0, .ofNat 0, .ofNat 7), (5, .ofNat 1, .ofNat 0), (0, .ofNat 0, .ofNat 0))], [(1, [(.negSucc 11, .ofNat 12)]), (2, [(.ofNat 0, .ofNat 40)]), (3, [(.negSucc 39, .negSucc 0)]), (4, [(.ofNat 0, .ofNat 12)]), (5, [(.ofNat 0, .ofNat 12)]), (6, [(.ofNat 12, .ofNat 999)]), (7, [(.negSucc 9223372036854775807, .negSucc 0), (.ofNat 1, .ofNat 9223372036854775807)]), (8, [(.negSucc 11, .ofNat 24)])], [((4, .ofNat 1, .ofNat 0), (1, .ofNat 1, .ofNat 0), (8, .ofNat 1, .ofNat 0)), ((3, .ofNat 25, .ofNat 1012), (4, .ofNat 1, .ofNat 0), (6, .ofNat 1, .ofNat 0))], []),
  (26, [(0, .inr (.inl [50])), (1, .inl (false, (1, .ofNat 1, .ofNat 0))), (2, .inl (false, (2, .ofNat 1, .ofNat 0))), (3, .inl (false, (3, .ofNat 1, .ofNat 0))), (4, .inl (false, (4, .ofNat 1, .ofNat 2))), (5, .inl (true, (0, .ofNat 0, .ofNat 0)))], [], [(2, 0, (7, .ofNat 1, .ofNat 0), (0, .ofNat 0, .ofNat 0), (0, .ofNat 0, .ofNat 0)), (0, 51, (6, .ofNat 1, .ofNat 0), (7, .ofNat 1, .ofNat 0), (0, .ofNat 0, .ofNat 0)), (2, 5, (4, .negSucc 0, .ofNat 0), (0, .ofNat 0, .ofNat 12), (0, .ofNat 0, .ofNat 0)), (2, 2, (4, .ofNat 1, .ofNat 0), (0, .ofNat 0, .ofNat 0), (0, .ofNat 0, .ofNat 0)), (2, 5, (3, .negSucc 0, .ofNat 0), (0, .ofNat 0, .ofNat 40), (0, .ofNat 0, .ofNat 0)), (2, 2, (3, .ofNat 1, .ofNat 0), (0, .ofNat 0, .ofNat 0), (0, .ofNat 0, .ofNat 0)), (2, 5, (4, .ofNat 1, .ofNat 0), (5, .ofNat 1, .ofNat 0), (0, .ofNat 0, .ofNat 0)), (0, 50, (0, .ofNat 0, .ofNat 7), (5, .ofNat 1, .ofNat 0), (0, .ofNat 0, .ofNat 0))], [(1, [(.negSucc 11, .ofNat 12)]), (2, [(.ofNat 0, .ofNat 40)]), (3, [(.negSucc 39, .negSucc 0)]), (4, [(.negSucc 11, .negSucc 0)]), (5, [(.ofNat 0, .ofNat 12)]), (6, [(.ofNat 0, .ofNat 986)]), (7, [(.ofNat 0, .ofNat 0)])], [((3, .ofNat 25, .ofNat 1012), (4, .ofNat 1, .ofNat 0), (6, .ofNat 1, .ofNat 0))], []),
  (59, [(0, .inr (.inl [50])), (1, .inl (false, (1, .ofNat 1, .ofNat 0))), (2, .inl (false, (2, .ofNat 1, .ofNat 0))), (3, .inl (false, (3, .ofNat 1, .ofNat 0))), (4, .inl (false, (4, .ofNat 1, .ofNat 0))), (5, .inl (true, (7, .ofNat 1, .ofNat 0)))], [.inl (false, (8, .ofNat 1, .ofNat 0)), .inl (false, (3, .ofNat 1, .ofNat 0)), .inl (true, (7, .ofNat 1, .ofNat 0)), .inr (.inl [50])], [(2, 1, (7, .ofNat 1, .ofNat 0), (0, .ofNat 0, .ofNat 0), (0, .ofNat 0, .ofNat 0)), (0, 51, (6, .ofNat 1, .ofNat 0), (7, .ofNat 1, .ofNat 0), (0, .ofNat 0, .ofNat 0)), (2, 5, (4, .negSucc 0, .ofNat 0), (0, .ofNat 0, .ofNat 12), (0, .ofNat 0, .ofNat 0)), (2, 2, (4, .ofNat 1, .ofNat 0), (0, .ofNat 0, .ofNat 0), (0, .ofNat 0, .ofNat 0)), (2, 5, (3, .negSucc 0, .ofNat 0), (0, .ofNat 0, .ofNat 40), (0, .ofNat 0, .ofNat 0)), (2, 2, (3, .ofNat 1, .ofNat 0), (0, .ofNat 0, .ofNat 0), (0, .ofNat 0, .ofNat 0)), (2, 5, (4, .ofNat 1, .ofNat 0), (5, .ofNat 1, .ofNat 0), (0, .ofNat 0, .ofNat 0)), (0, 50, (0, .ofNat 0, .ofNat 7), (5, .ofNat 1, .ofNat 0), (0, .ofNat 0, .ofNat 0))], [(1, [(.negSucc 11, .ofNat 12)]), (2, [(.ofNat 0, .ofNat 40)]), (3, [(.negSucc 39, .negSucc 0)]), (4, [(.negSucc 11, .negSucc 0)]), (5, [(.ofNat 0, .ofNat 12)]), (6, [(.ofNat 0, .ofNat 986)]), (7, [(.negSucc 9223372036854775807, .negSucc 0), (.ofNat 1, .ofNat 9223372036854775807)]), (8, [(.negSucc 23, .ofNat 11)])], [((4, .ofNat 1, .ofNat 0), (1, .ofNat 1, .ofNat 0), (8, .ofNat 1, .ofNat 0)), ((3, .ofNat 25, .ofNat 1012), (4, .ofNat 1, .ofNat 0), (6, .ofNat 1, .ofNat 0))], [])]
set_option maxRecDepth 1000000 in
theorem sg_sp_c_g : sg_go [] [58, 25, 13] 3000 17 25 2 6 [(0, [(.ofNat 0, .ofNat 0)]), (1, [(.negSucc 11, .ofNat 12)]), (2, [(.ofNat 0, .ofNat 40)]), (3, [(.negSucc 39, .ofNat 40)]), (4, [(.negSucc 11, .ofNat 14)]), (5, [(.ofNat 0, .ofNat 12)])] [(50, (0, .ofNat 0, .ofNat 7), (5, .ofNat 1, .ofNat 0))] [] [] [(0, .inr (.inl [50])), (1, .inl (false, (1, .ofNat 1, .ofNat 0))), (2, .inl (false, (2, .ofNat 1, .ofNat 0))), (3, .inl (false, (3, .ofNat 1, .ofNat 0))), (4, .inl (false, (4, .ofNat 1, .ofNat 0)))] [] [] sg_sp_c_Z = true := by decide +kernel
set_option maxRecDepth 100000 in
theorem sg_sp_c {Q : Option Value × am_S → Prop} {d : Nat} {S : am_S} {L : am_L} {x1 x2 x3 x4 x5 : Int} (hd : 2 ≤ d) (hP : ax_P0 none S) (l0 : lc L 0 50) (l1 : li L 1 x1) (l2 : li L 2 x2) (l3 : li L 3 x3) (l4 : li L 4 x4) (b1 : ((-12) ≤ x1 ∧ x1 ≤ 12)) (b2 : (0 ≤ x2 ∧ x2 ≤ 40)) (b3 : ((-40) ≤ x3 ∧ x3 ≤ 40)) (b4 : ((-12) ≤ x4 ∧ x4 ≤ 14)) (b5 : (0 ≤ x5 ∧ x5 ≤ 12)) (m50_7 : rd S 50 7 = x5)
    (k0 : ∀ (L' : am_L), rd S 50 7 = x5 → x5 < x4 → ((-12) ≤ x1 ∧ x1 ≤ 12) → (0 ≤ x2 ∧ x2 ≤ 40) → ((-40) ≤ x3 ∧ x3 ≤ 40) → (1 ≤ x4 ∧ x4 ≤ 14) → (0 ≤ x5 ∧ x5 ≤ 12) → lc L' 0 50 → li L' 1 x1 → li L' 2 x2 → li L' 3 (x3 + 1) → li L' 4 x4 → am_V none d 17 13 L' ([]) S Q)
    (k1 : ∀ (x6 x7 : Int) (L' : am_L), rd S 50 7 = x5 → x4 ≤ x5 → 0 ≤ x3 → x3 ≤ 40 → 0 ≤ x4 → x4 ≤ 12 → rd S 51 x6 = x7 → x7 = 0 → ((-12) ≤ x1 ∧ x1 ≤ 12) → (0 ≤ x2 ∧ x2 ≤ 40) → (0 ≤ x3 ∧ x3 ≤ 40) → (0 ≤ x4 ∧ x4 ≤ 12) → (0 ≤ x5 ∧ x5 ≤ 12) → (1012 ≤ x6 ∧ x6 ≤ 2024) → (0 ≤ x7 ∧ x7 ≤ 0) → (25 * x3 + 1012) + x4 = x6 → lc L' 0 50 → li L' 1 x1 → li L' 2 x2 → li L' 3 x3 → li L' 4 (x4 + 2) → lj L' 5 0 → am_V none d 17 25 L' ([]) S Q)
    (k2 : ∀ (x6 x7 x8 : Int) (L' : am_L) (i1 : Int32) (i2 : Int32) (i3 : Int64), rd S 50 7 = x5 → x4 ≤ x5 → 0 ≤ x3 → x3 ≤ 40 → 0 ≤ x4 → x4 ≤ 12 → rd S 51 x6 = x7 → x7 ≠ 0 → ((-12) ≤ x1 ∧ x1 ≤ 12) → (0 ≤ x2 ∧ x2 ≤ 40) → (0 ≤ x3 ∧ x3 ≤ 40) → (0 ≤ x4 ∧ x4 ≤ 12) → (0 ≤ x5 ∧ x5 ≤ 12) → (1012 ≤ x6 ∧ x6 ≤ 2024) → ((-9223372036854775808) ≤ x7 ∧ x7 ≤ (-1)) ∨ (1 ≤ x7 ∧ x7 ≤ 9223372036854775807) → ((-12) ≤ x8 ∧ x8 ≤ 24) → x4 + x1 = x8 → (25 * x3 + 1012) + x4 = x6 → lc L' 0 50 → li L' 1 x1 → li L' 2 x2 → li L' 3 x3 → li L' 4 x4 → lj L' 5 x7 → i1.toInt = x8 → i2.toInt = x3 → i3.toInt = x7 → am_V none d 17 58 L' ((.int i1) :: (.int i2) :: (.long i3) :: (.ref 50) :: []) S Q)
    (k3 : ∀ (x6 x7 : Int) (L' : am_L), rd S 50 7 = x5 → x4 ≤ x5 → 0 ≤ x3 → x3 ≤ 40 → x4 < 0 → (-1) * x4 + 0 ≤ 12 → rd S 51 x6 = x7 → x7 = 0 → ((-12) ≤ x1 ∧ x1 ≤ 12) → (0 ≤ x2 ∧ x2 ≤ 40) → (0 ≤ x3 ∧ x3 ≤ 40) → ((-12) ≤ x4 ∧ x4 ≤ (-1)) → (0 ≤ x5 ∧ x5 ≤ 12) → (1000 ≤ x6 ∧ x6 ≤ 2011) → (0 ≤ x7 ∧ x7 ≤ 0) → (25 * x3 + 1012) + x4 = x6 → lc L' 0 50 → li L' 1 x1 → li L' 2 x2 → li L' 3 x3 → li L' 4 (x4 + 2) → lj L' 5 0 → am_V none d 17 25 L' ([]) S Q)
    (k4 : ∀ (x6 x7 x8 : Int) (L' : am_L) (i1 : Int32) (i2 : Int32) (i3 : Int64), rd S 50 7 = x5 → x4 ≤ x5 → 0 ≤ x3 → x3 ≤ 40 → x4 < 0 → (-1) * x4 + 0 ≤ 12 → rd S 51 x6 = x7 → x7 ≠ 0 → ((-12) ≤ x1 ∧ x1 ≤ 12) → (0 ≤ x2 ∧ x2 ≤ 40) → (0 ≤ x3 ∧ x3 ≤ 40) → ((-12) ≤ x4 ∧ x4 ≤ (-1)) → (0 ≤ x5 ∧ x5 ≤ 12) → (1000 ≤ x6 ∧ x6 ≤ 2011) → ((-9223372036854775808) ≤ x7 ∧ x7 ≤ (-1)) ∨ (1 ≤ x7 ∧ x7 ≤ 9223372036854775807) → ((-24) ≤ x8 ∧ x8 ≤ 11) → x4 + x1 = x8 → (25 * x3 + 1012) + x4 = x6 → lc L' 0 50 → li L' 1 x1 → li L' 2 x2 → li L' 3 x3 → li L' 4 x4 → lj L' 5 x7 → i1.toInt = x8 → i2.toInt = x3 → i3.toInt = x7 → am_V none d 17 58 L' ((.int i1) :: (.int i2) :: (.long i3) :: (.ref 50) :: []) S Q)
    (k5 : ∀ (x6 x7 : Int) (L' : am_L), rd S 50 7 = x5 → x4 ≤ x5 → x3 < 0 → (-1) * x3 + 0 ≤ 40 → 0 ≤ x4 → x4 ≤ 12 → rd S 51 x6 = x7 → x7 = 0 → ((-12) ≤ x1 ∧ x1 ≤ 12) → (0 ≤ x2 ∧ x2 ≤ 40) → ((-40) ≤ x3 ∧ x3 ≤ (-1)) → (0 ≤ x4 ∧ x4 ≤ 12) → (0 ≤ x5 ∧ x5 ≤ 12) → (12 ≤ x6 ∧ x6 ≤ 999) → (0 ≤ x7 ∧ x7 ≤ 0) → (25 * x3 + 1012) + x4 = x6 → lc L' 0 50 → li L' 1 x1 → li L' 2 x2 → li L' 3 x3 → li L' 4 (x4 + 2) → lj L' 5 0 → am_V none d 17 25 L' ([]) S Q)
    (k6 : ∀ (x6 x7 x8 : Int) (L' : am_L) (i1 : Int32) (i2 : Int32) (i3 : Int64), rd S 50 7 = x5 → x4 ≤ x5 → x3 < 0 → (-1) * x3 + 0 ≤ 40 → 0 ≤ x4 → x4 ≤ 12 → rd S 51 x6 = x7 → x7 ≠ 0 → ((-12) ≤ x1 ∧ x1 ≤ 12) → (0 ≤ x2 ∧ x2 ≤ 40) → ((-40) ≤ x3 ∧ x3 ≤ (-1)) → (0 ≤ x4 ∧ x4 ≤ 12) → (0 ≤ x5 ∧ x5 ≤ 12) → (12 ≤ x6 ∧ x6 ≤ 999) → ((-9223372036854775808) ≤ x7 ∧ x7 ≤ (-1)) ∨ (1 ≤ x7 ∧ x7 ≤ 9223372036854775807) → ((-12) ≤ x8 ∧ x8 ≤ 24) → x4 + x1 = x8 → (25 * x3 + 1012) + x4 = x6 → lc L' 0 50 → li L' 1 x1 → li L' 2 x2 → li L' 3 x3 → li L' 4 x4 → lj L' 5 x7 → i1.toInt = x8 → i2.toInt = x3 → i3.toInt = x7 → am_V none d 17 58 L' ((.int i1) :: (.int i2) :: (.long i3) :: (.ref 50) :: []) S Q)
    (k7 : ∀ (x6 x7 : Int) (L' : am_L), rd S 50 7 = x5 → x4 ≤ x5 → x3 < 0 → (-1) * x3 + 0 ≤ 40 → x4 < 0 → (-1) * x4 + 0 ≤ 12 → rd S 51 x6 = x7 → x7 = 0 → ((-12) ≤ x1 ∧ x1 ≤ 12) → (0 ≤ x2 ∧ x2 ≤ 40) → ((-40) ≤ x3 ∧ x3 ≤ (-1)) → ((-12) ≤ x4 ∧ x4 ≤ (-1)) → (0 ≤ x5 ∧ x5 ≤ 12) → (0 ≤ x6 ∧ x6 ≤ 986) → (0 ≤ x7 ∧ x7 ≤ 0) → (25 * x3 + 1012) + x4 = x6 → lc L' 0 50 → li L' 1 x1 → li L' 2 x2 → li L' 3 x3 → li L' 4 (x4 + 2) → lj L' 5 0 → am_V none d 17 25 L' ([]) S Q)
    (k8 : ∀ (x6 x7 x8 : Int) (L' : am_L) (i1 : Int32) (i2 : Int32) (i3 : Int64), rd S 50 7 = x5 → x4 ≤ x5 → x3 < 0 → (-1) * x3 + 0 ≤ 40 → x4 < 0 → (-1) * x4 + 0 ≤ 12 → rd S 51 x6 = x7 → x7 ≠ 0 → ((-12) ≤ x1 ∧ x1 ≤ 12) → (0 ≤ x2 ∧ x2 ≤ 40) → ((-40) ≤ x3 ∧ x3 ≤ (-1)) → ((-12) ≤ x4 ∧ x4 ≤ (-1)) → (0 ≤ x5 ∧ x5 ≤ 12) → (0 ≤ x6 ∧ x6 ≤ 986) → ((-9223372036854775808) ≤ x7 ∧ x7 ≤ (-1)) ∨ (1 ≤ x7 ∧ x7 ≤ 9223372036854775807) → ((-24) ≤ x8 ∧ x8 ≤ 11) → x4 + x1 = x8 → (25 * x3 + 1012) + x4 = x6 → lc L' 0 50 → li L' 1 x1 → li L' 2 x2 → li L' 3 x3 → li L' 4 x4 → lj L' 5 x7 → i1.toInt = x8 → i2.toInt = x3 → i3.toInt = x7 → am_V none d 17 58 L' ((.int i1) :: (.int i2) :: (.long i3) :: (.ref 50) :: []) S Q) : am_V none d 17 25 L ([]) S Q := by
  refine sg_use sg_sp_c_g hd hP (sg_xs [0, x1, x2, x3, x4, x5]) ⟨⟨Int.le_refl 0, Int.le_refl 0⟩, b1, b2, b3, b4, b5, trivial⟩ ⟨sg_fs hP rfl m50_7, trivial⟩ trivial trivial ⟨l0, l1, l2, l3, l4, trivial⟩ trivial ?_
  intro z hz x' L' st' S' hx hP' hW hL' hs' hJ hE' hT' hD'
  have q1 : x' 1 = x1 := hx 1 (by decide)
  subst q1
  have q2 : x' 2 = x2 := hx 2 (by decide)
  subst q2
  have q3 : x' 3 = x3 := hx 3 (by decide)
  subst q3
  have q4 : x' 4 = x4 := hx 4 (by decide)
  subst q4
  have q5 : x' 5 = x5 := hx 5 (by decide)
  subst q5
  have eS : S' = S := hW.1 rfl
  subst eS
  simp only [sg_sp_c_Z, List.mem_cons, List.not_mem_nil, or_false] at hz
  rcases hz with rfl | rfl | rfl | rfl | rfl | rfl | rfl | rfl | rfl
  · obtain ⟨f0, f1, hσ⟩ := hJ
    obtain ⟨e0, e1, e2, e3, e4, -⟩ := hE'
    obtain ⟨p0, p1, p2, p3, p4, -⟩ := hL'
    obtain rfl := sg_tn hs'
    exact k0 L' f0 f1 e0 e1 e2 e3 e4 p0 p1 p2 p3 p4
  · obtain ⟨f0, f1, f2, f3, f4, f5, f6, f7, hσ⟩ := hJ
    obtain ⟨e0, e1, e2, e3, e4, e5, e6, -⟩ := hE'
    obtain ⟨t0, -⟩ := hT'
    obtain ⟨p0, p1, p2, p3, p4, p5, -⟩ := hL'
    obtain rfl := sg_tn hs'
    exact k1 (x' 6) (x' 7) L' f0 f1 f2 f3 f4 f5 f6 f7 e0 e1 e2 e3 e4 e5 e6 t0 p0 p1 p2 p3 p4 p5
  · obtain ⟨f0, f1, f2, f3, f4, f5, f6, f7, hσ⟩ := hJ
    obtain ⟨e0, e1, e2, e3, e4, e5, e6, e7, -⟩ := hE'
    obtain ⟨t0, t1, -⟩ := hT'
    obtain ⟨p0, p1, p2, p3, p4, p5, -⟩ := hL'
    obtain ⟨v1, r1, rfl, ⟨i1, rfl, g1⟩, hs1⟩ := sg_tc hs'
    obtain ⟨v2, r2, rfl, ⟨i2, rfl, g2⟩, hs2⟩ := sg_tc hs1
    obtain ⟨v3, r3, rfl, ⟨i3, rfl, g3⟩, hs3⟩ := sg_tc hs2
    obtain ⟨v4, r4, rfl, rfl, hs4⟩ := sg_tc hs3
    obtain rfl := sg_tn hs4
    exact k2 (x' 6) (x' 7) (x' 8) L' i1 i2 i3 f0 f1 f2 f3 f4 f5 f6 f7 e0 e1 e2 e3 e4 e5 e6 e7 t0 t1 p0 p1 p2 p3 p4 p5 g1 g2 g3
  · obtain ⟨f0, f1, f2, f3, f4, f5, f6, f7, hσ⟩ := hJ
    obtain ⟨e0, e1, e2, e3, e4, e5, e6, -⟩ := hE'
    obtain ⟨t0, -⟩ := hT'
    obtain ⟨p0, p1, p2, p3, p4, p5, -⟩ := hL'
    obtain rfl := sg_tn hs'
    exact k3 (x' 6) (x' 7) L' f0 f1 f2 f3 f4 f5 f6 f7 e0 e1 e2 e3 e4 e5 e6 t0 p0 p1 p2 p3 p4 p5
  · obtain ⟨f0, f1, f2, f3, f4, f5, f6, f7, hσ⟩ := hJ
    obtain ⟨e0, e1, e2, e3, e4, e5, e6, e7, -⟩ := hE'
    obtain ⟨t0, t1, -⟩ := hT'
    obtain ⟨p0, p1, p2, p3, p4, p5, -⟩ := hL'
    obtain ⟨v1, r1, rfl, ⟨i1, rfl, g1⟩, hs1⟩ := sg_tc hs'
    obtain ⟨v2, r2, rfl, ⟨i2, rfl, g2⟩, hs2⟩ := sg_tc hs1
    obtain ⟨v3, r3, rfl, ⟨i3, rfl, g3⟩, hs3⟩ := sg_tc hs2
    obtain ⟨v4, r4, rfl, rfl, hs4⟩ := sg_tc hs3
    obtain rfl := sg_tn hs4
    exact k4 (x' 6) (x' 7) (x' 8) L' i1 i2 i3 f0 f1 f2 f3 f4 f5 f6 f7 e0 e1 e2 e3 e4 e5 e6 e7 t0 t1 p0 p1 p2 p3 p4 p5 g1 g2 g3
  · obtain ⟨f0, f1, f2, f3, f4, f5, f6, f7, hσ⟩ := hJ
    obtain ⟨e0, e1, e2, e3, e4, e5, e6, -⟩ := hE'
    obtain ⟨t0, -⟩ := hT'
    obtain ⟨p0, p1, p2, p3, p4, p5, -⟩ := hL'
    obtain rfl := sg_tn hs'
    exact k5 (x' 6) (x' 7) L' f0 f1 f2 f3 f4 f5 f6 f7 e0 e1 e2 e3 e4 e5 e6 t0 p0 p1 p2 p3 p4 p5
  · obtain ⟨f0, f1, f2, f3, f4, f5, f6, f7, hσ⟩ := hJ
    obtain ⟨e0, e1, e2, e3, e4, e5, e6, e7, -⟩ := hE'
    obtain ⟨t0, t1, -⟩ := hT'
    obtain ⟨p0, p1, p2, p3, p4, p5, -⟩ := hL'
    obtain ⟨v1, r1, rfl, ⟨i1, rfl, g1⟩, hs1⟩ := sg_tc hs'
    obtain ⟨v2, r2, rfl, ⟨i2, rfl, g2⟩, hs2⟩ := sg_tc hs1
    obtain ⟨v3, r3, rfl, ⟨i3, rfl, g3⟩, hs3⟩ := sg_tc hs2
    obtain ⟨v4, r4, rfl, rfl, hs4⟩ := sg_tc hs3
    obtain rfl := sg_tn hs4
    exact k6 (x' 6) (x' 7) (x' 8) L' i1 i2 i3 f0 f1 f2 f3 f4 f5 f6 f7 e0 e1 e2 e3 e4 e5 e6 e7 t0 t1 p0 p1 p2 p3 p4 p5 g1 g2 g3
  · obtain ⟨f0, f1, f2, f3, f4, f5, f6, f7, hσ⟩ := hJ
    obtain ⟨e0, e1, e2, e3, e4, e5, e6, -⟩ := hE'
    obtain ⟨t0, -⟩ := hT'
    obtain ⟨p0, p1, p2, p3, p4, p5, -⟩ := hL'
    obtain rfl := sg_tn hs'
    exact k7 (x' 6) (x' 7) L' f0 f1 f2 f3 f4 f5 f6 f7 e0 e1 e2 e3 e4 e5 e6 t0 p0 p1 p2 p3 p4 p5
  · obtain ⟨f0, f1, f2, f3, f4, f5, f6, f7, hσ⟩ := hJ
    obtain ⟨e0, e1, e2, e3, e4, e5, e6, e7, -⟩ := hE'
    obtain ⟨t0, t1, -⟩ := hT'
    obtain ⟨p0, p1, p2, p3, p4, p5, -⟩ := hL'
    obtain ⟨v1, r1, rfl, ⟨i1, rfl, g1⟩, hs1⟩ := sg_tc hs'
    obtain ⟨v2, r2, rfl, ⟨i2, rfl, g2⟩, hs2⟩ := sg_tc hs1
    obtain ⟨v3, r3, rfl, ⟨i3, rfl, g3⟩, hs3⟩ := sg_tc hs2
    obtain ⟨v4, r4, rfl, rfl, hs4⟩ := sg_tc hs3
    obtain rfl := sg_tn hs4
    exact k8 (x' 6) (x' 7) (x' 8) L' i1 i2 i3 f0 f1 f2 f3 f4 f5 f6 f7 e0 e1 e2 e3 e4 e5 e6 e7 t0 t1 p0 p1 p2 p3 p4 p5 g1 g2 g3
def sg_sp_d_Z : List sg_z := [(26, [(0, .inr (.inl [50])), (1, .inl (false, (1, .ofNat 1, .ofNat 0))), (2, .inl (false, (2, .ofNat 1, .ofNat 0))), (3, .inl (false, (3, .ofNat 1, .ofNat 0))), (4, .inl (false, (4, .ofNat 1, .ofNat 2)))], [], [], [(1, [(.negSucc 11, .ofNat 12)]), (2, [(.ofNat 0, .ofNat 40)]), (3, [(.negSucc 39, .ofNat 40)]), (4, [(.negSucc 11, .ofNat 12)])], [], [])]
set_option maxRecDepth 1000000 in
theorem sg_sp_d_g : sg_go [] [25] 3000 17 61 0 5 [(0, [(.ofNat 0, .ofNat 0)]), (1, [(.negSucc 11, .ofNat 12)]), (2, [(.ofNat 0, .ofNat 40)]), (3, [(.negSucc 39, .ofNat 40)]), (4, [(.negSucc 11, .ofNat 12)])] [] [] [] [(0, .inr (.inl [50])), (1, .inl (false, (1, .ofNat 1, .ofNat 0))), (2, .inl (false, (2, .ofNat 1, .ofNat 0))), (3, .inl (false, (3, .ofNat 1, .ofNat 0))), (4, .inl (false, (4, .ofNat 1, .ofNat 0)))] [] [] sg_sp_d_Z = true := by decide +kernel
set_option maxRecDepth 100000 in
theorem sg_sp_d {Q : Option Value × am_S → Prop} {d : Nat} {S : am_S} {L : am_L} {x1 x2 x3 x4 : Int} (hd : 0 ≤ d) (hP : ax_P0 none S) (l0 : lc L 0 50) (l1 : li L 1 x1) (l2 : li L 2 x2) (l3 : li L 3 x3) (l4 : li L 4 x4) (b1 : ((-12) ≤ x1 ∧ x1 ≤ 12)) (b2 : (0 ≤ x2 ∧ x2 ≤ 40)) (b3 : ((-40) ≤ x3 ∧ x3 ≤ 40)) (b4 : ((-12) ≤ x4 ∧ x4 ≤ 12))
    (k0 : ∀ (L' : am_L), ((-12) ≤ x1 ∧ x1 ≤ 12) → (0 ≤ x2 ∧ x2 ≤ 40) → ((-40) ≤ x3 ∧ x3 ≤ 40) → ((-12) ≤ x4 ∧ x4 ≤ 12) → lc L' 0 50 → li L' 1 x1 → li L' 2 x2 → li L' 3 x3 → li L' 4 (x4 + 2) → am_V none d 17 25 L' ([]) S Q) : am_V none d 17 61 L ([]) S Q := by
  refine sg_use sg_sp_d_g hd hP (sg_xs [0, x1, x2, x3, x4]) ⟨⟨Int.le_refl 0, Int.le_refl 0⟩, b1, b2, b3, b4, trivial⟩ trivial trivial trivial ⟨l0, l1, l2, l3, l4, trivial⟩ trivial ?_
  intro z hz x' L' st' S' hx hP' hW hL' hs' hJ hE' hT' hD'
  have q1 : x' 1 = x1 := hx 1 (by decide)
  subst q1
  have q2 : x' 2 = x2 := hx 2 (by decide)
  subst q2
  have q3 : x' 3 = x3 := hx 3 (by decide)
  subst q3
  have q4 : x' 4 = x4 := hx 4 (by decide)
  subst q4
  have eS : S' = S := hW.1 rfl
  subst eS
  simp only [sg_sp_d_Z, List.mem_cons, List.not_mem_nil, or_false] at hz
  rcases hz with rfl
  · have hσ := hJ
    obtain ⟨e0, e1, e2, e3, -⟩ := hE'
    obtain ⟨p0, p1, p2, p3, p4, -⟩ := hL'
    obtain rfl := sg_tn hs'
    exact k0 L' e0 e1 e2 e3 p0 p1 p2 p3 p4
def sg_ad_a_Z : List sg_z := [(4, [(0, .inr (.inl [50])), (1, .inl (true, (1, .ofNat 1, .ofNat 0))), (3, .inl (false, (2, .ofNat 1, .ofNat 0))), (4, .inl (false, (3, .ofNat 1, .ofNat 0))), (5, .inl (false, (0, .ofNat 0, .ofNat 0)))], [], [], [(2, [(.negSucc 39, .ofNat 40)]), (3, [(.negSucc 23, .ofNat 24)])], [], [])]
set_option maxRecDepth 1000000 in
theorem sg_ad_a_g : sg_go [] [3] 3000 18 0 0 4 [(0, [(.ofNat 0, .ofNat 0)]), (1, [(.negSucc 9223372036854775807, .ofNat 9223372036854775807)]), (2, [(.negSucc 39, .ofNat 40)]), (3, [(.negSucc 23, .ofNat 24)])] [] [] [] [(0, .inr (.inl [50])), (1, .inl (true, (1, .ofNat 1, .ofNat 0))), (3, .inl (false, (2, .ofNat 1, .ofNat 0))), (4, .inl (false, (3, .ofNat 1, .ofNat 0)))] [] [] sg_ad_a_Z = true := by decide +kernel
set_option maxRecDepth 100000 in
theorem sg_ad_a {Q : Option Value × am_S → Prop} {d : Nat} {S : am_S} {L : am_L} {x1 x2 x3 : Int} (hd : 0 ≤ d) (hP : ax_P0 none S) (l0 : lc L 0 50) (l1 : lj L 1 x1) (l3 : li L 3 x2) (l4 : li L 4 x3) (b1 : ((-9223372036854775808) ≤ x1 ∧ x1 ≤ 9223372036854775807)) (b2 : ((-40) ≤ x2 ∧ x2 ≤ 40)) (b3 : ((-24) ≤ x3 ∧ x3 ≤ 24))
    (k0 : ∀ (L' : am_L), ((-40) ≤ x2 ∧ x2 ≤ 40) → ((-24) ≤ x3 ∧ x3 ≤ 24) → lc L' 0 50 → lj L' 1 x1 → li L' 3 x2 → li L' 4 x3 → li L' 5 0 → am_V none d 18 3 L' ([]) S Q) : am_V none d 18 0 L ([]) S Q := by
  refine sg_use sg_ad_a_g hd hP (sg_xs [0, x1, x2, x3]) ⟨⟨Int.le_refl 0, Int.le_refl 0⟩, b1, b2, b3, trivial⟩ trivial trivial trivial ⟨l0, l1, l3, l4, trivial⟩ trivial ?_
  intro z hz x' L' st' S' hx hP' hW hL' hs' hJ hE' hT' hD'
  have q1 : x' 1 = x1 := hx 1 (by decide)
  subst q1
  have q2 : x' 2 = x2 := hx 2 (by decide)
  subst q2
  have q3 : x' 3 = x3 := hx 3 (by decide)
  subst q3
  have eS : S' = S := hW.1 rfl
  subst eS
  simp only [sg_ad_a_Z, List.mem_cons, List.not_mem_nil, or_false] at hz
  rcases hz with rfl
  · have hσ := hJ
    obtain ⟨e0, e1, -⟩ := hE'
    obtain ⟨p0, p1, p2, p3, p4, -⟩ := hL'
    obtain rfl := sg_tn hs'
    exact k0 L' e0 e1 p0 p1 p2 p3 p4
def sg_ad_b_Z : List sg_z := [(0, [], [], [(2, 4, (4, .ofNat 1, .ofNat 0), (0, .ofNat 0, .ofNat 24), (0, .ofNat 0, .ofNat 0))], [(2, [(.negSucc 39, .ofNat 40)]), (3, [(.negSucc 23, .ofNat 24)]), (4, [(.ofNat 25, .ofNat 25)])], [], []),
  (4, [(0, .inr (.inl [50])), (1, .inl (true, (1, .ofNat 1, .ofNat 0))), (3, .inl (false, (2, .ofNat 1, .ofNat 0))), (4, .inl (false, (3, .ofNat 1, .ofNat 0))), (5, .inl (false, (4, .ofNat 1, .ofNat 1))), (6, .inl (false, (5, .ofNat 1, .negSucc 11)))], [], [(2, 4, (5, .ofNat 1, .negSucc 11), (0, .ofNat 0, .ofNat 40), (0, .ofNat 0, .ofNat 0)), (2, 3, (5, .ofNat 1, .negSucc 11), (0, .ofNat 0, .ofNat 0), (0, .ofNat 0, .ofNat 0)), (2, 5, (4, .ofNat 1, .ofNat 0), (0, .ofNat 0, .ofNat 24), (0, .ofNat 0, .ofNat 0))], [(2, [(.negSucc 39, .ofNat 40)]), (3, [(.negSucc 23, .ofNat 24)]), (4, [(.ofNat 0, .ofNat 24)]), (5, [(.ofNat 53, .ofNat 64)])], [((2, .ofNat 1, .ofNat 0), (4, .ofNat 1, .ofNat 0), (5, .ofNat 1, .ofNat 0))], []),
  (4, [(0, .inr (.inl [50])), (1, .inl (true, (1, .ofNat 1, .ofNat 0))), (3, .inl (false, (2, .ofNat 1, .ofNat 0))), (4, .inl (false, (3, .ofNat 1, .ofNat 0))), (5, .inl (false, (4, .ofNat 1, .ofNat 1))), (6, .inl (false, (5, .ofNat 1, .negSucc 11)))], [], [(2, 4, (3, .ofNat 1, .ofNat 0), (0, .ofNat 0, .ofNat 12), (0, .ofNat 0, .ofNat 0)), (2, 3, (3, .ofNat 1, .ofNat 0), (0, .ofNat 0, .ofNat 0), (0, .ofNat 0, .ofNat 0)), (2, 5, (5, .ofNat 1, .negSucc 11), (0, .ofNat 0, .ofNat 40), (0, .ofNat 0, .ofNat 0)), (2, 3, (5, .ofNat 1, .negSucc 11), (0, .ofNat 0, .ofNat 0), (0, .ofNat 0, .ofNat 0)), (2, 5, (4, .ofNat 1, .ofNat 0), (0, .ofNat 0, .ofNat 24), (0, .ofNat 0, .ofNat 0))], [(2, [(.negSucc 39, .ofNat 40)]), (3, [(.ofNat 13, .ofNat 24)]), (4, [(.ofNat 0, .ofNat 24)]), (5, [(.ofNat 12, .ofNat 52)])], [((2, .ofNat 1, .ofNat 0), (4, .ofNat 1, .ofNat 0), (5, .ofNat 1, .ofNat 0))], []),
  (4, [(0, .inr (.inl [50])), (1, .inl (true, (1, .ofNat 1, .ofNat 0))), (3, .inl (false, (2, .ofNat 1, .ofNat 0))), (4, .inl (false, (3, .ofNat 1, .ofNat 0))), (5, .inl (false, (4, .ofNat 1, .ofNat 1))), (6, .inl (false, (5, .ofNat 1, .negSucc 11)))], [], [(1, 52, (6, .ofNat 1, .ofNat 0), (10, .ofNat 1, .ofNat 0), (0, .ofNat 0, .ofNat 0)), (4, 3, (7, .ofNat 1, .ofNat 0), (9, .ofNat 1, .ofNat 0), (10, .ofNat 1, .ofNat 0)), (4, 0, (1, .ofNat 1, .ofNat 0), (8, .ofNat 1, .ofNat 0), (9, .ofNat 1, .ofNat 0)), (0, 62, (4, .ofNat 1, .ofNat 0), (8, .ofNat 1, .ofNat 0), (0, .ofNat 0, .ofNat 0)), (0, 52, (6, .ofNat 1, .ofNat 0), (7, .ofNat 1, .ofNat 0), (0, .ofNat 0, .ofNat 0)), (2, 5, (3, .ofNat 1, .ofNat 0), (0, .ofNat 0, .ofNat 12), (0, .ofNat 0, .ofNat 0)), (2, 3, (3, .ofNat 1, .ofNat 0), (0, .ofNat 0, .ofNat 0), (0, .ofNat 0, .ofNat 0)), (2, 5, (5, .ofNat 1, .negSucc 11), (0, .ofNat 0, .ofNat 40), (0, .ofNat 0, .ofNat 0)), (2, 3, (5, .ofNat 1, .negSucc 11), (0, .ofNat 0, .ofNat 0), (0, .ofNat 0, .ofNat 0)), (2, 5, (4, .ofNat 1, .ofNat 0), (0, .ofNat 0, .ofNat 24), (0, .ofNat 0, .ofNat 0))], [(2, [(.negSucc 39, .ofNat 40)]), (3, [(.ofNat 0, .ofNat 12)]), (4, [(.ofNat 0, .ofNat 24)]), (5, [(.ofNat 12, .ofNat 52)]), (6, [(.ofNat 1012, .ofNat 2024)])], [((5, .ofNat 25, .ofNat 712), (3, .ofNat 1, .ofNat 0), (6, .ofNat 1, .ofNat 0)), ((2, .ofNat 1, .ofNat 0), (4, .ofNat 1, .ofNat 0), (5, .ofNat 1, .ofNat 0))], []),
  (4, [(0, .inr (.inl [50])), (1, .inl (true, (1, .ofNat 1, .ofNat 0))), (3, .inl (false, (2, .ofNat 1, .ofNat 0))), (4, .inl (false, (3, .ofNat 1, .ofNat 0))), (5, .inl (false, (4, .ofNat 1, .ofNat 1))), (6, .inl (false, (5, .ofNat 1, .negSucc 11)))], [], [(2, 4, (3, .negSucc 0, .ofNat 0), (0, .ofNat 0, .ofNat 12), (0, .ofNat 0, .ofNat 0)), (2, 2, (3, .ofNat 1, .ofNat 0), (0, .ofNat 0, .ofNat 0), (0, .ofNat 0, .ofNat 0)), (2, 5, (5, .ofNat 1, .negSucc 11), (0, .ofNat 0, .ofNat 40), (0, .ofNat 0, .ofNat 0)), (2, 3, (5, .ofNat 1, .negSucc 11), (0, .ofNat 0, .ofNat 0), (0, .ofNat 0, .ofNat 0)), (2, 5, (4, .ofNat 1, .ofNat 0), (0, .ofNat 0, .ofNat 24), (0, .ofNat 0, .ofNat 0))], [(2, [(.negSucc 39, .ofNat 40)]), (3, [(.negSucc 23, .negSucc 12)]), (4, [(.ofNat 0, .ofNat 24)]), (5, [(.ofNat 12, .ofNat 52)])], [((2, .ofNat 1, .ofNat 0), (4, .ofNat 1, .ofNat 0), (5, .ofNat 1, .ofNat 0))], []),
  (4, [(0, .inr (.inl [50])), (1, .inl (true, (1, .ofNat 1, .ofNat 0))), (3, .inl (false, (2, .ofNat 1, .ofNat 0))), (4, .inl (false, (3, .ofNat 1, .ofNat 0))), (5, .inl (false, (4, .ofNat 1, .ofNat 1))), (6, .inl (false, (5, .ofNat 1, .negSucc 11)))], [], [(1, 52, (6, .ofNat 1, .ofNat 0), (10, .ofNat 1, .ofNat 0), (0, .ofNat 0, .ofNat 0)), (4, 3, (7, .ofNat 1, .ofNat 0), (9, .ofNat 1, .ofNat 0), (10, .ofNat 1, .ofNat 0)), (4, 0, (1, .ofNat 1, .ofNat 0), (8, .ofNat 1, .ofNat 0), (9, .ofNat 1, .ofNat 0)), (0, 62, (4, .ofNat 1, .ofNat 0), (8, .ofNat 1, .ofNat 0), (0, .ofNat 0, .ofNat 0)), (0, 52, (6, .ofNat 1, .ofNat 0), (7, .ofNat 1, .ofNat 0), (0, .ofNat 0, .ofNat 0)), (2, 5, (3, .negSucc 0, .ofNat 0), (0, .ofNat 0, .ofNat 12), (0, .ofNat 0, .ofNat 0)), (2, 2, (3, .ofNat 1, .ofNat 0), (0, .ofNat 0, .ofNat 0), (0, .ofNat 0, .ofNat 0)), (2, 5, (5, .ofNat 1, .negSucc 11), (0, .ofNat 0, .ofNat 40), (0, .ofNat 0, .ofNat 0)), (2, 3, (5, .ofNat 1, .negSucc 11), (0, .ofNat 0, .ofNat 0), (0, .ofNat 0, .ofNat 0)), (2, 5, (4, .ofNat 1, .ofNat 0), (0, .ofNat 0, .ofNat 24), (0, .ofNat 0, .ofNat 0))], [(2, [(.negSucc 39, .ofNat 40)]), (3, [(.negSucc 11, .negSucc 0)]), (4, [(.ofNat 0, .ofNat 24)]), (5, [(.ofNat 12, .ofNat 52)]), (6, [(.ofNat 1000, .ofNat 2011)])], [((5, .ofNat 25, .ofNat 712), (3, .ofNat 1, .ofNat 0), (6, .ofNat 1, .ofNat 0)), ((2, .ofNat 1, .ofNat 0), (4, .ofNat 1, .ofNat 0), (5, .ofNat 1, .ofNat 0))], []),
  (4, [(0, .inr (.inl [50])), (1, .inl (true, (1, .ofNat 1, .ofNat 0))), (3, .inl (false, (2, .ofNat 1, .ofNat 0))), (4, .inl (false, (3, .ofNat 1, .ofNat 0))), (5, .inl (false, (4, .ofNat 1, .ofNat 1))), (6, .inl (false, (5, .ofNat 1, .negSucc 11)))], [], [(2, 4, (5, .negSucc 0, .ofNat 12), (0, .ofNat 0, .ofNat 40), (0, .ofNat 0, .ofNat 0)), (2, 2, (5, .ofNat 1, .negSucc 11), (0, .ofNat 0, .ofNat 0), (0, .ofNat 0, .ofNat 0)), (2, 5, (4, .ofNat 1, .ofNat 0), (0, .ofNat 0, .ofNat 24), (0, .ofNat 0, .ofNat 0))], [(2, [(.negSucc 39, .ofNat 40)]), (3, [(.negSucc 23, .ofNat 24)]), (4, [(.ofNat 0, .ofNat 24)]), (5, [(.negSucc 39, .negSucc 28)])], [((2, .ofNat 1, .ofNat 0), (4, .ofNat 1, .ofNat 0), (5, .ofNat 1, .ofNat 0))], []),
  (4, [(0, .inr (.inl [50])), (1, .inl (true, (1, .ofNat 1, .ofNat 0))), (3, .inl (false, (2, .ofNat 1, .ofNat 0))), (4, .inl (false, (3, .ofNat 1, .ofNat 0))), (5, .inl (false, (4, .ofNat 1, .ofNat 1))), (6, .inl (false, (5, .ofNat 1, .negSucc 11)))], [], [(2, 4, (3, .ofNat 1, .ofNat 0), (0, .ofNat 0, .ofNat 12), (0, .ofNat 0, .ofNat 0)), (2, 3, (3, .ofNat 1, .ofNat 0), (0, .ofNat 0, .ofNat 0), (0, .ofNat 0, .ofNat 0)), (2, 5, (5, .negSucc 0, .ofNat 12), (0, .ofNat 0, .ofNat 40), (0, .ofNat 0, .ofNat 0)), (2, 2, (5, .ofNat 1, .negSucc 11), (0, .ofNat 0, .ofNat 0), (0, .ofNat 0, .ofNat 0)), (2, 5, (4, .ofNat 1, .ofNat 0), (0, .ofNat 0, .ofNat 24), (0, .ofNat 0, .ofNat 0))], [(2, [(.negSucc 39, .ofNat 40)]), (3, [(.ofNat 13, .ofNat 24)]), (4, [(.ofNat 0, .ofNat 24)]), (5, [(.negSucc 27, .ofNat 11)])], [((2, .ofNat 1, .ofNat 0), (4, .ofNat 1, .ofNat 0), (5, .ofNat 1, .ofNat 0))], []),
  (4, [(0, .inr (.inl [50])), (1, .inl (true, (1, .ofNat 1, .ofNat 0))), (3, .inl (false, (2, .ofNat 1, .ofNat 0))), (4, .inl (false, (3, .ofNat 1, .ofNat 0))), (5, .inl (false, (4, .ofNat 1, .ofNat 1))), (6, .inl (false, (5, .ofNat 1, .negSucc 11)))], [], [(1, 52, (6, .ofNat 1, .ofNat 0), (10, .ofNat 1, .ofNat 0), (0, .ofNat 0, .ofNat 0)), (4, 3, (7, .ofNat 1, .ofNat 0), (9, .ofNat 1, .ofNat 0), (10, .ofNat 1, .ofNat 0)), (4, 0, (1, .ofNat 1, .ofNat 0), (8, .ofNat 1, .ofNat 0), (9, .ofNat 1, .ofNat 0)), (0, 62, (4, .ofNat 1, .ofNat 0), (8, .ofNat 1, .ofNat 0), (0, .ofNat 0, .ofNat 0)), (0, 52, (6, .ofNat 1, .ofNat 0), (7, .ofNat 1, .ofNat 0), (0, .ofNat 0, .ofNat 0)), (2, 5, (3, .ofNat 1, .ofNat 0), (0, .ofNat 0, .ofNat 12), (0, .ofNat 0, .ofNat 0)), (2, 3, (3, .ofNat 1, .ofNat 0), (0, .ofNat 0, .ofNat 0), (0, .ofNat 0, .ofNat 0)), (2, 5, (5, .negSucc 0, .ofNat 12), (0, .ofNat 0, .ofNat 40), (0, .ofNat 0, .ofNat 0)), (2, 2, (5, .ofNat 1, .negSucc 11), (0, .ofNat 0, .ofNat 0), (0, .ofNat 0, .ofNat 0)), (2, 5, (4, .ofNat 1, .ofNat 0), (0, .ofNat 0, .ofNat 24), (0, .ofNat 0, .ofNat 0))], [(2, [(.negSucc 39, .ofNat 40)]), (3, [(.ofNat 0, .ofNat 12)]), (4, [(.ofNat 0, .ofNat 24)]), (5, [(.negSucc 27, .ofNat 11)]), (6, [(.ofNat 12, .ofNat 999)])], [((5, .ofNat 25, .ofNat 712), (3, .ofNat 1, .ofNat 0), (6, .ofNat 1, .ofNat 0)), ((2, .ofNat 1, .ofNat 0), (4, .ofNat 1, .ofNat 0), (5, .ofNat 1, .ofNat 0))], []),
  (4, [(0, .inr (.inl [50])), (1, .inl (true, (1, .ofNat 1, .ofNat 0))), (3, .inl (false, (2, .ofNat 1, .ofNat 0))), (4, .inl (false, (3, .ofNat 1, .ofNat 0))), (5, .inl (false, (4, .ofNat 1, .ofNat 1))), (6, .inl (false, (5, .ofNat 1, .negSucc 11)))], [], [(2, 4, (3, .negSucc 0, .ofNat 0), (0, .ofNat 0, .ofNat 12), (0, .ofNat 0, .ofNat 0)), (2, 2, (3, .ofNat 1, .ofNat 0), (0, .ofNat 0, .ofNat 0), (0, .ofNat 0, .ofNat 0)), (2, 5, (5, .negSucc 0, .ofNat 12), (0, .ofNat 0, .ofNat 40), (0, .ofNat 0, .ofNat 0)), (2, 2, (5, .ofNat 1, .negSucc 11), (0, .ofNat 0, .ofNat 0), (0, .ofNat 0, .ofNat 0)), (2, 5, (4, .ofNat 1, .ofNat 0), (0, .ofNat 0, .ofNat 24), (0, .ofNat 0, .ofNat 0))], [(2, [(.negSucc 39, .ofNat 40)]), (3, [(.negSucc 23, .negSucc 12)]), (4, [(.ofNat 0, .ofNat 24)]), (5, [(.negSucc 27, .ofNat 11)])], [((2, .ofNat 1, .ofNat 0), (4, .ofNat 1, .ofNat 0), (5, .ofNat 1, .ofNat 0))], []),
  (4, [(0, .inr (.inl [50])), (1, .inl (true, (1, .ofNat 1, .ofNat 0))), (3, .inl (false, (2, .ofNat 1, .ofNat 0))), (4, .inl (false, (3, .ofNat 1, .ofNat 0))), (5, .inl (false, (4, .ofNat 1, .ofNat 1))), (6, .inl (false, (5, .ofNat 1, .negSucc 11)))], [], [(1, 52, (6, .ofNat 1, .ofNat 0), (10, .ofNat 1, .ofNat 0), (0, .ofNat 0, .ofNat 0)), (4, 3, (7, .ofNat 1, .ofNat 0), (9, .ofNat 1, .ofNat 0), (10, .ofNat 1, .ofNat 0)), (4, 0, (1, .ofNat 1, .ofNat 0), (8, .ofNat 1, .ofNat 0), (9, .ofNat 1, .ofNat 0)), (0, 62, (4, .ofNat 1, .ofNat 0), (8, .ofNat 1, .ofNat 0), (0, .ofNat 0, .ofNat 0)), (0, 52, (6, .ofNat 1, .ofNat 0), (7, .ofNat 1, .ofNat 0), (0, .ofNat 0, .ofNat 0)), (2, 5, (3, .negSucc 0, .ofNat 0), (0, .ofNat 0, .ofNat 12), (0, .ofNat 0, .ofNat 0)), (2, 2, (3, .ofNat 1, .ofNat 0), (0, .ofNat 0, .ofNat 0), (0, .ofNat 0, .ofNat 0)), (2, 5, (5, .negSucc 0, .ofNat 12), (0, .ofNat 0, .ofNat 40), (0, .ofNat 0, .ofNat 0)), (2, 2, (5, .ofNat 1, .negSucc 11), (0, .ofNat 0, .ofNat 0), (0, .ofNat 0, .ofNat 0)), (2, 5, (4, .ofNat 1, .ofNat 0), (0, .ofNat 0, .ofNat 24), (0, .ofNat 0, .ofNat 0))], [(2, [(.negSucc 39, .ofNat 40)]), (3, [(.negSucc 11, .negSucc 0)]), (4, [(.ofNat 0, .ofNat 24)]), (5, [(.negSucc 27, .ofNat 11)]), (6, [(.ofNat 0, .ofNat 986)])], [((5, .ofNat 25, .ofNat 712), (3, .ofNat 1, .ofNat 0), (6, .ofNat 1, .ofNat 0)), ((2, .ofNat 1, .ofNat 0), (4, .ofNat 1, .ofNat 0), (5, .ofNat 1, .ofNat 0))], [])]
set_option maxRecDepth 1000000 in
theorem sg_ad_b_g : sg_go [] [3] 3000 18 3 1 5 [(0, [(.ofNat 0, .ofNat 0)]), (1, [(.negSucc 9223372036854775807, .ofNat 9223372036854775807)]), (2, [(.negSucc 39, .ofNat 40)]), (3, [(.negSucc 23, .ofNat 24)]), (4, [(.ofNat 0, .ofNat 25)])] [] [] [] [(0, .inr (.inl [50])), (1, .inl (true, (1, .ofNat 1, .ofNat 0))), (3, .inl (false, (2, .ofNat 1, .ofNat 0))), (4, .inl (false, (3, .ofNat 1, .ofNat 0))), (5, .inl (false, (4, .ofNat 1, .ofNat 0)))] [] [(52, none)] sg_ad_b_Z = true := by decide +kernel
set_option maxRecDepth 100000 in
theorem sg_ad_b {Q : Option Value × am_S → Prop} {d : Nat} {S : am_S} {L : am_L} {x1 x2 x3 x4 : Int} (hd : 1 ≤ d) (hP : ax_P0 none S) (l0 : lc L 0 50) (l1 : lj L 1 x1) (l3 : li L 3 x2) (l4 : li L 4 x3) (l5 : li L 5 x4) (b1 : ((-9223372036854775808) ≤ x1 ∧ x1 ≤ 9223372036854775807)) (b2 : ((-40) ≤ x2 ∧ x2 ≤ 40)) (b3 : ((-24) ≤ x3 ∧ x3 ≤ 24)) (b4 : (0 ≤ x4 ∧ x4 ≤ 25))
    (k0 : ∀ (S' : am_S), ax_P0 none S' → rd S' = rd S → 24 < x4 → ((-40) ≤ x2 ∧ x2 ≤ 40) → ((-24) ≤ x3 ∧ x3 ≤ 24) → (25 ≤ x4 ∧ x4 ≤ 25) → Q (none, S'))
    (k1 : ∀ (x5 : Int) (L' : am_L) (S' : am_S), ax_P0 none S' → rd S' = rd S → x4 ≤ 24 → 0 ≤ x5 + (-12) → 40 < x5 + (-12) → ((-40) ≤ x2 ∧ x2 ≤ 40) → ((-24) ≤ x3 ∧ x3 ≤ 24) → (0 ≤ x4 ∧ x4 ≤ 24) → (53 ≤ x5 ∧ x5 ≤ 64) → x2 + x4 = x5 → lc L' 0 50 → lj L' 1 x1 → li L' 3 x2 → li L' 4 x3 → li L' 5 (x4 + 1) → li L' 6 (x5 + (-12)) → am_V none d 18 3 L' ([]) S' Q)
    (k2 : ∀ (x5 : Int) (L' : am_L) (S' : am_S), ax_P0 none S' → rd S' = rd S → x4 ≤ 24 → 0 ≤ x5 + (-12) → x5 + (-12) ≤ 40 → 0 ≤ x3 → 12 < x3 → ((-40) ≤ x2 ∧ x2 ≤ 40) → (13 ≤ x3 ∧ x3 ≤ 24) → (0 ≤ x4 ∧ x4 ≤ 24) → (12 ≤ x5 ∧ x5 ≤ 52) → x2 + x4 = x5 → lc L' 0 50 → lj L' 1 x1 → li L' 3 x2 → li L' 4 x3 → li L' 5 (x4 + 1) → li L' 6 (x5 + (-12)) → am_V none d 18 3 L' ([]) S' Q)
    (k3 : ∀ (x5 x6 x7 x8 x9 x10 : Int) (L' : am_L) (S' : am_S), ax_P0 none S' → rd S' = sg_up (rd S) 52 x6 x10 → x4 ≤ 24 → 0 ≤ x5 + (-12) → x5 + (-12) ≤ 40 → 0 ≤ x3 → x3 ≤ 12 → rd S 52 x6 = x7 → rd S 62 x4 = x8 → (∃ a b : Int64, a.toInt = x1 ∧ b.toInt = x8 ∧ (a * b).toInt = x9) → (∃ a b : Int64, a.toInt = x7 ∧ b.toInt = x9 ∧ (a + b).toInt = x10) → ((-40) ≤ x2 ∧ x2 ≤ 40) → (0 ≤ x3 ∧ x3 ≤ 12) → (0 ≤ x4 ∧ x4 ≤ 24) → (12 ≤ x5 ∧ x5 ≤ 52) → (1012 ≤ x6 ∧ x6 ≤ 2024) → (25 * x5 + 712) + x3 = x6 → x2 + x4 = x5 → lc L' 0 50 → lj L' 1 x1 → li L' 3 x2 → li L' 4 x3 → li L' 5 (x4 + 1) → li L' 6 (x5 + (-12)) → am_V none d 18 3 L' ([]) S' Q)
    (k4 : ∀ (x5 : Int) (L' : am_L) (S' : am_S), ax_P0 none S' → rd S' = rd S → x4 ≤ 24 → 0 ≤ x5 + (-12) → x5 + (-12) ≤ 40 → x3 < 0 → 12 < (-1) * x3 + 0 → ((-40) ≤ x2 ∧ x2 ≤ 40) → ((-24) ≤ x3 ∧ x3 ≤ (-13)) → (0 ≤ x4 ∧ x4 ≤ 24) → (12 ≤ x5 ∧ x5 ≤ 52) → x2 + x4 = x5 → lc L' 0 50 → lj L' 1 x1 → li L' 3 x2 → li L' 4 x3 → li L' 5 (x4 + 1) → li L' 6 (x5 + (-12)) → am_V none d 18 3 L' ([]) S' Q)
    (k5 : ∀ (x5 x6 x7 x8 x9 x10 : Int) (L' : am_L) (S' : am_S), ax_P0 none S' → rd S' = sg_up (rd S) 52 x6 x10 → x4 ≤ 24 → 0 ≤ x5 + (-12) → x5 + (-12) ≤ 40 → x3 < 0 → (-1) * x3 + 0 ≤ 12 → rd S 52 x6 = x7 → rd S 62 x4 = x8 → (∃ a b : Int64, a.toInt = x1 ∧ b.toInt = x8 ∧ (a * b).toInt = x9) → (∃ a b : Int64, a.toInt = x7 ∧ b.toInt = x9 ∧ (a + b).toInt = x10) → ((-40) ≤ x2 ∧ x2 ≤ 40) → ((-12) ≤ x3 ∧ x3 ≤ (-1)) → (0 ≤ x4 ∧ x4 ≤ 24) → (12 ≤ x5 ∧ x5 ≤ 52) → (1000 ≤ x6 ∧ x6 ≤ 2011) → (25 * x5 + 712) + x3 = x6 → x2 + x4 = x5 → lc L' 0 50 → lj L' 1 x1 → li L' 3 x2 → li L' 4 x3 → li L' 5 (x4 + 1) → li L' 6 (x5 + (-12)) → am_V none d 18 3 L' ([]) S' Q)
    (k6 : ∀ (x5 : Int) (L' : am_L) (S' : am_S), ax_P0 none S' → rd S' = rd S → x4 ≤ 24 → x5 + (-12) < 0 → 40 < (-1) * x5 + 12 → ((-40) ≤ x2 ∧ x2 ≤ 40) → ((-24) ≤ x3 ∧ x3 ≤ 24) → (0 ≤ x4 ∧ x4 ≤ 24) → ((-40) ≤ x5 ∧ x5 ≤ (-29)) → x2 + x4 = x5 → lc L' 0 50 → lj L' 1 x1 → li L' 3 x2 → li L' 4 x3 → li L' 5 (x4 + 1) → li L' 6 (x5 + (-12)) → am_V none d 18 3 L' ([]) S' Q)
    (k7 : ∀ (x5 : Int) (L' : am_L) (S' : am_S), ax_P0 none S' → rd S' = rd S → x4 ≤ 24 → x5 + (-12) < 0 → (-1) * x5 + 12 ≤ 40 → 0 ≤ x3 → 12 < x3 → ((-40) ≤ x2 ∧ x2 ≤ 40) → (13 ≤ x3 ∧ x3 ≤ 24) → (0 ≤ x4 ∧ x4 ≤ 24) → ((-28) ≤ x5 ∧ x5 ≤ 11) → x2 + x4 = x5 → lc L' 0 50 → lj L' 1 x1 → li L' 3 x2 → li L' 4 x3 → li L' 5 (x4 + 1) → li L' 6 (x5 + (-12)) → am_V none d 18 3 L' ([]) S' Q)
    (k8 : ∀ (x5 x6 x7 x8 x9 x10 : Int) (L' : am_L) (S' : am_S), ax_P0 none S' → rd S' = sg_up (rd S) 52 x6 x10 → x4 ≤ 24 → x5 + (-12) < 0 → (-1) * x5 + 12 ≤ 40 → 0 ≤ x3 → x3 ≤ 12 → rd S 52 x6 = x7 → rd S 62 x4 = x8 → (∃ a b : Int64, a.toInt = x1 ∧ b.toInt = x8 ∧ (a * b).toInt = x9) → (∃ a b : Int64, a.toInt = x7 ∧ b.toInt = x9 ∧ (a + b).toInt = x10) → ((-40) ≤ x2 ∧ x2 ≤ 40) → (0 ≤ x3 ∧ x3 ≤ 12) → (0 ≤ x4 ∧ x4 ≤ 24) → ((-28) ≤ x5 ∧ x5 ≤ 11) → (12 ≤ x6 ∧ x6 ≤ 999) → (25 * x5 + 712) + x3 = x6 → x2 + x4 = x5 → lc L' 0 50 → lj L' 1 x1 → li L' 3 x2 → li L' 4 x3 → li L' 5 (x4 + 1) → li L' 6 (x5 + (-12)) → am_V none d 18 3 L' ([]) S' Q)
    (k9 : ∀ (x5 : Int) (L' : am_L) (S' : am_S), ax_P0 none S' → rd S' = rd S → x4 ≤ 24 → x5 + (-12) < 0 → (-1) * x5 + 12 ≤ 40 → x3 < 0 → 12 < (-1) * x3 + 0 → ((-40) ≤ x2 ∧ x2 ≤ 40) → ((-24) ≤ x3 ∧ x3 ≤ (-13)) → (0 ≤ x4 ∧ x4 ≤ 24) → ((-28) ≤ x5 ∧ x5 ≤ 11) → x2 + x4 = x5 → lc L' 0 50 → lj L' 1 x1 → li L' 3 x2 → li L' 4 x3 → li L' 5 (x4 + 1) → li L' 6 (x5 + (-12)) → am_V none d 18 3 L' ([]) S' Q)
    (k10 : ∀ (x5 x6 x7 x8 x9 x10 : Int) (L' : am_L) (S' : am_S), ax_P0 none S' → rd S' = sg_up (rd S) 52 x6 x10 → x4 ≤ 24 → x5 + (-12) < 0 → (-1) * x5 + 12 ≤ 40 → x3 < 0 → (-1) * x3 + 0 ≤ 12 → rd S 52 x6 = x7 → rd S 62 x4 = x8 → (∃ a b : Int64, a.toInt = x1 ∧ b.toInt = x8 ∧ (a * b).toInt = x9) → (∃ a b : Int64, a.toInt = x7 ∧ b.toInt = x9 ∧ (a + b).toInt = x10) → ((-40) ≤ x2 ∧ x2 ≤ 40) → ((-12) ≤ x3 ∧ x3 ≤ (-1)) → (0 ≤ x4 ∧ x4 ≤ 24) → ((-28) ≤ x5 ∧ x5 ≤ 11) → (0 ≤ x6 ∧ x6 ≤ 986) → (25 * x5 + 712) + x3 = x6 → x2 + x4 = x5 → lc L' 0 50 → lj L' 1 x1 → li L' 3 x2 → li L' 4 x3 → li L' 5 (x4 + 1) → li L' 6 (x5 + (-12)) → am_V none d 18 3 L' ([]) S' Q) : am_V none d 18 3 L ([]) S Q := by
  refine sg_use sg_ad_b_g hd hP (sg_xs [0, x1, x2, x3, x4]) ⟨⟨Int.le_refl 0, Int.le_refl 0⟩, b1, b2, b3, b4, trivial⟩ trivial trivial trivial ⟨l0, l1, l3, l4, l5, trivial⟩ trivial ?_
  intro z hz x' L' st' S' hx hP' hW hL' hs' hJ hE' hT' hD'
  have q1 : x' 1 = x1 := hx 1 (by decide)
  subst q1
  have q2 : x' 2 = x2 := hx 2 (by decide)
  subst q2
  have q3 : x' 3 = x3 := hx 3 (by decide)
  subst q3
  have q4 : x' 4 = x4 := hx 4 (by decide)
  subst q4
  simp only [sg_ad_b_Z, List.mem_cons, List.not_mem_nil, or_false] at hz
  rcases hz with rfl | rfl | rfl | rfl | rfl | rfl | rfl | rfl | rfl | rfl | rfl
  · obtain ⟨f0, hσ⟩ := hJ
    obtain ⟨e0, e1, e2, -⟩ := hE'
    intro v hv
    subst hv
    cases v with
    | some _ => exact hs'.elim
    | none =>
      exact k0 S' hP' hσ f0 e0 e1 e2
  · obtain ⟨f0, f1, f2, hσ⟩ := hJ
    obtain ⟨e0, e1, e2, e3, -⟩ := hE'
    obtain ⟨t0, -⟩ := hT'
    obtain ⟨p0, p1, p2, p3, p4, p5, -⟩ := hL'
    obtain rfl := sg_tn hs'
    exact k1 (x' 5) L' S' hP' hσ f0 f1 f2 e0 e1 e2 e3 t0 p0 p1 p2 p3 p4 p5
  · obtain ⟨f0, f1, f2, f3, f4, hσ⟩ := hJ
    obtain ⟨e0, e1, e2, e3, -⟩ := hE'
    obtain ⟨t0, -⟩ := hT'
    obtain ⟨p0, p1, p2, p3, p4, p5, -⟩ := hL'
    obtain rfl := sg_tn hs'
    exact k2 (x' 5) L' S' hP' hσ f0 f1 f2 f3 f4 e0 e1 e2 e3 t0 p0 p1 p2 p3 p4 p5
  · obtain ⟨f0, f1, f2, f3, f4, f5, f6, f7, f8, hσ⟩ := hJ
    obtain ⟨e0, e1, e2, e3, e4, -⟩ := hE'
    obtain ⟨t0, t1, -⟩ := hT'
    obtain ⟨p0, p1, p2, p3, p4, p5, -⟩ := hL'
    obtain rfl := sg_tn hs'
    exact k3 (x' 5) (x' 6) (x' 7) (x' 8) (x' 9) (x' 10) L' S' hP' hσ f0 f1 f2 f3 f4 f5 f6 f7 f8 e0 e1 e2 e3 e4 t0 t1 p0 p1 p2 p3 p4 p5
  · obtain ⟨f0, f1, f2, f3, f4, hσ⟩ := hJ
    obtain ⟨e0, e1, e2, e3, -⟩ := hE'
    obtain ⟨t0, -⟩ := hT'
    obtain ⟨p0, p1, p2, p3, p4, p5, -⟩ := hL'
    obtain rfl := sg_tn hs'
    exact k4 (x' 5) L' S' hP' hσ f0 f1 f2 f3 f4 e0 e1 e2 e3 t0 p0 p1 p2 p3 p4 p5
  · obtain ⟨f0, f1, f2, f3, f4, f5, f6, f7, f8, hσ⟩ := hJ
    obtain ⟨e0, e1, e2, e3, e4, -⟩ := hE'
    obtain ⟨t0, t1, -⟩ := hT'
    obtain ⟨p0, p1, p2, p3, p4, p5, -⟩ := hL'
    obtain rfl := sg_tn hs'
    exact k5 (x' 5) (x' 6) (x' 7) (x' 8) (x' 9) (x' 10) L' S' hP' hσ f0 f1 f2 f3 f4 f5 f6 f7 f8 e0 e1 e2 e3 e4 t0 t1 p0 p1 p2 p3 p4 p5
  · obtain ⟨f0, f1, f2, hσ⟩ := hJ
    obtain ⟨e0, e1, e2, e3, -⟩ := hE'
    obtain ⟨t0, -⟩ := hT'
    obtain ⟨p0, p1, p2, p3, p4, p5, -⟩ := hL'
    obtain rfl := sg_tn hs'
    exact k6 (x' 5) L' S' hP' hσ f0 f1 f2 e0 e1 e2 e3 t0 p0 p1 p2 p3 p4 p5
  · obtain ⟨f0, f1, f2, f3, f4, hσ⟩ := hJ
    obtain ⟨e0, e1, e2, e3, -⟩ := hE'
    obtain ⟨t0, -⟩ := hT'
    obtain ⟨p0, p1, p2, p3, p4, p5, -⟩ := hL'
    obtain rfl := sg_tn hs'
    exact k7 (x' 5) L' S' hP' hσ f0 f1 f2 f3 f4 e0 e1 e2 e3 t0 p0 p1 p2 p3 p4 p5
  · obtain ⟨f0, f1, f2, f3, f4, f5, f6, f7, f8, hσ⟩ := hJ
    obtain ⟨e0, e1, e2, e3, e4, -⟩ := hE'
    obtain ⟨t0, t1, -⟩ := hT'
    obtain ⟨p0, p1, p2, p3, p4, p5, -⟩ := hL'
    obtain rfl := sg_tn hs'
    exact k8 (x' 5) (x' 6) (x' 7) (x' 8) (x' 9) (x' 10) L' S' hP' hσ f0 f1 f2 f3 f4 f5 f6 f7 f8 e0 e1 e2 e3 e4 t0 t1 p0 p1 p2 p3 p4 p5
  · obtain ⟨f0, f1, f2, f3, f4, hσ⟩ := hJ
    obtain ⟨e0, e1, e2, e3, -⟩ := hE'
    obtain ⟨t0, -⟩ := hT'
    obtain ⟨p0, p1, p2, p3, p4, p5, -⟩ := hL'
    obtain rfl := sg_tn hs'
    exact k9 (x' 5) L' S' hP' hσ f0 f1 f2 f3 f4 e0 e1 e2 e3 t0 p0 p1 p2 p3 p4 p5
  · obtain ⟨f0, f1, f2, f3, f4, f5, f6, f7, f8, hσ⟩ := hJ
    obtain ⟨e0, e1, e2, e3, e4, -⟩ := hE'
    obtain ⟨t0, t1, -⟩ := hT'
    obtain ⟨p0, p1, p2, p3, p4, p5, -⟩ := hL'
    obtain rfl := sg_tn hs'
    exact k10 (x' 5) (x' 6) (x' 7) (x' 8) (x' 9) (x' 10) L' S' hP' hσ f0 f1 f2 f3 f4 f5 f6 f7 f8 e0 e1 e2 e3 e4 t0 t1 p0 p1 p2 p3 p4 p5
def sg_fh0_a_Z : List sg_z := [(7, [(0, .inr (.inl [54])), (1, .inl (true, (0, .ofNat 0, .ofNat 0))), (3, .inl (false, (0, .ofNat 0, .ofNat 0))), (4, .inl (false, (0, .ofNat 0, .ofNat 13)))], [], [], [(1, [(.ofNat 0, .ofNat 0)])], [], [])]
set_option maxRecDepth 1000000 in
theorem sg_fh0_a_g : sg_go [] [6] 3000 260 0 0 2 [(0, [(.ofNat 0, .ofNat 0)]), (1, [(.ofNat 0, .ofNat 0)])] [] [] [] [(0, .inr (.inl [54])), (1, .inl (true, (1, .ofNat 1, .ofNat 0)))] [] [] sg_fh0_a_Z = true := by decide +kernel
set_option maxRecDepth 100000 in
theorem sg_fh0_a {Q : Option Value × am_S → Prop} {d : Nat} {S : am_S} {L : am_L} {x1 : Int} (hd : 0 ≤ d) (hP : ax_P0 none S) (l0 : lc L 0 54) (l1 : lj L 1 x1) (b1 : (0 ≤ x1 ∧ x1 ≤ 0))
    (k0 : ∀ (L' : am_L), (0 ≤ x1 ∧ x1 ≤ 0) → lc L' 0 54 → lj L' 1 0 → li L' 3 0 → li L' 4 13 → am_V none d 260 6 L' ([]) S Q) : am_V none d 260 0 L ([]) S Q := by
  refine sg_use sg_fh0_a_g hd hP (sg_xs [0, x1]) ⟨⟨Int.le_refl 0, Int.le_refl 0⟩, b1, trivial⟩ trivial trivial trivial ⟨l0, l1, trivial⟩ trivial ?_
  intro z hz x' L' st' S' hx hP' hW hL' hs' hJ hE' hT' hD'
  have q1 : x' 1 = x1 := hx 1 (by decide)
  subst q1
  have eS : S' = S := hW.1 rfl
  subst eS
  simp only [sg_fh0_a_Z, List.mem_cons, List.not_mem_nil, or_false] at hz
  rcases hz with rfl
  · have hσ := hJ
    obtain ⟨e0, -⟩ := hE'
    obtain ⟨p0, p1, p2, p3, -⟩ := hL'
    obtain rfl := sg_tn hs'
    exact k0 L' e0 p0 p1 p2 p3
def sg_fh0_b_Z : List sg_z := [(0, [], [], [(2, 3, (2, .ofNat 1, .ofNat 0), (0, .ofNat 0, .ofNat 13), (0, .ofNat 0, .ofNat 0))], [(1, [(.ofNat 0, .ofNat 0)]), (2, [(.ofNat 13, .ofNat 13)]), (3, [(.ofNat 13, .ofNat 13)])], [], []),
  (7, [(0, .inr (.inl [54])), (1, .inl (true, (0, .ofNat 0, .ofNat 0))), (3, .inl (false, (2, .ofNat 1, .ofNat 1))), (4, .inl (false, (0, .ofNat 0, .ofNat 13)))], [], [(1, 54, (2, .ofNat 1, .ofNat 0), (0, .ofNat 0, .ofNat 0), (0, .ofNat 0, .ofNat 0)), (2, 2, (2, .ofNat 1, .ofNat 0), (0, .ofNat 0, .ofNat 13), (0, .ofNat 0, .ofNat 0))], [(1, [(.ofNat 0, .ofNat 0)]), (2, [(.ofNat 0, .ofNat 12)]), (3, [(.ofNat 13, .ofNat 13)])], [], [])]
set_option maxRecDepth 1000000 in
theorem sg_fh0_b_g : sg_go [] [6] 3000 260 6 0 4 [(0, [(.ofNat 0, .ofNat 0)]), (1, [(.ofNat 0, .ofNat 0)]), (2, [(.ofNat 0, .ofNat 13)]), (3, [(.ofNat 13, .ofNat 13)])] [] [] [] [(0, .inr (.inl [54])), (1, .inl (true, (1, .ofNat 1, .ofNat 0))), (3, .inl (false, (2, .ofNat 1, .ofNat 0))), (4, .inl (false, (3, .ofNat 1, .ofNat 0)))] [] [(54, none)] sg_fh0_b_Z = true := by decide +kernel
set_option maxRecDepth 100000 in
theorem sg_fh0_b {Q : Option Value × am_S → Prop} {d : Nat} {S : am_S} {L : am_L} {x1 x2 x3 : Int} (hd : 0 ≤ d) (hP : ax_P0 none S) (l0 : lc L 0 54) (l1 : lj L 1 x1) (l3 : li L 3 x2) (l4 : li L 4 x3) (b1 : (0 ≤ x1 ∧ x1 ≤ 0)) (b2 : (0 ≤ x2 ∧ x2 ≤ 13)) (b3 : (13 ≤ x3 ∧ x3 ≤ 13))
    (k0 : ∀ (S' : am_S), ax_P0 none S' → rd S' = rd S → 13 ≤ x2 → (0 ≤ x1 ∧ x1 ≤ 0) → (13 ≤ x2 ∧ x2 ≤ 13) → (13 ≤ x3 ∧ x3 ≤ 13) → Q (none, S'))
    (k1 : ∀ (L' : am_L) (S' : am_S), ax_P0 none S' → rd S' = sg_up (rd S) 54 x2 0 → x2 < 13 → (0 ≤ x1 ∧ x1 ≤ 0) → (0 ≤ x2 ∧ x2 ≤ 12) → (13 ≤ x3 ∧ x3 ≤ 13) → lc L' 0 54 → lj L' 1 0 → li L' 3 (x2 + 1) → li L' 4 13 → am_V none d 260 6 L' ([]) S' Q) : am_V none d 260 6 L ([]) S Q := by
  refine sg_use sg_fh0_b_g hd hP (sg_xs [0, x1, x2, x3]) ⟨⟨Int.le_refl 0, Int.le_refl 0⟩, b1, b2, b3, trivial⟩ trivial trivial trivial ⟨l0, l1, l3, l4, trivial⟩ trivial ?_
  intro z hz x' L' st' S' hx hP' hW hL' hs' hJ hE' hT' hD'
  have q1 : x' 1 = x1 := hx 1 (by decide)
  subst q1
  have q2 : x' 2 = x2 := hx 2 (by decide)
  subst q2
  have q3 : x' 3 = x3 := hx 3 (by decide)
  subst q3
  simp only [sg_fh0_b_Z, List.mem_cons, List.not_mem_nil, or_false] at hz
  rcases hz with rfl | rfl
  · obtain ⟨f0, hσ⟩ := hJ
    obtain ⟨e0, e1, e2, -⟩ := hE'
    intro v hv
    subst hv
    cases v with
    | some _ => exact hs'.elim
    | none =>
      exact k0 S' hP' hσ f0 e0 e1 e2
  · obtain ⟨f0, hσ⟩ := hJ
    obtain ⟨e0, e1, e2, -⟩ := hE'
    obtain ⟨p0, p1, p2, p3, -⟩ := hL'
    obtain rfl := sg_tn hs'
    exact k1 L' S' hP' hσ f0 e0 e1 e2 p0 p1 p2 p3
def sg_fh1_a_Z : List sg_z := [(7, [(0, .inr (.inl [55])), (1, .inl (true, (0, .ofNat 0, .ofNat 0))), (3, .inl (false, (0, .ofNat 0, .ofNat 0))), (4, .inl (false, (0, .ofNat 0, .ofNat 13)))], [], [], [(1, [(.ofNat 0, .ofNat 0)])], [], [])]
set_option maxRecDepth 1000000 in
theorem sg_fh1_a_g : sg_go [] [6] 3000 260 0 0 2 [(0, [(.ofNat 0, .ofNat 0)]), (1, [(.ofNat 0, .ofNat 0)])] [] [] [] [(0, .inr (.inl [55])), (1, .inl (true, (1, .ofNat 1, .ofNat 0)))] [] [] sg_fh1_a_Z = true := by decide +kernel
set_option maxRecDepth 100000 in
theorem sg_fh1_a {Q : Option Value × am_S → Prop} {d : Nat} {S : am_S} {L : am_L} {x1 : Int} (hd : 0 ≤ d) (hP : ax_P0 none S) (l0 : lc L 0 55) (l1 : lj L 1 x1) (b1 : (0 ≤ x1 ∧ x1 ≤ 0))
    (k0 : ∀ (L' : am_L), (0 ≤ x1 ∧ x1 ≤ 0) → lc L' 0 55 → lj L' 1 0 → li L' 3 0 → li L' 4 13 → am_V none d 260 6 L' ([]) S Q) : am_V none d 260 0 L ([]) S Q := by
  refine sg_use sg_fh1_a_g hd hP (sg_xs [0, x1]) ⟨⟨Int.le_refl 0, Int.le_refl 0⟩, b1, trivial⟩ trivial trivial trivial ⟨l0, l1, trivial⟩ trivial ?_
  intro z hz x' L' st' S' hx hP' hW hL' hs' hJ hE' hT' hD'
  have q1 : x' 1 = x1 := hx 1 (by decide)
  subst q1
  have eS : S' = S := hW.1 rfl
  subst eS
  simp only [sg_fh1_a_Z, List.mem_cons, List.not_mem_nil, or_false] at hz
  rcases hz with rfl
  · have hσ := hJ
    obtain ⟨e0, -⟩ := hE'
    obtain ⟨p0, p1, p2, p3, -⟩ := hL'
    obtain rfl := sg_tn hs'
    exact k0 L' e0 p0 p1 p2 p3
def sg_fh1_b_Z : List sg_z := [(0, [], [], [(2, 3, (2, .ofNat 1, .ofNat 0), (0, .ofNat 0, .ofNat 13), (0, .ofNat 0, .ofNat 0))], [(1, [(.ofNat 0, .ofNat 0)]), (2, [(.ofNat 13, .ofNat 13)]), (3, [(.ofNat 13, .ofNat 13)])], [], []),
  (7, [(0, .inr (.inl [55])), (1, .inl (true, (0, .ofNat 0, .ofNat 0))), (3, .inl (false, (2, .ofNat 1, .ofNat 1))), (4, .inl (false, (0, .ofNat 0, .ofNat 13)))], [], [(1, 55, (2, .ofNat 1, .ofNat 0), (0, .ofNat 0, .ofNat 0), (0, .ofNat 0, .ofNat 0)), (2, 2, (2, .ofNat 1, .ofNat 0), (0, .ofNat 0, .ofNat 13), (0, .ofNat 0, .ofNat 0))], [(1, [(.ofNat 0, .ofNat 0)]), (2, [(.ofNat 0, .ofNat 12)]), (3, [(.ofNat 13, .ofNat 13)])], [], [])]
set_option maxRecDepth 1000000 in
theorem sg_fh1_b_g : sg_go [] [6] 3000 260 6 0 4 [(0, [(.ofNat 0, .ofNat 0)]), (1, [(.ofNat 0, .ofNat 0)]), (2, [(.ofNat 0, .ofNat 13)]), (3, [(.ofNat 13, .ofNat 13)])] [] [] [] [(0, .inr (.inl [55])), (1, .inl (true, (1, .ofNat 1, .ofNat 0))), (3, .inl (false, (2, .ofNat 1, .ofNat 0))), (4, .inl (false, (3, .ofNat 1, .ofNat 0)))] [] [(55, none)] sg_fh1_b_Z = true := by decide +kernel
set_option maxRecDepth 100000 in
theorem sg_fh1_b {Q : Option Value × am_S → Prop} {d : Nat} {S : am_S} {L : am_L} {x1 x2 x3 : Int} (hd : 0 ≤ d) (hP : ax_P0 none S) (l0 : lc L 0 55) (l1 : lj L 1 x1) (l3 : li L 3 x2) (l4 : li L 4 x3) (b1 : (0 ≤ x1 ∧ x1 ≤ 0)) (b2 : (0 ≤ x2 ∧ x2 ≤ 13)) (b3 : (13 ≤ x3 ∧ x3 ≤ 13))
    (k0 : ∀ (S' : am_S), ax_P0 none S' → rd S' = rd S → 13 ≤ x2 → (0 ≤ x1 ∧ x1 ≤ 0) → (13 ≤ x2 ∧ x2 ≤ 13) → (13 ≤ x3 ∧ x3 ≤ 13) → Q (none, S'))
    (k1 : ∀ (L' : am_L) (S' : am_S), ax_P0 none S' → rd S' = sg_up (rd S) 55 x2 0 → x2 < 13 → (0 ≤ x1 ∧ x1 ≤ 0) → (0 ≤ x2 ∧ x2 ≤ 12) → (13 ≤ x3 ∧ x3 ≤ 13) → lc L' 0 55 → lj L' 1 0 → li L' 3 (x2 + 1) → li L' 4 13 → am_V none d 260 6 L' ([]) S' Q) : am_V none d 260 6 L ([]) S Q := by
  refine sg_use sg_fh1_b_g hd hP (sg_xs [0, x1, x2, x3]) ⟨⟨Int.le_refl 0, Int.le_refl 0⟩, b1, b2, b3, trivial⟩ trivial trivial trivial ⟨l0, l1, l3, l4, trivial⟩ trivial ?_
  intro z hz x' L' st' S' hx hP' hW hL' hs' hJ hE' hT' hD'
  have q1 : x' 1 = x1 := hx 1 (by decide)
  subst q1
  have q2 : x' 2 = x2 := hx 2 (by decide)
  subst q2
  have q3 : x' 3 = x3 := hx 3 (by decide)
  subst q3
  simp only [sg_fh1_b_Z, List.mem_cons, List.not_mem_nil, or_false] at hz
  rcases hz with rfl | rfl
  · obtain ⟨f0, hσ⟩ := hJ
    obtain ⟨e0, e1, e2, -⟩ := hE'
    intro v hv
    subst hv
    cases v with
    | some _ => exact hs'.elim
    | none =>
      exact k0 S' hP' hσ f0 e0 e1 e2
  · obtain ⟨f0, hσ⟩ := hJ
    obtain ⟨e0, e1, e2, -⟩ := hE'
    obtain ⟨p0, p1, p2, p3, -⟩ := hL'
    obtain rfl := sg_tn hs'
    exact k1 L' S' hP' hσ f0 e0 e1 e2 p0 p1 p2 p3
def sg_fh2_a_Z : List sg_z := [(7, [(0, .inr (.inl [56])), (1, .inl (true, (0, .ofNat 0, .ofNat 0))), (3, .inl (false, (0, .ofNat 0, .ofNat 0))), (4, .inl (false, (0, .ofNat 0, .ofNat 13)))], [], [], [(1, [(.ofNat 0, .ofNat 0)])], [], [])]
set_option maxRecDepth 1000000 in
theorem sg_fh2_a_g : sg_go [] [6] 3000 260 0 0 2 [(0, [(.ofNat 0, .ofNat 0)]), (1, [(.ofNat 0, .ofNat 0)])] [] [] [] [(0, .inr (.inl [56])), (1, .inl (true, (1, .ofNat 1, .ofNat 0)))] [] [] sg_fh2_a_Z = true := by decide +kernel
set_option maxRecDepth 100000 in
theorem sg_fh2_a {Q : Option Value × am_S → Prop} {d : Nat} {S : am_S} {L : am_L} {x1 : Int} (hd : 0 ≤ d) (hP : ax_P0 none S) (l0 : lc L 0 56) (l1 : lj L 1 x1) (b1 : (0 ≤ x1 ∧ x1 ≤ 0))
    (k0 : ∀ (L' : am_L), (0 ≤ x1 ∧ x1 ≤ 0) → lc L' 0 56 → lj L' 1 0 → li L' 3 0 → li L' 4 13 → am_V none d 260 6 L' ([]) S Q) : am_V none d 260 0 L ([]) S Q := by
  refine sg_use sg_fh2_a_g hd hP (sg_xs [0, x1]) ⟨⟨Int.le_refl 0, Int.le_refl 0⟩, b1, trivial⟩ trivial trivial trivial ⟨l0, l1, trivial⟩ trivial ?_
  intro z hz x' L' st' S' hx hP' hW hL' hs' hJ hE' hT' hD'
  have q1 : x' 1 = x1 := hx 1 (by decide)
  subst q1
  have eS : S' = S := hW.1 rfl
  subst eS
  simp only [sg_fh2_a_Z, List.mem_cons, List.not_mem_nil, or_false] at hz
  rcases hz with rfl
  · have hσ := hJ
    obtain ⟨e0, -⟩ := hE'
    obtain ⟨p0, p1, p2, p3, -⟩ := hL'
    obtain rfl := sg_tn hs'
    exact k0 L' e0 p0 p1 p2 p3
def sg_fh2_b_Z : List sg_z := [(0, [], [], [(2, 3, (2, .ofNat 1, .ofNat 0), (0, .ofNat 0, .ofNat 13), (0, .ofNat 0, .ofNat 0))], [(1, [(.ofNat 0, .ofNat 0)]), (2, [(.ofNat 13, .ofNat 13)]), (3, [(.ofNat 13, .ofNat 13)])], [], []),
  (7, [(0, .inr (.inl [56])), (1, .inl (true, (0, .ofNat 0, .ofNat 0))), (3, .inl (false, (2, .ofNat 1, .ofNat 1))), (4, .inl (false, (0, .ofNat 0, .ofNat 13)))], [], [(1, 56, (2, .ofNat 1, .ofNat 0), (0, .ofNat 0, .ofNat 0), (0, .ofNat 0, .ofNat 0)), (2, 2, (2, .ofNat 1, .ofNat 0), (0, .ofNat 0, .ofNat 13), (0, .ofNat 0, .ofNat 0))], [(1, [(.ofNat 0, .ofNat 0)]), (2, [(.ofNat 0, .ofNat 12)]), (3, [(.ofNat 13, .ofNat 13)])], [], [])]
set_option maxRecDepth 1000000 in
theorem sg_fh2_b_g : sg_go [] [6] 3000 260 6 0 4 [(0, [(.ofNat 0, .ofNat 0)]), (1, [(.ofNat 0, .ofNat 0)]), (2, [(.ofNat 0, .ofNat 13)]), (3, [(.ofNat 13, .ofNat 13)])] [] [] [] [(0, .inr (.inl [56])), (1, .inl (true, (1, .ofNat 1, .ofNat 0))), (3, .inl (false, (2, .ofNat 1, .ofNat 0))), (4, .inl (false, (3, .ofNat 1, .ofNat 0)))] [] [(56, none)] sg_fh2_b_Z = true := by decide +kernel
set_option maxRecDepth 100000 in
theorem sg_fh2_b {Q : Option Value × am_S → Prop} {d : Nat} {S : am_S} {L : am_L} {x1 x2 x3 : Int} (hd : 0 ≤ d) (hP : ax_P0 none S) (l0 : lc L 0 56) (l1 : lj L 1 x1) (l3 : li L 3 x2) (l4 : li L 4 x3) (b1 : (0 ≤ x1 ∧ x1 ≤ 0)) (b2 : (0 ≤ x2 ∧ x2 ≤ 13)) (b3 : (13 ≤ x3 ∧ x3 ≤ 13))
    (k0 : ∀ (S' : am_S), ax_P0 none S' → rd S' = rd S → 13 ≤ x2 → (0 ≤ x1 ∧ x1 ≤ 0) → (13 ≤ x2 ∧ x2 ≤ 13) → (13 ≤ x3 ∧ x3 ≤ 13) → Q (none, S'))
    (k1 : ∀ (L' : am_L) (S' : am_S), ax_P0 none S' → rd S' = sg_up (rd S) 56 x2 0 → x2 < 13 → (0 ≤ x1 ∧ x1 ≤ 0) → (0 ≤ x2 ∧ x2 ≤ 12) → (13 ≤ x3 ∧ x3 ≤ 13) → lc L' 0 56 → lj L' 1 0 → li L' 3 (x2 + 1) → li L' 4 13 → am_V none d 260 6 L' ([]) S' Q) : am_V none d 260 6 L ([]) S Q := by
  refine sg_use sg_fh2_b_g hd hP (sg_xs [0, x1, x2, x3]) ⟨⟨Int.le_refl 0, Int.le_refl 0⟩, b1, b2, b3, trivial⟩ trivial trivial trivial ⟨l0, l1, l3, l4, trivial⟩ trivial ?_
  intro z hz x' L' st' S' hx hP' hW hL' hs' hJ hE' hT' hD'
  have q1 : x' 1 = x1 := hx 1 (by decide)
  subst q1
  have q2 : x' 2 = x2 := hx 2 (by decide)
  subst q2
  have q3 : x' 3 = x3 := hx 3 (by decide)
  subst q3
  simp only [sg_fh2_b_Z, List.mem_cons, List.not_mem_nil, or_false] at hz
  rcases hz with rfl | rfl
  · obtain ⟨f0, hσ⟩ := hJ
    obtain ⟨e0, e1, e2, -⟩ := hE'
    intro v hv
    subst hv
    cases v with
    | some _ => exact hs'.elim
    | none =>
      exact k0 S' hP' hσ f0 e0 e1 e2
  · obtain ⟨f0, hσ⟩ := hJ
    obtain ⟨e0, e1, e2, -⟩ := hE'
    obtain ⟨p0, p1, p2, p3, -⟩ := hL'
    obtain rfl := sg_tn hs'
    exact k1 L' S' hP' hσ f0 e0 e1 e2 p0 p1 p2 p3
def sg_fh3_a_Z : List sg_z := [(7, [(0, .inr (.inl [57])), (1, .inl (true, (0, .ofNat 0, .ofNat 0))), (3, .inl (false, (0, .ofNat 0, .ofNat 0))), (4, .inl (false, (0, .ofNat 0, .ofNat 13)))], [], [], [(1, [(.ofNat 0, .ofNat 0)])], [], [])]
set_option maxRecDepth 1000000 in
theorem sg_fh3_a_g : sg_go [] [6] 3000 260 0 0 2 [(0, [(.ofNat 0, .ofNat 0)]), (1, [(.ofNat 0, .ofNat 0)])] [] [] [] [(0, .inr (.inl [57])), (1, .inl (true, (1, .ofNat 1, .ofNat 0)))] [] [] sg_fh3_a_Z = true := by decide +kernel
set_option maxRecDepth 100000 in
theorem sg_fh3_a {Q : Option Value × am_S → Prop} {d : Nat} {S : am_S} {L : am_L} {x1 : Int} (hd : 0 ≤ d) (hP : ax_P0 none S) (l0 : lc L 0 57) (l1 : lj L 1 x1) (b1 : (0 ≤ x1 ∧ x1 ≤ 0))
    (k0 : ∀ (L' : am_L), (0 ≤ x1 ∧ x1 ≤ 0) → lc L' 0 57 → lj L' 1 0 → li L' 3 0 → li L' 4 13 → am_V none d 260 6 L' ([]) S Q) : am_V none d 260 0 L ([]) S Q := by
  refine sg_use sg_fh3_a_g hd hP (sg_xs [0, x1]) ⟨⟨Int.le_refl 0, Int.le_refl 0⟩, b1, trivial⟩ trivial trivial trivial ⟨l0, l1, trivial⟩ trivial ?_
  intro z hz x' L' st' S' hx hP' hW hL' hs' hJ hE' hT' hD'
  have q1 : x' 1 = x1 := hx 1 (by decide)
  subst q1
  have eS : S' = S := hW.1 rfl
  subst eS
  simp only [sg_fh3_a_Z, List.mem_cons, List.not_mem_nil, or_false] at hz
  rcases hz with rfl
  · have hσ := hJ
    obtain ⟨e0, -⟩ := hE'
    obtain ⟨p0, p1, p2, p3, -⟩ := hL'
    obtain rfl := sg_tn hs'
    exact k0 L' e0 p0 p1 p2 p3
def sg_fh3_b_Z : List sg_z := [(0, [], [], [(2, 3, (2, .ofNat 1, .ofNat 0), (0, .ofNat 0, .ofNat 13), (0, .ofNat 0, .ofNat 0))], [(1, [(.ofNat 0, .ofNat 0)]), (2, [(.ofNat 13, .ofNat 13)]), (3, [(.ofNat 13, .ofNat 13)])], [], []),
  (7, [(0, .inr (.inl [57])), (1, .inl (true, (0, .ofNat 0, .ofNat 0))), (3, .inl (false, (2, .ofNat 1, .ofNat 1))), (4, .inl (false, (0, .ofNat 0, .ofNat 13)))], [], [(1, 57, (2, .ofNat 1, .ofNat 0), (0, .ofNat 0, .ofNat 0), (0, .ofNat 0, .ofNat 0)), (2, 2, (2, .ofNat 1, .ofNat 0), (0, .ofNat 0, .ofNat 13), (0, .ofNat 0, .ofNat 0))], [(1, [(.ofNat 0, .ofNat 0)]), (2, [(.ofNat 0, .ofNat 12)]), (3, [(.ofNat 13, .ofNat 13)])], [], [])]
set_option maxRecDepth 1000000 in
theorem sg_fh3_b_g : sg_go [] [6] 3000 260 6 0 4 [(0, [(.ofNat 0, .ofNat 0)]), (1, [(.ofNat 0, .ofNat 0)]), (2, [(.ofNat 0, .ofNat 13)]), (3, [(.ofNat 13, .ofNat 13)])] [] [] [] [(0, .inr (.inl [57])), (1, .inl (true, (1, .ofNat 1, .ofNat 0))), (3, .inl (false, (2, .ofNat 1, .ofNat 0))), (4, .inl (false, (3, .ofNat 1, .ofNat 0)))] [] [(57, none)] sg_fh3_b_Z = true := by decide +kernel
set_option maxRecDepth 100000 in
theorem sg_fh3_b {Q : Option Value × am_S → Prop} {d : Nat} {S : am_S} {L : am_L} {x1 x2 x3 : Int} (hd : 0 ≤ d) (hP : ax_P0 none S) (l0 : lc L 0 57) (l1 : lj L 1 x1) (l3 : li L 3 x2) (l4 : li L 4 x3) (b1 : (0 ≤ x1 ∧ x1 ≤ 0)) (b2 : (0 ≤ x2 ∧ x2 ≤ 13)) (b3 : (13 ≤ x3 ∧ x3 ≤ 13))
    (k0 : ∀ (S' : am_S), ax_P0 none S' → rd S' = rd S → 13 ≤ x2 → (0 ≤ x1 ∧ x1 ≤ 0) → (13 ≤ x2 ∧ x2 ≤ 13) → (13 ≤ x3 ∧ x3 ≤ 13) → Q (none, S'))
    (k1 : ∀ (L' : am_L) (S' : am_S), ax_P0 none S' → rd S' = sg_up (rd S) 57 x2 0 → x2 < 13 → (0 ≤ x1 ∧ x1 ≤ 0) → (0 ≤ x2 ∧ x2 ≤ 12) → (13 ≤ x3 ∧ x3 ≤ 13) → lc L' 0 57 → lj L' 1 0 → li L' 3 (x2 + 1) → li L' 4 13 → am_V none d 260 6 L' ([]) S' Q) : am_V none d 260 6 L ([]) S Q := by
  refine sg_use sg_fh3_b_g hd hP (sg_xs [0, x1, x2, x3]) ⟨⟨Int.le_refl 0, Int.le_refl 0⟩, b1, b2, b3, trivial⟩ trivial trivial trivial ⟨l0, l1, l3, l4, trivial⟩ trivial ?_
  intro z hz x' L' st' S' hx hP' hW hL' hs' hJ hE' hT' hD'
  have q1 : x' 1 = x1 := hx 1 (by decide)
  subst q1
  have q2 : x' 2 = x2 := hx 2 (by decide)
  subst q2
  have q3 : x' 3 = x3 := hx 3 (by decide)
  subst q3
  simp only [sg_fh3_b_Z, List.mem_cons, List.not_mem_nil, or_false] at hz
  rcases hz with rfl | rfl
  · obtain ⟨f0, hσ⟩ := hJ
    obtain ⟨e0, e1, e2, -⟩ := hE'
    intro v hv
    subst hv
    cases v with
    | some _ => exact hs'.elim
    | none =>
      exact k0 S' hP' hσ f0 e0 e1 e2
  · obtain ⟨f0, hσ⟩ := hJ
    obtain ⟨e0, e1, e2, -⟩ := hE'
    obtain ⟨p0, p1, p2, p3, -⟩ := hL'
    obtain rfl := sg_tn hs'
    exact k1 L' S' hP' hσ f0 e0 e1 e2 p0 p1 p2 p3
def sg_fh4_a_Z : List sg_z := [(7, [(0, .inr (.inl [58])), (1, .inl (true, (0, .ofNat 0, .ofNat 0))), (3, .inl (false, (0, .ofNat 0, .ofNat 0))), (4, .inl (false, (0, .ofNat 0, .ofNat 13)))], [], [], [(1, [(.ofNat 0, .ofNat 0)])], [], [])]
set_option maxRecDepth 1000000 in
theorem sg_fh4_a_g : sg_go [] [6] 3000 260 0 0 2 [(0, [(.ofNat 0, .ofNat 0)]), (1, [(.ofNat 0, .ofNat 0)])] [] [] [] [(0, .inr (.inl [58])), (1, .inl (true, (1, .ofNat 1, .ofNat 0)))] [] [] sg_fh4_a_Z = true := by decide +kernel
set_option maxRecDepth 100000 in
theorem sg_fh4_a {Q : Option Value × am_S → Prop} {d : Nat} {S : am_S} {L : am_L} {x1 : Int} (hd : 0 ≤ d) (hP : ax_P0 none S) (l0 : lc L 0 58) (l1 : lj L 1 x1) (b1 : (0 ≤ x1 ∧ x1 ≤ 0))
    (k0 : ∀ (L' : am_L), (0 ≤ x1 ∧ x1 ≤ 0) → lc L' 0 58 → lj L' 1 0 → li L' 3 0 → li L' 4 13 → am_V none d 260 6 L' ([]) S Q) : am_V none d 260 0 L ([]) S Q := by
  refine sg_use sg_fh4_a_g hd hP (sg_xs [0, x1]) ⟨⟨Int.le_refl 0, Int.le_refl 0⟩, b1, trivial⟩ trivial trivial trivial ⟨l0, l1, trivial⟩ trivial ?_
  intro z hz x' L' st' S' hx hP' hW hL' hs' hJ hE' hT' hD'
  have q1 : x' 1 = x1 := hx 1 (by decide)
  subst q1
  have eS : S' = S := hW.1 rfl
  subst eS
  simp only [sg_fh4_a_Z, List.mem_cons, List.not_mem_nil, or_false] at hz
  rcases hz with rfl
  · have hσ := hJ
    obtain ⟨e0, -⟩ := hE'
    obtain ⟨p0, p1, p2, p3, -⟩ := hL'
    obtain rfl := sg_tn hs'
    exact k0 L' e0 p0 p1 p2 p3
def sg_fh4_b_Z : List sg_z := [(0, [], [], [(2, 3, (2, .ofNat 1, .ofNat 0), (0, .ofNat 0, .ofNat 13), (0, .ofNat 0, .ofNat 0))], [(1, [(.ofNat 0, .ofNat 0)]), (2, [(.ofNat 13, .ofNat 13)]), (3, [(.ofNat 13, .ofNat 13)])], [], []),
  (7, [(0, .inr (.inl [58])), (1, .inl (true, (0, .ofNat 0, .ofNat 0))), (3, .inl (false, (2, .ofNat 1, .ofNat 1))), (4, .inl (false, (0, .ofNat 0, .ofNat 13)))], [], [(1, 58, (2, .ofNat 1, .ofNat 0), (0, .ofNat 0, .ofNat 0), (0, .ofNat 0, .ofNat 0)), (2, 2, (2, .ofNat 1, .ofNat 0), (0, .ofNat 0, .ofNat 13), (0, .ofNat 0, .ofNat 0))], [(1, [(.ofNat 0, .ofNat 0)]), (2, [(.ofNat 0, .ofNat 12)]), (3, [(.ofNat 13, .ofNat 13)])], [], [])]
set_option maxRecDepth 1000000 in
theorem sg_fh4_b_g : sg_go [] [6] 3000 260 6 0 4 [(0, [(.ofNat 0, .ofNat 0)]), (1, [(.ofNat 0, .ofNat 0)]), (2, [(.ofNat 0, .ofNat 13)]), (3, [(.ofNat 13, .ofNat 13)])] [] [] [] [(0, .inr (.inl [58])), (1, .inl (true, (1, .ofNat 1, .ofNat 0))), (3, .inl (false, (2, .ofNat 1, .ofNat 0))), (4, .inl (false, (3, .ofNat 1, .ofNat 0)))] [] [(58, none)] sg_fh4_b_Z = true := by decide +kernel
set_option maxRecDepth 100000 in
theorem sg_fh4_b {Q : Option Value × am_S → Prop} {d : Nat} {S : am_S} {L : am_L} {x1 x2 x3 : Int} (hd : 0 ≤ d) (hP : ax_P0 none S) (l0 : lc L 0 58) (l1 : lj L 1 x1) (l3 : li L 3 x2) (l4 : li L 4 x3) (b1 : (0 ≤ x1 ∧ x1 ≤ 0)) (b2 : (0 ≤ x2 ∧ x2 ≤ 13)) (b3 : (13 ≤ x3 ∧ x3 ≤ 13))
    (k0 : ∀ (S' : am_S), ax_P0 none S' → rd S' = rd S → 13 ≤ x2 → (0 ≤ x1 ∧ x1 ≤ 0) → (13 ≤ x2 ∧ x2 ≤ 13) → (13 ≤ x3 ∧ x3 ≤ 13) → Q (none, S'))
    (k1 : ∀ (L' : am_L) (S' : am_S), ax_P0 none S' → rd S' = sg_up (rd S) 58 x2 0 → x2 < 13 → (0 ≤ x1 ∧ x1 ≤ 0) → (0 ≤ x2 ∧ x2 ≤ 12) → (13 ≤ x3 ∧ x3 ≤ 13) → lc L' 0 58 → lj L' 1 0 → li L' 3 (x2 + 1) → li L' 4 13 → am_V none d 260 6 L' ([]) S' Q) : am_V none d 260 6 L ([]) S Q := by
  refine sg_use sg_fh4_b_g hd hP (sg_xs [0, x1, x2, x3]) ⟨⟨Int.le_refl 0, Int.le_refl 0⟩, b1, b2, b3, trivial⟩ trivial trivial trivial ⟨l0, l1, l3, l4, trivial⟩ trivial ?_
  intro z hz x' L' st' S' hx hP' hW hL' hs' hJ hE' hT' hD'
  have q1 : x' 1 = x1 := hx 1 (by decide)
  subst q1
  have q2 : x' 2 = x2 := hx 2 (by decide)
  subst q2
  have q3 : x' 3 = x3 := hx 3 (by decide)
  subst q3
  simp only [sg_fh4_b_Z, List.mem_cons, List.not_mem_nil, or_false] at hz
  rcases hz with rfl | rfl
  · obtain ⟨f0, hσ⟩ := hJ
    obtain ⟨e0, e1, e2, -⟩ := hE'
    intro v hv
    subst hv
    cases v with
    | some _ => exact hs'.elim
    | none =>
      exact k0 S' hP' hσ f0 e0 e1 e2
  · obtain ⟨f0, hσ⟩ := hJ
    obtain ⟨e0, e1, e2, -⟩ := hE'
    obtain ⟨p0, p1, p2, p3, -⟩ := hL'
    obtain rfl := sg_tn hs'
    exact k1 L' S' hP' hσ f0 e0 e1 e2 p0 p1 p2 p3
def sg_fh5_a_Z : List sg_z := [(7, [(0, .inr (.inl [59])), (1, .inl (true, (0, .ofNat 0, .ofNat 0))), (3, .inl (false, (0, .ofNat 0, .ofNat 0))), (4, .inl (false, (0, .ofNat 0, .ofNat 13)))], [], [], [(1, [(.ofNat 0, .ofNat 0)])], [], [])]
set_option maxRecDepth 1000000 in
theorem sg_fh5_a_g : sg_go [] [6] 3000 260 0 0 2 [(0, [(.ofNat 0, .ofNat 0)]), (1, [(.ofNat 0, .ofNat 0)])] [] [] [] [(0, .inr (.inl [59])), (1, .inl (true, (1, .ofNat 1, .ofNat 0)))] [] [] sg_fh5_a_Z = true := by decide +kernel
set_option maxRecDepth 100000 in
theorem sg_fh5_a {Q : Option Value × am_S → Prop} {d : Nat} {S : am_S} {L : am_L} {x1 : Int} (hd : 0 ≤ d) (hP : ax_P0 none S) (l0 : lc L 0 59) (l1 : lj L 1 x1) (b1 : (0 ≤ x1 ∧ x1 ≤ 0))
    (k0 : ∀ (L' : am_L), (0 ≤ x1 ∧ x1 ≤ 0) → lc L' 0 59 → lj L' 1 0 → li L' 3 0 → li L' 4 13 → am_V none d 260 6 L' ([]) S Q) : am_V none d 260 0 L ([]) S Q := by
  refine sg_use sg_fh5_a_g hd hP (sg_xs [0, x1]) ⟨⟨Int.le_refl 0, Int.le_refl 0⟩, b1, trivial⟩ trivial trivial trivial ⟨l0, l1, trivial⟩ trivial ?_
  intro z hz x' L' st' S' hx hP' hW hL' hs' hJ hE' hT' hD'
  have q1 : x' 1 = x1 := hx 1 (by decide)
  subst q1
  have eS : S' = S := hW.1 rfl
  subst eS
  simp only [sg_fh5_a_Z, List.mem_cons, List.not_mem_nil, or_false] at hz
  rcases hz with rfl
  · have hσ := hJ
    obtain ⟨e0, -⟩ := hE'
    obtain ⟨p0, p1, p2, p3, -⟩ := hL'
    obtain rfl := sg_tn hs'
    exact k0 L' e0 p0 p1 p2 p3
def sg_fh5_b_Z : List sg_z := [(0, [], [], [(2, 3, (2, .ofNat 1, .ofNat 0), (0, .ofNat 0, .ofNat 13), (0, .ofNat 0, .ofNat 0))], [(1, [(.ofNat 0, .ofNat 0)]), (2, [(.ofNat 13, .ofNat 13)]), (3, [(.ofNat 13, .ofNat 13)])], [], []),
  (7, [(0, .inr (.inl [59])), (1, .inl (true, (0, .ofNat 0, .ofNat 0))), (3, .inl (false, (2, .ofNat 1, .ofNat 1))), (4, .inl (false, (0, .ofNat 0, .ofNat 13)))], [], [(1, 59, (2, .ofNat 1, .ofNat 0), (0, .ofNat 0, .ofNat 0), (0, .ofNat 0, .ofNat 0)), (2, 2, (2, .ofNat 1, .ofNat 0), (0, .ofNat 0, .ofNat 13), (0, .ofNat 0, .ofNat 0))], [(1, [(.ofNat 0, .ofNat 0)]), (2, [(.ofNat 0, .ofNat 12)]), (3, [(.ofNat 13, .ofNat 13)])], [], [])]
set_option maxRecDepth 1000000 in
theorem sg_fh5_b_g : sg_go [] [6] 3000 260 6 0 4 [(0, [(.ofNat 0, .ofNat 0)]), (1, [(.ofNat 0, .ofNat 0)]), (2, [(.ofNat 0, .ofNat 13)]), (3, [(.ofNat 13, .ofNat 13)])] [] [] [] [(0, .inr (.inl [59])), (1, .inl (true, (1, .ofNat 1, .ofNat 0))), (3, .inl (false, (2, .ofNat 1, .ofNat 0))), (4, .inl (false, (3, .ofNat 1, .ofNat 0)))] [] [(59, none)] sg_fh5_b_Z = true := by decide +kernel
set_option maxRecDepth 100000 in
theorem sg_fh5_b {Q : Option Value × am_S → Prop} {d : Nat} {S : am_S} {L : am_L} {x1 x2 x3 : Int} (hd : 0 ≤ d) (hP : ax_P0 none S) (l0 : lc L 0 59) (l1 : lj L 1 x1) (l3 : li L 3 x2) (l4 : li L 4 x3) (b1 : (0 ≤ x1 ∧ x1 ≤ 0)) (b2 : (0 ≤ x2 ∧ x2 ≤ 13)) (b3 : (13 ≤ x3 ∧ x3 ≤ 13))
    (k0 : ∀ (S' : am_S), ax_P0 none S' → rd S' = rd S → 13 ≤ x2 → (0 ≤ x1 ∧ x1 ≤ 0) → (13 ≤ x2 ∧ x2 ≤ 13) → (13 ≤ x3 ∧ x3 ≤ 13) → Q (none, S'))
    (k1 : ∀ (L' : am_L) (S' : am_S), ax_P0 none S' → rd S' = sg_up (rd S) 59 x2 0 → x2 < 13 → (0 ≤ x1 ∧ x1 ≤ 0) → (0 ≤ x2 ∧ x2 ≤ 12) → (13 ≤ x3 ∧ x3 ≤ 13) → lc L' 0 59 → lj L' 1 0 → li L' 3 (x2 + 1) → li L' 4 13 → am_V none d 260 6 L' ([]) S' Q) : am_V none d 260 6 L ([]) S Q := by
  refine sg_use sg_fh5_b_g hd hP (sg_xs [0, x1, x2, x3]) ⟨⟨Int.le_refl 0, Int.le_refl 0⟩, b1, b2, b3, trivial⟩ trivial trivial trivial ⟨l0, l1, l3, l4, trivial⟩ trivial ?_
  intro z hz x' L' st' S' hx hP' hW hL' hs' hJ hE' hT' hD'
  have q1 : x' 1 = x1 := hx 1 (by decide)
  subst q1
  have q2 : x' 2 = x2 := hx 2 (by decide)
  subst q2
  have q3 : x' 3 = x3 := hx 3 (by decide)
  subst q3
  simp only [sg_fh5_b_Z, List.mem_cons, List.not_mem_nil, or_false] at hz
  rcases hz with rfl | rfl
  · obtain ⟨f0, hσ⟩ := hJ
    obtain ⟨e0, e1, e2, -⟩ := hE'
    intro v hv
    subst hv
    cases v with
    | some _ => exact hs'.elim
    | none =>
      exact k0 S' hP' hσ f0 e0 e1 e2
  · obtain ⟨f0, hσ⟩ := hJ
    obtain ⟨e0, e1, e2, -⟩ := hE'
    obtain ⟨p0, p1, p2, p3, -⟩ := hL'
    obtain rfl := sg_tn hs'
    exact k1 L' S' hP' hσ f0 e0 e1 e2 p0 p1 p2 p3
def sg_fh6_a_Z : List sg_z := [(7, [(0, .inr (.inl [60])), (1, .inl (true, (0, .ofNat 0, .ofNat 0))), (3, .inl (false, (0, .ofNat 0, .ofNat 0))), (4, .inl (false, (0, .ofNat 0, .ofNat 13)))], [], [], [(1, [(.ofNat 0, .ofNat 0)])], [], [])]
set_option maxRecDepth 1000000 in
theorem sg_fh6_a_g : sg_go [] [6] 3000 260 0 0 2 [(0, [(.ofNat 0, .ofNat 0)]), (1, [(.ofNat 0, .ofNat 0)])] [] [] [] [(0, .inr (.inl [60])), (1, .inl (true, (1, .ofNat 1, .ofNat 0)))] [] [] sg_fh6_a_Z = true := by decide +kernel
set_option maxRecDepth 100000 in
theorem sg_fh6_a {Q : Option Value × am_S → Prop} {d : Nat} {S : am_S} {L : am_L} {x1 : Int} (hd : 0 ≤ d) (hP : ax_P0 none S) (l0 : lc L 0 60) (l1 : lj L 1 x1) (b1 : (0 ≤ x1 ∧ x1 ≤ 0))
    (k0 : ∀ (L' : am_L), (0 ≤ x1 ∧ x1 ≤ 0) → lc L' 0 60 → lj L' 1 0 → li L' 3 0 → li L' 4 13 → am_V none d 260 6 L' ([]) S Q) : am_V none d 260 0 L ([]) S Q := by
  refine sg_use sg_fh6_a_g hd hP (sg_xs [0, x1]) ⟨⟨Int.le_refl 0, Int.le_refl 0⟩, b1, trivial⟩ trivial trivial trivial ⟨l0, l1, trivial⟩ trivial ?_
  intro z hz x' L' st' S' hx hP' hW hL' hs' hJ hE' hT' hD'
  have q1 : x' 1 = x1 := hx 1 (by decide)
  subst q1
  have eS : S' = S := hW.1 rfl
  subst eS
  simp only [sg_fh6_a_Z, List.mem_cons, List.not_mem_nil, or_false] at hz
  rcases hz with rfl
  · have hσ := hJ
    obtain ⟨e0, -⟩ := hE'
    obtain ⟨p0, p1, p2, p3, -⟩ := hL'
    obtain rfl := sg_tn hs'
    exact k0 L' e0 p0 p1 p2 p3
def sg_fh6_b_Z : List sg_z := [(0, [], [], [(2, 3, (2, .ofNat 1, .ofNat 0), (0, .ofNat 0, .ofNat 13), (0, .ofNat 0, .ofNat 0))], [(1, [(.ofNat 0, .ofNat 0)]), (2, [(.ofNat 13, .ofNat 13)]), (3, [(.ofNat 13, .ofNat 13)])], [], []),
  (7, [(0, .inr (.inl [60])), (1, .inl (true, (0, .ofNat 0, .ofNat 0))), (3, .inl (false, (2, .ofNat 1, .ofNat 1))), (4, .inl (false, (0, .ofNat 0, .ofNat 13)))], [], [(1, 60, (2, .ofNat 1, .ofNat 0), (0, .ofNat 0, .ofNat 0), (0, .ofNat 0, .ofNat 0)), (2, 2, (2, .ofNat 1, .ofNat 0), (0, .ofNat 0, .ofNat 13), (0, .ofNat 0, .ofNat 0))], [(1, [(.ofNat 0, .ofNat 0)]), (2, [(.ofNat 0, .ofNat 12)]), (3, [(.ofNat 13, .ofNat 13)])], [], [])]
set_option maxRecDepth 1000000 in
theorem sg_fh6_b_g : sg_go [] [6] 3000 260 6 0 4 [(0, [(.ofNat 0, .ofNat 0)]), (1, [(.ofNat 0, .ofNat 0)]), (2, [(.ofNat 0, .ofNat 13)]), (3, [(.ofNat 13, .ofNat 13)])] [] [] [] [(0, .inr (.inl [60])), (1, .inl (true, (1, .ofNat 1, .ofNat 0))), (3, .inl (false, (2, .ofNat 1, .ofNat 0))), (4, .inl (false, (3, .ofNat 1, .ofNat 0)))] [] [(60, none)] sg_fh6_b_Z = true := by decide +kernel
set_option maxRecDepth 100000 in
theorem sg_fh6_b {Q : Option Value × am_S → Prop} {d : Nat} {S : am_S} {L : am_L} {x1 x2 x3 : Int} (hd : 0 ≤ d) (hP : ax_P0 none S) (l0 : lc L 0 60) (l1 : lj L 1 x1) (l3 : li L 3 x2) (l4 : li L 4 x3) (b1 : (0 ≤ x1 ∧ x1 ≤ 0)) (b2 : (0 ≤ x2 ∧ x2 ≤ 13)) (b3 : (13 ≤ x3 ∧ x3 ≤ 13))
    (k0 : ∀ (S' : am_S), ax_P0 none S' → rd S' = rd S → 13 ≤ x2 → (0 ≤ x1 ∧ x1 ≤ 0) → (13 ≤ x2 ∧ x2 ≤ 13) → (13 ≤ x3 ∧ x3 ≤ 13) → Q (none, S'))
    (k1 : ∀ (L' : am_L) (S' : am_S), ax_P0 none S' → rd S' = sg_up (rd S) 60 x2 0 → x2 < 13 → (0 ≤ x1 ∧ x1 ≤ 0) → (0 ≤ x2 ∧ x2 ≤ 12) → (13 ≤ x3 ∧ x3 ≤ 13) → lc L' 0 60 → lj L' 1 0 → li L' 3 (x2 + 1) → li L' 4 13 → am_V none d 260 6 L' ([]) S' Q) : am_V none d 260 6 L ([]) S Q := by
  refine sg_use sg_fh6_b_g hd hP (sg_xs [0, x1, x2, x3]) ⟨⟨Int.le_refl 0, Int.le_refl 0⟩, b1, b2, b3, trivial⟩ trivial trivial trivial ⟨l0, l1, l3, l4, trivial⟩ trivial ?_
  intro z hz x' L' st' S' hx hP' hW hL' hs' hJ hE' hT' hD'
  have q1 : x' 1 = x1 := hx 1 (by decide)
  subst q1
  have q2 : x' 2 = x2 := hx 2 (by decide)
  subst q2
  have q3 : x' 3 = x3 := hx 3 (by decide)
  subst q3
  simp only [sg_fh6_b_Z, List.mem_cons, List.not_mem_nil, or_false] at hz
  rcases hz with rfl | rfl
  · obtain ⟨f0, hσ⟩ := hJ
    obtain ⟨e0, e1, e2, -⟩ := hE'
    intro v hv
    subst hv
    cases v with
    | some _ => exact hs'.elim
    | none =>
      exact k0 S' hP' hσ f0 e0 e1 e2
  · obtain ⟨f0, hσ⟩ := hJ
    obtain ⟨e0, e1, e2, -⟩ := hE'
    obtain ⟨p0, p1, p2, p3, -⟩ := hL'
    obtain rfl := sg_tn hs'
    exact k1 L' S' hP' hσ f0 e0 e1 e2 p0 p1 p2 p3
def sg_fh7_a_Z : List sg_z := [(7, [(0, .inr (.inl [61])), (1, .inl (true, (0, .ofNat 0, .ofNat 0))), (3, .inl (false, (0, .ofNat 0, .ofNat 0))), (4, .inl (false, (0, .ofNat 0, .ofNat 13)))], [], [], [(1, [(.ofNat 0, .ofNat 0)])], [], [])]
set_option maxRecDepth 1000000 in
theorem sg_fh7_a_g : sg_go [] [6] 3000 260 0 0 2 [(0, [(.ofNat 0, .ofNat 0)]), (1, [(.ofNat 0, .ofNat 0)])] [] [] [] [(0, .inr (.inl [61])), (1, .inl (true, (1, .ofNat 1, .ofNat 0)))] [] [] sg_fh7_a_Z = true := by decide +kernel
set_option maxRecDepth 100000 in
theorem sg_fh7_a {Q : Option Value × am_S → Prop} {d : Nat} {S : am_S} {L : am_L} {x1 : Int} (hd : 0 ≤ d) (hP : ax_P0 none S) (l0 : lc L 0 61) (l1 : lj L 1 x1) (b1 : (0 ≤ x1 ∧ x1 ≤ 0))
    (k0 : ∀ (L' : am_L), (0 ≤ x1 ∧ x1 ≤ 0) → lc L' 0 61 → lj L' 1 0 → li L' 3 0 → li L' 4 13 → am_V none d 260 6 L' ([]) S Q) : am_V none d 260 0 L ([]) S Q := by
  refine sg_use sg_fh7_a_g hd hP (sg_xs [0, x1]) ⟨⟨Int.le_refl 0, Int.le_refl 0⟩, b1, trivial⟩ trivial trivial trivial ⟨l0, l1, trivial⟩ trivial ?_
  intro z hz x' L' st' S' hx hP' hW hL' hs' hJ hE' hT' hD'
  have q1 : x' 1 = x1 := hx 1 (by decide)
  subst q1
  have eS : S' = S := hW.1 rfl
  subst eS
  simp only [sg_fh7_a_Z, List.mem_cons, List.not_mem_nil, or_false] at hz
  rcases hz with rfl
  · have hσ := hJ
    obtain ⟨e0, -⟩ := hE'
    obtain ⟨p0, p1, p2, p3, -⟩ := hL'
    obtain rfl := sg_tn hs'
    exact k0 L' e0 p0 p1 p2 p3
def sg_fh7_b_Z : List sg_z := [(0, [], [], [(2, 3, (2, .ofNat 1, .ofNat 0), (0, .ofNat 0, .ofNat 13), (0, .ofNat 0, .ofNat 0))], [(1, [(.ofNat 0, .ofNat 0)]), (2, [(.ofNat 13, .ofNat 13)]), (3, [(.ofNat 13, .ofNat 13)])], [], []),
  (7, [(0, .inr (.inl [61])), (1, .inl (true, (0, .ofNat 0, .ofNat 0))), (3, .inl (false, (2, .ofNat 1, .ofNat 1))), (4, .inl (false, (0, .ofNat 0, .ofNat 13)))], [], [(1, 61, (2, .ofNat 1, .ofNat 0), (0, .ofNat 0, .ofNat 0), (0, .ofNat 0, .ofNat 0)), (2, 2, (2, .ofNat 1, .ofNat 0), (0, .ofNat 0, .ofNat 13), (0, .ofNat 0, .ofNat 0))], [(1, [(.ofNat 0, .ofNat 0)]), (2, [(.ofNat 0, .ofNat 12)]), (3, [(.ofNat 13, .ofNat 13)])], [], [])]
set_option maxRecDepth 1000000 in
theorem sg_fh7_b_g : sg_go [] [6] 3000 260 6 0 4 [(0, [(.ofNat 0, .ofNat 0)]), (1, [(.ofNat 0, .ofNat 0)]), (2, [(.ofNat 0, .ofNat 13)]), (3, [(.ofNat 13, .ofNat 13)])] [] [] [] [(0, .inr (.inl [61])), (1, .inl (true, (1, .ofNat 1, .ofNat 0))), (3, .inl (false, (2, .ofNat 1, .ofNat 0))), (4, .inl (false, (3, .ofNat 1, .ofNat 0)))] [] [(61, none)] sg_fh7_b_Z = true := by decide +kernel
set_option maxRecDepth 100000 in
theorem sg_fh7_b {Q : Option Value × am_S → Prop} {d : Nat} {S : am_S} {L : am_L} {x1 x2 x3 : Int} (hd : 0 ≤ d) (hP : ax_P0 none S) (l0 : lc L 0 61) (l1 : lj L 1 x1) (l3 : li L 3 x2) (l4 : li L 4 x3) (b1 : (0 ≤ x1 ∧ x1 ≤ 0)) (b2 : (0 ≤ x2 ∧ x2 ≤ 13)) (b3 : (13 ≤ x3 ∧ x3 ≤ 13))
    (k0 : ∀ (S' : am_S), ax_P0 none S' → rd S' = rd S → 13 ≤ x2 → (0 ≤ x1 ∧ x1 ≤ 0) → (13 ≤ x2 ∧ x2 ≤ 13) → (13 ≤ x3 ∧ x3 ≤ 13) → Q (none, S'))
    (k1 : ∀ (L' : am_L) (S' : am_S), ax_P0 none S' → rd S' = sg_up (rd S) 61 x2 0 → x2 < 13 → (0 ≤ x1 ∧ x1 ≤ 0) → (0 ≤ x2 ∧ x2 ≤ 12) → (13 ≤ x3 ∧ x3 ≤ 13) → lc L' 0 61 → lj L' 1 0 → li L' 3 (x2 + 1) → li L' 4 13 → am_V none d 260 6 L' ([]) S' Q) : am_V none d 260 6 L ([]) S Q := by
  refine sg_use sg_fh7_b_g hd hP (sg_xs [0, x1, x2, x3]) ⟨⟨Int.le_refl 0, Int.le_refl 0⟩, b1, b2, b3, trivial⟩ trivial trivial trivial ⟨l0, l1, l3, l4, trivial⟩ trivial ?_
  intro z hz x' L' st' S' hx hP' hW hL' hs' hJ hE' hT' hD'
  have q1 : x' 1 = x1 := hx 1 (by decide)
  subst q1
  have q2 : x' 2 = x2 := hx 2 (by decide)
  subst q2
  have q3 : x' 3 = x3 := hx 3 (by decide)
  subst q3
  simp only [sg_fh7_b_Z, List.mem_cons, List.not_mem_nil, or_false] at hz
  rcases hz with rfl | rfl
  · obtain ⟨f0, hσ⟩ := hJ
    obtain ⟨e0, e1, e2, -⟩ := hE'
    intro v hv
    subst hv
    cases v with
    | some _ => exact hs'.elim
    | none =>
      exact k0 S' hP' hσ f0 e0 e1 e2
  · obtain ⟨f0, hσ⟩ := hJ
    obtain ⟨e0, e1, e2, -⟩ := hE'
    obtain ⟨p0, p1, p2, p3, -⟩ := hL'
    obtain rfl := sg_tn hs'
    exact k1 L' S' hP' hσ f0 e0 e1 e2 p0 p1 p2 p3
def sg_fp_a_Z : List sg_z := [(7, [(0, .inr (.inl [62])), (1, .inl (true, (0, .ofNat 0, .ofNat 0))), (3, .inl (false, (0, .ofNat 0, .ofNat 0))), (4, .inl (false, (0, .ofNat 0, .ofNat 25)))], [], [], [(1, [(.ofNat 0, .ofNat 0)])], [], [])]
set_option maxRecDepth 1000000 in
theorem sg_fp_a_g : sg_go [] [6] 3000 260 0 0 2 [(0, [(.ofNat 0, .ofNat 0)]), (1, [(.ofNat 0, .ofNat 0)])] [] [] [] [(0, .inr (.inl [62])), (1, .inl (true, (1, .ofNat 1, .ofNat 0)))] [] [] sg_fp_a_Z = true := by decide +kernel
set_option maxRecDepth 100000 in
theorem sg_fp_a {Q : Option Value × am_S → Prop} {d : Nat} {S : am_S} {L : am_L} {x1 : Int} (hd : 0 ≤ d) (hP : ax_P0 none S) (l0 : lc L 0 62) (l1 : lj L 1 x1) (b1 : (0 ≤ x1 ∧ x1 ≤ 0))
    (k0 : ∀ (L' : am_L), (0 ≤ x1 ∧ x1 ≤ 0) → lc L' 0 62 → lj L' 1 0 → li L' 3 0 → li L' 4 25 → am_V none d 260 6 L' ([]) S Q) : am_V none d 260 0 L ([]) S Q := by
  refine sg_use sg_fp_a_g hd hP (sg_xs [0, x1]) ⟨⟨Int.le_refl 0, Int.le_refl 0⟩, b1, trivial⟩ trivial trivial trivial ⟨l0, l1, trivial⟩ trivial ?_
  intro z hz x' L' st' S' hx hP' hW hL' hs' hJ hE' hT' hD'
  have q1 : x' 1 = x1 := hx 1 (by decide)
  subst q1
  have eS : S' = S := hW.1 rfl
  subst eS
  simp only [sg_fp_a_Z, List.mem_cons, List.not_mem_nil, or_false] at hz
  rcases hz with rfl
  · have hσ := hJ
    obtain ⟨e0, -⟩ := hE'
    obtain ⟨p0, p1, p2, p3, -⟩ := hL'
    obtain rfl := sg_tn hs'
    exact k0 L' e0 p0 p1 p2 p3
def sg_fp_b_Z : List sg_z := [(0, [], [], [(2, 3, (2, .ofNat 1, .ofNat 0), (0, .ofNat 0, .ofNat 25), (0, .ofNat 0, .ofNat 0))], [(1, [(.ofNat 0, .ofNat 0)]), (2, [(.ofNat 25, .ofNat 25)]), (3, [(.ofNat 25, .ofNat 25)])], [], []),
  (7, [(0, .inr (.inl [62])), (1, .inl (true, (0, .ofNat 0, .ofNat 0))), (3, .inl (false, (2, .ofNat 1, .ofNat 1))), (4, .inl (false, (0, .ofNat 0, .ofNat 25)))], [], [(1, 62, (2, .ofNat 1, .ofNat 0), (0, .ofNat 0, .ofNat 0), (0, .ofNat 0, .ofNat 0)), (2, 2, (2, .ofNat 1, .ofNat 0), (0, .ofNat 0, .ofNat 25), (0, .ofNat 0, .ofNat 0))], [(1, [(.ofNat 0, .ofNat 0)]), (2, [(.ofNat 0, .ofNat 24)]), (3, [(.ofNat 25, .ofNat 25)])], [], [])]
set_option maxRecDepth 1000000 in
theorem sg_fp_b_g : sg_go [] [6] 3000 260 6 0 4 [(0, [(.ofNat 0, .ofNat 0)]), (1, [(.ofNat 0, .ofNat 0)]), (2, [(.ofNat 0, .ofNat 25)]), (3, [(.ofNat 25, .ofNat 25)])] [] [] [] [(0, .inr (.inl [62])), (1, .inl (true, (1, .ofNat 1, .ofNat 0))), (3, .inl (false, (2, .ofNat 1, .ofNat 0))), (4, .inl (false, (3, .ofNat 1, .ofNat 0)))] [] [(62, none)] sg_fp_b_Z = true := by decide +kernel
set_option maxRecDepth 100000 in
theorem sg_fp_b {Q : Option Value × am_S → Prop} {d : Nat} {S : am_S} {L : am_L} {x1 x2 x3 : Int} (hd : 0 ≤ d) (hP : ax_P0 none S) (l0 : lc L 0 62) (l1 : lj L 1 x1) (l3 : li L 3 x2) (l4 : li L 4 x3) (b1 : (0 ≤ x1 ∧ x1 ≤ 0)) (b2 : (0 ≤ x2 ∧ x2 ≤ 25)) (b3 : (25 ≤ x3 ∧ x3 ≤ 25))
    (k0 : ∀ (S' : am_S), ax_P0 none S' → rd S' = rd S → 25 ≤ x2 → (0 ≤ x1 ∧ x1 ≤ 0) → (25 ≤ x2 ∧ x2 ≤ 25) → (25 ≤ x3 ∧ x3 ≤ 25) → Q (none, S'))
    (k1 : ∀ (L' : am_L) (S' : am_S), ax_P0 none S' → rd S' = sg_up (rd S) 62 x2 0 → x2 < 25 → (0 ≤ x1 ∧ x1 ≤ 0) → (0 ≤ x2 ∧ x2 ≤ 24) → (25 ≤ x3 ∧ x3 ≤ 25) → lc L' 0 62 → lj L' 1 0 → li L' 3 (x2 + 1) → li L' 4 25 → am_V none d 260 6 L' ([]) S' Q) : am_V none d 260 6 L ([]) S Q := by
  refine sg_use sg_fp_b_g hd hP (sg_xs [0, x1, x2, x3]) ⟨⟨Int.le_refl 0, Int.le_refl 0⟩, b1, b2, b3, trivial⟩ trivial trivial trivial ⟨l0, l1, l3, l4, trivial⟩ trivial ?_
  intro z hz x' L' st' S' hx hP' hW hL' hs' hJ hE' hT' hD'
  have q1 : x' 1 = x1 := hx 1 (by decide)
  subst q1
  have q2 : x' 2 = x2 := hx 2 (by decide)
  subst q2
  have q3 : x' 3 = x3 := hx 3 (by decide)
  subst q3
  simp only [sg_fp_b_Z, List.mem_cons, List.not_mem_nil, or_false] at hz
  rcases hz with rfl | rfl
  · obtain ⟨f0, hσ⟩ := hJ
    obtain ⟨e0, e1, e2, -⟩ := hE'
    intro v hv
    subst hv
    cases v with
    | some _ => exact hs'.elim
    | none =>
      exact k0 S' hP' hσ f0 e0 e1 e2
  · obtain ⟨f0, hσ⟩ := hJ
    obtain ⟨e0, e1, e2, -⟩ := hE'
    obtain ⟨p0, p1, p2, p3, -⟩ := hL'
    obtain rfl := sg_tn hs'
    exact k1 L' S' hP' hσ f0 e0 e1 e2 p0 p1 p2 p3
