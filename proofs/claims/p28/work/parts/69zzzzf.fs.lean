/-! ===== fillings: what happens from place to place (the reference; the answers) ===== -/
def sg_ly_a_Z : List sg_z := [(3, [(0, .inr (.inl [122])), (1, .inl (false, (0, .ofNat 0, .ofNat 0)))], [], [], [], [], [])]
set_option maxRecDepth 1000000 in
theorem sg_ly_a_g : sg_go [] [2] 3000 218 0 0 1 [(0, [(.ofNat 0, .ofNat 0)])] [] [] [] [(0, .inr (.inl [122]))] [] [] sg_ly_a_Z = true := by decide +kernel
set_option maxRecDepth 100000 in
theorem sg_ly_a {Q : Option Value × am_S → Prop} {d : Nat} {S : am_S} {L : am_L} (hd : 0 ≤ d) (hP : ax_P0 none S) (l0 : lc L 0 122)
    (k0 : ∀ (L' : am_L), lc L' 0 122 → li L' 1 0 → am_V none d 218 2 L' ([]) S Q) : am_V none d 218 0 L ([]) S Q := by
  refine sg_use sg_ly_a_g hd hP (sg_xs [0]) ⟨⟨Int.le_refl 0, Int.le_refl 0⟩, trivial⟩ trivial trivial trivial ⟨l0, trivial⟩ trivial ?_
  intro z hz x' L' st' S' hx hP' hW hL' hs' hJ hE' hT' hD'
  have eS : S' = S := hW.1 rfl
  subst eS
  simp only [sg_ly_a_Z, List.mem_cons, List.not_mem_nil, or_false] at hz
  rcases hz with rfl
  · have hσ := hJ
    obtain ⟨p0, p1, -⟩ := hL'
    obtain rfl := sg_tn hs'
    exact k0 L' p0 p1
def sg_ly_b_Z : List sg_z := [(37, [(0, .inr (.inl [122])), (1, .inl (false, (0, .ofNat 0, .ofNat 0)))], [], [(1, 148, (0, .ofNat 0, .ofNat 1012), (0, .ofNat 0, .ofNat 1), (0, .ofNat 0, .ofNat 0)), (2, 3, (1, .ofNat 1, .ofNat 0), (0, .ofNat 0, .ofNat 30375), (0, .ofNat 0, .ofNat 0))], [(1, [(.ofNat 30375, .ofNat 30375)])], [], []),
  (3, [(0, .inr (.inl [122])), (1, .inl (false, (1, .ofNat 1, .ofNat 1)))], [], [(1, 148, (1, .ofNat 1, .ofNat 0), (0, .ofNat 0, .ofNat 0), (0, .ofNat 0, .ofNat 0)), (2, 2, (1, .ofNat 1, .ofNat 0), (0, .ofNat 0, .ofNat 30375), (0, .ofNat 0, .ofNat 0))], [(1, [(.ofNat 0, .ofNat 30374)])], [], [])]
set_option maxRecDepth 1000000 in
theorem sg_ly_b_g : sg_go [] [2, 36] 3000 218 2 1 2 [(0, [(.ofNat 0, .ofNat 0)]), (1, [(.ofNat 0, .ofNat 30375)])] [] [] [] [(0, .inr (.inl [122])), (1, .inl (false, (1, .ofNat 1, .ofNat 0)))] [] [(148, none)] sg_ly_b_Z = true := by decide +kernel
set_option maxRecDepth 100000 in
theorem sg_ly_b {Q : Option Value × am_S → Prop} {d : Nat} {S : am_S} {L : am_L} {x1 : Int} (hd : 1 ≤ d) (hP : ax_P0 none S) (l0 : lc L 0 122) (l1 : li L 1 x1) (b1 : (0 ≤ x1 ∧ x1 ≤ 30375))
    (k0 : ∀ (L' : am_L) (S' : am_S), ax_P0 none S' → rd S' = sg_up (rd S) 148 1012 1 → 30375 ≤ x1 → (30375 ≤ x1 ∧ x1 ≤ 30375) → lc L' 0 122 → li L' 1 0 → am_V none d 218 36 L' ([]) S' Q)
    (k1 : ∀ (L' : am_L) (S' : am_S), ax_P0 none S' → rd S' = sg_up (rd S) 148 x1 0 → x1 < 30375 → (0 ≤ x1 ∧ x1 ≤ 30374) → lc L' 0 122 → li L' 1 (x1 + 1) → am_V none d 218 2 L' ([]) S' Q) : am_V none d 218 2 L ([]) S Q := by
  refine sg_use sg_ly_b_g hd hP (sg_xs [0, x1]) ⟨⟨Int.le_refl 0, Int.le_refl 0⟩, b1, trivial⟩ trivial trivial trivial ⟨l0, l1, trivial⟩ trivial ?_
  intro z hz x' L' st' S' hx hP' hW hL' hs' hJ hE' hT' hD'
  have q1 : x' 1 = x1 := hx 1 (by decide)
  subst q1
  simp only [sg_ly_b_Z, List.mem_cons, List.not_mem_nil, or_false] at hz
  rcases hz with rfl | rfl
  · obtain ⟨f0, hσ⟩ := hJ
    obtain ⟨e0, -⟩ := hE'
    obtain ⟨p0, p1, -⟩ := hL'
    obtain rfl := sg_tn hs'
    exact k0 L' S' hP' hσ f0 e0 p0 p1
  · obtain ⟨f0, hσ⟩ := hJ
    obtain ⟨e0, -⟩ := hE'
    obtain ⟨p0, p1, -⟩ := hL'
    obtain rfl := sg_tn hs'
    exact k1 L' S' hP' hσ f0 e0 p0 p1
def sg_ly_c_Z : List sg_z := [(0, [], [], [(2, 3, (1, .ofNat 1, .ofNat 0), (2, .ofNat 1, .ofNat 0), (0, .ofNat 0, .ofNat 0)), (0, 122, (0, .ofNat 0, .ofNat 34), (2, .ofNat 1, .ofNat 0), (0, .ofNat 0, .ofNat 0))], [(1, [(.ofNat 0, .ofNat 4)]), (2, [(.ofNat 0, .ofNat 4)])], [], []),
  (47, [(0, .inr (.inl [122])), (1, .inl (false, (1, .ofNat 1, .ofNat 0))), (2, .inl (false, (0, .ofNat 0, .ofNat 0)))], [], [(2, 2, (1, .ofNat 1, .ofNat 0), (2, .ofNat 1, .ofNat 0), (0, .ofNat 0, .ofNat 0)), (0, 122, (0, .ofNat 0, .ofNat 34), (2, .ofNat 1, .ofNat 0), (0, .ofNat 0, .ofNat 0))], [(1, [(.ofNat 0, .ofNat 3)]), (2, [(.ofNat 1, .ofNat 4)])], [], [])]
set_option maxRecDepth 1000000 in
theorem sg_ly_c_g : sg_go [] [46] 3000 218 36 0 2 [(0, [(.ofNat 0, .ofNat 0)]), (1, [(.ofNat 0, .ofNat 4)])] [] [] [] [(0, .inr (.inl [122])), (1, .inl (false, (1, .ofNat 1, .ofNat 0)))] [] [] sg_ly_c_Z = true := by decide +kernel
set_option maxRecDepth 100000 in
theorem sg_ly_c {Q : Option Value × am_S → Prop} {d : Nat} {S : am_S} {L : am_L} {x1 : Int} (hd : 0 ≤ d) (hP : ax_P0 none S) (l0 : lc L 0 122) (l1 : li L 1 x1) (b1 : (0 ≤ x1 ∧ x1 ≤ 4))
    (k0 : ∀ (x2 : Int), rd S 122 34 = x2 → x2 ≤ x1 → (0 ≤ x1 ∧ x1 ≤ 4) → (0 ≤ x2 ∧ x2 ≤ 4) → Q (none, S))
    (k1 : ∀ (x2 : Int) (L' : am_L), rd S 122 34 = x2 → x1 < x2 → (0 ≤ x1 ∧ x1 ≤ 3) → (1 ≤ x2 ∧ x2 ≤ 4) → lc L' 0 122 → li L' 1 x1 → li L' 2 0 → am_V none d 218 46 L' ([]) S Q) : am_V none d 218 36 L ([]) S Q := by
  refine sg_use sg_ly_c_g hd hP (sg_xs [0, x1]) ⟨⟨Int.le_refl 0, Int.le_refl 0⟩, b1, trivial⟩ trivial trivial trivial ⟨l0, l1, trivial⟩ trivial ?_
  intro z hz x' L' st' S' hx hP' hW hL' hs' hJ hE' hT' hD'
  have q1 : x' 1 = x1 := hx 1 (by decide)
  subst q1
  have eS : S' = S := hW.1 rfl
  subst eS
  simp only [sg_ly_c_Z, List.mem_cons, List.not_mem_nil, or_false] at hz
  rcases hz with rfl | rfl
  · obtain ⟨f0, f1, hσ⟩ := hJ
    obtain ⟨e0, e1, -⟩ := hE'
    intro v hv
    subst hv
    cases v with
    | some _ => exact hs'.elim
    | none =>
      exact k0 (x' 2) f0 f1 e0 e1
  · obtain ⟨f0, f1, hσ⟩ := hJ
    obtain ⟨e0, e1, -⟩ := hE'
    obtain ⟨p0, p1, p2, -⟩ := hL'
    obtain rfl := sg_tn hs'
    exact k1 (x' 2) L' f0 f1 e0 e1 p0 p1 p2
def sg_ly_d_Z : List sg_z := [(100, [(0, .inr (.inl [122])), (1, .inl (false, (1, .ofNat 1, .ofNat 0))), (2, .inl (false, (0, .ofNat 0, .ofNat 0)))], [], [(2, 3, (2, .ofNat 1, .ofNat 0), (3, .ofNat 4, .ofNat 2), (0, .ofNat 0, .ofNat 0)), (0, 143, (1, .ofNat 1, .ofNat 0), (3, .ofNat 1, .ofNat 0), (0, .ofNat 0, .ofNat 0))], [(1, [(.ofNat 0, .ofNat 3)]), (2, [(.ofNat 2, .ofNat 14)]), (3, [(.ofNat 0, .ofNat 3)])], [], []),
  (89, [(0, .inr (.inl [122])), (1, .inl (false, (1, .ofNat 1, .ofNat 0))), (2, .inl (false, (2, .ofNat 1, .ofNat 0)))], [.inl (false, (7, .ofNat 1, .ofNat 0)), .inl (false, (0, .ofNat 0, .negSucc 0)), .inl (false, (5, .ofNat 1, .ofNat 0)), .inr (.inl [122])], [(0, 144, (1, .ofNat 1, .ofNat 0), (7, .ofNat 1, .ofNat 0), (0, .ofNat 0, .ofNat 0)), (2, 1, (6, .ofNat 1, .ofNat 0), (0, .ofNat 0, .ofNat 0), (0, .ofNat 0, .ofNat 0)), (3, 2, (2, .ofNat 1, .ofNat 0), (0, .ofNat 0, .ofNat 2), (6, .ofNat 1, .ofNat 0)), (0, 143, (1, .ofNat 1, .ofNat 0), (3, .ofNat 1, .ofNat 0), (0, .ofNat 0, .ofNat 0)), (3, 1, (2, .ofNat 1, .ofNat 0), (0, .ofNat 0, .ofNat 2), (4, .ofNat 1, .ofNat 0)), (2, 2, (2, .ofNat 1, .ofNat 0), (3, .ofNat 4, .ofNat 2), (0, .ofNat 0, .ofNat 0)), (0, 143, (1, .ofNat 1, .ofNat 0), (3, .ofNat 1, .ofNat 0), (0, .ofNat 0, .ofNat 0))], [(1, [(.ofNat 0, .ofNat 3)]), (2, [(.ofNat 0, .ofNat 13)]), (3, [(.ofNat 0, .ofNat 3)]), (4, [(.ofNat 0, .ofNat 6)]), (5, [(.negSucc 2, .ofNat 6)]), (6, [(.ofNat 1, .ofNat 1)]), (7, [(.ofNat 0, .ofNat 14)])], [((4, .ofNat 1, .ofNat 0), (3, .negSucc 0, .ofNat 0), (5, .ofNat 1, .ofNat 0))], []),
  (89, [(0, .inr (.inl [122])), (1, .inl (false, (1, .ofNat 1, .ofNat 0))), (2, .inl (false, (2, .ofNat 1, .ofNat 0)))], [.inl (false, (7, .ofNat 1, .ofNat 0)), .inl (false, (0, .ofNat 0, .ofNat 1)), .inl (false, (5, .ofNat 1, .ofNat 0)), .inr (.inl [122])], [(0, 144, (1, .ofNat 1, .ofNat 0), (7, .ofNat 1, .ofNat 0), (0, .ofNat 0, .ofNat 0)), (2, 0, (6, .ofNat 1, .ofNat 0), (0, .ofNat 0, .ofNat 0), (0, .ofNat 0, .ofNat 0)), (3, 2, (2, .ofNat 1, .ofNat 0), (0, .ofNat 0, .ofNat 2), (6, .ofNat 1, .ofNat 0)), (0, 143, (1, .ofNat 1, .ofNat 0), (3, .ofNat 1, .ofNat 0), (0, .ofNat 0, .ofNat 0)), (3, 1, (2, .ofNat 1, .ofNat 0), (0, .ofNat 0, .ofNat 2), (4, .ofNat 1, .ofNat 0)), (2, 2, (2, .ofNat 1, .ofNat 0), (3, .ofNat 4, .ofNat 2), (0, .ofNat 0, .ofNat 0)), (0, 143, (1, .ofNat 1, .ofNat 0), (3, .ofNat 1, .ofNat 0), (0, .ofNat 0, .ofNat 0))], [(1, [(.ofNat 0, .ofNat 3)]), (2, [(.ofNat 0, .ofNat 13)]), (3, [(.ofNat 0, .ofNat 3)]), (4, [(.ofNat 0, .ofNat 6)]), (5, [(.negSucc 2, .ofNat 6)]), (6, [(.ofNat 0, .ofNat 0)]), (7, [(.ofNat 0, .ofNat 14)])], [((4, .ofNat 1, .ofNat 0), (3, .negSucc 0, .ofNat 0), (5, .ofNat 1, .ofNat 0))], [])]
set_option maxRecDepth 1000000 in
theorem sg_ly_d_g : sg_go [] [88, 99] 3000 218 46 0 3 [(0, [(.ofNat 0, .ofNat 0)]), (1, [(.ofNat 0, .ofNat 3)]), (2, [(.ofNat 0, .ofNat 14)])] [] [] [] [(0, .inr (.inl [122])), (1, .inl (false, (1, .ofNat 1, .ofNat 0))), (2, .inl (false, (2, .ofNat 1, .ofNat 0)))] [] [] sg_ly_d_Z = true := by decide +kernel
set_option maxRecDepth 100000 in
theorem sg_ly_d {Q : Option Value × am_S → Prop} {d : Nat} {S : am_S} {L : am_L} {x1 x2 : Int} (hd : 0 ≤ d) (hP : ax_P0 none S) (l0 : lc L 0 122) (l1 : li L 1 x1) (l2 : li L 2 x2) (b1 : (0 ≤ x1 ∧ x1 ≤ 3)) (b2 : (0 ≤ x2 ∧ x2 ≤ 14))
    (k0 : ∀ (x3 : Int) (L' : am_L), rd S 143 x1 = x3 → 4 * x3 + 2 ≤ x2 → (0 ≤ x1 ∧ x1 ≤ 3) → (2 ≤ x2 ∧ x2 ≤ 14) → (0 ≤ x3 ∧ x3 ≤ 3) → lc L' 0 122 → li L' 1 x1 → li L' 2 0 → am_V none d 218 99 L' ([]) S Q)
    (k1 : ∀ (x3 x4 x5 x6 x7 : Int) (L' : am_L) (i1 : Int32) (i2 : Int32) (i3 : Int32), rd S 143 x1 = x3 → x2 < 4 * x3 + 2 → (∃ a b : Int32, a.toInt = x2 ∧ b.toInt = 2 ∧ (a / b).toInt = x4) → (∃ a b : Int32, a.toInt = x2 ∧ b.toInt = 2 ∧ (a - a / b * b).toInt = x6) → x6 ≠ 0 → rd S 144 x1 = x7 → (0 ≤ x1 ∧ x1 ≤ 3) → (0 ≤ x2 ∧ x2 ≤ 13) → (0 ≤ x3 ∧ x3 ≤ 3) → (0 ≤ x4 ∧ x4 ≤ 6) → ((-3) ≤ x5 ∧ x5 ≤ 6) → (1 ≤ x6 ∧ x6 ≤ 1) → (0 ≤ x7 ∧ x7 ≤ 14) → x4 + ((-1) * x3 + 0) = x5 → lc L' 0 122 → li L' 1 x1 → li L' 2 x2 → i1.toInt = x7 → i2.toInt = (-1) → i3.toInt = x5 → am_V none d 218 88 L' ((.int i1) :: (.int i2) :: (.int i3) :: (.ref 122) :: []) S Q)
    (k2 : ∀ (x3 x4 x5 x6 x7 : Int) (L' : am_L) (i1 : Int32) (i2 : Int32) (i3 : Int32), rd S 143 x1 = x3 → x2 < 4 * x3 + 2 → (∃ a b : Int32, a.toInt = x2 ∧ b.toInt = 2 ∧ (a / b).toInt = x4) → (∃ a b : Int32, a.toInt = x2 ∧ b.toInt = 2 ∧ (a - a / b * b).toInt = x6) → x6 = 0 → rd S 144 x1 = x7 → (0 ≤ x1 ∧ x1 ≤ 3) → (0 ≤ x2 ∧ x2 ≤ 13) → (0 ≤ x3 ∧ x3 ≤ 3) → (0 ≤ x4 ∧ x4 ≤ 6) → ((-3) ≤ x5 ∧ x5 ≤ 6) → (0 ≤ x6 ∧ x6 ≤ 0) → (0 ≤ x7 ∧ x7 ≤ 14) → x4 + ((-1) * x3 + 0) = x5 → lc L' 0 122 → li L' 1 x1 → li L' 2 x2 → i1.toInt = x7 → i2.toInt = 1 → i3.toInt = x5 → am_V none d 218 88 L' ((.int i1) :: (.int i2) :: (.int i3) :: (.ref 122) :: []) S Q) : am_V none d 218 46 L ([]) S Q := by
  refine sg_use sg_ly_d_g hd hP (sg_xs [0, x1, x2]) ⟨⟨Int.le_refl 0, Int.le_refl 0⟩, b1, b2, trivial⟩ trivial trivial trivial ⟨l0, l1, l2, trivial⟩ trivial ?_
  intro z hz x' L' st' S' hx hP' hW hL' hs' hJ hE' hT' hD'
  have q1 : x' 1 = x1 := hx 1 (by decide)
  subst q1
  have q2 : x' 2 = x2 := hx 2 (by decide)
  subst q2
  have eS : S' = S := hW.1 rfl
  subst eS
  simp only [sg_ly_d_Z, List.mem_cons, List.not_mem_nil, or_false] at hz
  rcases hz with rfl | rfl | rfl
  · obtain ⟨f0, f1, hσ⟩ := hJ
    obtain ⟨e0, e1, e2, -⟩ := hE'
    obtain ⟨p0, p1, p2, -⟩ := hL'
    obtain rfl := sg_tn hs'
    exact k0 (x' 3) L' f0 f1 e0 e1 e2 p0 p1 p2
  · obtain ⟨f0, f1, f2, -, f4, f5, f6, hσ⟩ := hJ
    obtain ⟨e0, e1, e2, e3, e4, e5, e6, -⟩ := hE'
    obtain ⟨t0, -⟩ := hT'
    obtain ⟨p0, p1, p2, -⟩ := hL'
    obtain ⟨v1, r1, rfl, ⟨i1, rfl, g1⟩, hs1⟩ := sg_tc hs'
    obtain ⟨v2, r2, rfl, ⟨i2, rfl, g2⟩, hs2⟩ := sg_tc hs1
    obtain ⟨v3, r3, rfl, ⟨i3, rfl, g3⟩, hs3⟩ := sg_tc hs2
    obtain ⟨v4, r4, rfl, rfl, hs4⟩ := sg_tc hs3
    obtain rfl := sg_tn hs4
    exact k1 (x' 3) (x' 4) (x' 5) (x' 6) (x' 7) L' i1 i2 i3 f0 f1 f2 f4 f5 f6 e0 e1 e2 e3 e4 e5 e6 t0 p0 p1 p2 g1 g2 g3
  · obtain ⟨f0, f1, f2, -, f4, f5, f6, hσ⟩ := hJ
    obtain ⟨e0, e1, e2, e3, e4, e5, e6, -⟩ := hE'
    obtain ⟨t0, -⟩ := hT'
    obtain ⟨p0, p1, p2, -⟩ := hL'
    obtain ⟨v1, r1, rfl, ⟨i1, rfl, g1⟩, hs1⟩ := sg_tc hs'
    obtain ⟨v2, r2, rfl, ⟨i2, rfl, g2⟩, hs2⟩ := sg_tc hs1
    obtain ⟨v3, r3, rfl, ⟨i3, rfl, g3⟩, hs3⟩ := sg_tc hs2
    obtain ⟨v4, r4, rfl, rfl, hs4⟩ := sg_tc hs3
    obtain rfl := sg_tn hs4
    exact k2 (x' 3) (x' 4) (x' 5) (x' 6) (x' 7) L' i1 i2 i3 f0 f1 f2 f4 f5 f6 e0 e1 e2 e3 e4 e5 e6 t0 p0 p1 p2 g1 g2 g3
def sg_ly_e_Z : List sg_z := [(47, [(0, .inr (.inl [122])), (1, .inl (false, (1, .ofNat 1, .ofNat 0))), (2, .inl (false, (2, .ofNat 1, .ofNat 1)))], [], [], [(1, [(.ofNat 0, .ofNat 3)]), (2, [(.ofNat 0, .ofNat 13)])], [], [])]
set_option maxRecDepth 1000000 in
theorem sg_ly_e_g : sg_go [] [46] 3000 218 91 0 3 [(0, [(.ofNat 0, .ofNat 0)]), (1, [(.ofNat 0, .ofNat 3)]), (2, [(.ofNat 0, .ofNat 13)])] [] [] [] [(0, .inr (.inl [122])), (1, .inl (false, (1, .ofNat 1, .ofNat 0))), (2, .inl (false, (2, .ofNat 1, .ofNat 0)))] [] [] sg_ly_e_Z = true := by decide +kernel
set_option maxRecDepth 100000 in
theorem sg_ly_e {Q : Option Value × am_S → Prop} {d : Nat} {S : am_S} {L : am_L} {x1 x2 : Int} (hd : 0 ≤ d) (hP : ax_P0 none S) (l0 : lc L 0 122) (l1 : li L 1 x1) (l2 : li L 2 x2) (b1 : (0 ≤ x1 ∧ x1 ≤ 3)) (b2 : (0 ≤ x2 ∧ x2 ≤ 13))
    (k0 : ∀ (L' : am_L), (0 ≤ x1 ∧ x1 ≤ 3) → (0 ≤ x2 ∧ x2 ≤ 13) → lc L' 0 122 → li L' 1 x1 → li L' 2 (x2 + 1) → am_V none d 218 46 L' ([]) S Q) : am_V none d 218 91 L ([]) S Q := by
  refine sg_use sg_ly_e_g hd hP (sg_xs [0, x1, x2]) ⟨⟨Int.le_refl 0, Int.le_refl 0⟩, b1, b2, trivial⟩ trivial trivial trivial ⟨l0, l1, l2, trivial⟩ trivial ?_
  intro z hz x' L' st' S' hx hP' hW hL' hs' hJ hE' hT' hD'
  have q1 : x' 1 = x1 := hx 1 (by decide)
  subst q1
  have q2 : x' 2 = x2 := hx 2 (by decide)
  subst q2
  have eS : S' = S := hW.1 rfl
  subst eS
  simp only [sg_ly_e_Z, List.mem_cons, List.not_mem_nil, or_false] at hz
  rcases hz with rfl
  · have hσ := hJ
    obtain ⟨e0, e1, -⟩ := hE'
    obtain ⟨p0, p1, p2, -⟩ := hL'
    obtain rfl := sg_tn hs'
    exact k0 L' e0 e1 p0 p1 p2
def sg_ly_f_Z : List sg_z := [(140, [(0, .inr (.inl [122])), (1, .inl (false, (1, .ofNat 1, .ofNat 0))), (2, .inl (false, (0, .ofNat 0, .ofNat 2025)))], [], [(2, 3, (2, .ofNat 1, .ofNat 0), (0, .ofNat 0, .ofNat 2025), (0, .ofNat 0, .ofNat 0))], [(1, [(.ofNat 0, .ofNat 3)]), (2, [(.ofNat 2025, .ofNat 2025)])], [], []),
  (100, [(0, .inr (.inl [122])), (1, .inl (false, (1, .ofNat 1, .ofNat 0))), (2, .inl (false, (2, .ofNat 1, .ofNat 1)))], [], [(1, 148, (2, .ofNat 1, .ofNat 0), (5, .ofNat 1, .ofNat 0), (0, .ofNat 0, .ofNat 0)), (0, 148, (4, .ofNat 1, .ofNat 0), (5, .ofNat 1, .ofNat 0), (0, .ofNat 0, .ofNat 0)), (0, 144, (1, .ofNat 1, .ofNat 0), (3, .ofNat 1, .ofNat 0), (0, .ofNat 0, .ofNat 0)), (2, 2, (2, .ofNat 1, .ofNat 0), (0, .ofNat 0, .ofNat 2025), (0, .ofNat 0, .ofNat 0))], [(1, [(.ofNat 0, .ofNat 3)]), (2, [(.ofNat 0, .ofNat 2024)]), (3, [(.ofNat 0, .ofNat 14)]), (4, [(.ofNat 0, .ofNat 30374)])], [((3, .ofNat 2025, .ofNat 0), (2, .ofNat 1, .ofNat 0), (4, .ofNat 1, .ofNat 0))], [])]
set_option maxRecDepth 1000000 in
theorem sg_ly_f_g : sg_go [] [99, 139] 3000 218 99 0 3 [(0, [(.ofNat 0, .ofNat 0)]), (1, [(.ofNat 0, .ofNat 3)]), (2, [(.ofNat 0, .ofNat 2025)])] [] [] [] [(0, .inr (.inl [122])), (1, .inl (false, (1, .ofNat 1, .ofNat 0))), (2, .inl (false, (2, .ofNat 1, .ofNat 0)))] [] [(148, none)] sg_ly_f_Z = true := by decide +kernel
set_option maxRecDepth 100000 in
theorem sg_ly_f {Q : Option Value × am_S → Prop} {d : Nat} {S : am_S} {L : am_L} {x1 x2 : Int} (hd : 0 ≤ d) (hP : ax_P0 none S) (l0 : lc L 0 122) (l1 : li L 1 x1) (l2 : li L 2 x2) (b1 : (0 ≤ x1 ∧ x1 ≤ 3)) (b2 : (0 ≤ x2 ∧ x2 ≤ 2025))
    (k0 : ∀ (L' : am_L) (S' : am_S), ax_P0 none S' → rd S' = rd S → 2025 ≤ x2 → (0 ≤ x1 ∧ x1 ≤ 3) → (2025 ≤ x2 ∧ x2 ≤ 2025) → lc L' 0 122 → li L' 1 x1 → li L' 2 2025 → am_V none d 218 139 L' ([]) S' Q)
    (k1 : ∀ (x3 x4 x5 : Int) (L' : am_L) (S' : am_S), ax_P0 none S' → rd S' = sg_up (rd S) 148 x2 x5 → x2 < 2025 → rd S 144 x1 = x3 → rd S 148 x4 = x5 → (0 ≤ x1 ∧ x1 ≤ 3) → (0 ≤ x2 ∧ x2 ≤ 2024) → (0 ≤ x3 ∧ x3 ≤ 14) → (0 ≤ x4 ∧ x4 ≤ 30374) → (2025 * x3 + 0) + x2 = x4 → lc L' 0 122 → li L' 1 x1 → li L' 2 (x2 + 1) → am_V none d 218 99 L' ([]) S' Q) : am_V none d 218 99 L ([]) S Q := by
  refine sg_use sg_ly_f_g hd hP (sg_xs [0, x1, x2]) ⟨⟨Int.le_refl 0, Int.le_refl 0⟩, b1, b2, trivial⟩ trivial trivial trivial ⟨l0, l1, l2, trivial⟩ trivial ?_
  intro z hz x' L' st' S' hx hP' hW hL' hs' hJ hE' hT' hD'
  have q1 : x' 1 = x1 := hx 1 (by decide)
  subst q1
  have q2 : x' 2 = x2 := hx 2 (by decide)
  subst q2
  simp only [sg_ly_f_Z, List.mem_cons, List.not_mem_nil, or_false] at hz
  rcases hz with rfl | rfl
  · obtain ⟨f0, hσ⟩ := hJ
    obtain ⟨e0, e1, -⟩ := hE'
    obtain ⟨p0, p1, p2, -⟩ := hL'
    obtain rfl := sg_tn hs'
    exact k0 L' S' hP' hσ f0 e0 e1 p0 p1 p2
  · obtain ⟨f0, f1, f2, hσ⟩ := hJ
    obtain ⟨e0, e1, e2, e3, -⟩ := hE'
    obtain ⟨t0, -⟩ := hT'
    obtain ⟨p0, p1, p2, -⟩ := hL'
    obtain rfl := sg_tn hs'
    exact k1 (x' 3) (x' 4) (x' 5) L' S' hP' hσ f0 f1 f2 e0 e1 e2 e3 t0 p0 p1 p2
def sg_ly_g_Z : List sg_z := [(37, [(0, .inr (.inl [122])), (1, .inl (false, (1, .ofNat 1, .ofNat 1))), (2, .inl (false, (0, .ofNat 0, .ofNat 30375)))], [], [(2, 3, (2, .ofNat 1, .ofNat 0), (0, .ofNat 0, .ofNat 30375), (0, .ofNat 0, .ofNat 0))], [(1, [(.ofNat 0, .ofNat 3)]), (2, [(.ofNat 30375, .ofNat 30375)])], [], []),
  (140, [(0, .inr (.inl [122])), (1, .inl (false, (1, .ofNat 1, .ofNat 0))), (2, .inl (false, (2, .ofNat 1, .ofNat 1)))], [], [(1, 148, (2, .ofNat 1, .ofNat 0), (0, .ofNat 0, .ofNat 0), (0, .ofNat 0, .ofNat 0)), (2, 2, (2, .ofNat 1, .ofNat 0), (0, .ofNat 0, .ofNat 30375), (0, .ofNat 0, .ofNat 0))], [(1, [(.ofNat 0, .ofNat 3)]), (2, [(.ofNat 2025, .ofNat 30374)])], [], [])]
set_option maxRecDepth 1000000 in
theorem sg_ly_g_g : sg_go [] [139, 36] 3000 218 139 0 3 [(0, [(.ofNat 0, .ofNat 0)]), (1, [(.ofNat 0, .ofNat 3)]), (2, [(.ofNat 2025, .ofNat 30375)])] [] [] [] [(0, .inr (.inl [122])), (1, .inl (false, (1, .ofNat 1, .ofNat 0))), (2, .inl (false, (2, .ofNat 1, .ofNat 0)))] [] [(148, none)] sg_ly_g_Z = true := by decide +kernel
set_option maxRecDepth 100000 in
theorem sg_ly_g {Q : Option Value × am_S → Prop} {d : Nat} {S : am_S} {L : am_L} {x1 x2 : Int} (hd : 0 ≤ d) (hP : ax_P0 none S) (l0 : lc L 0 122) (l1 : li L 1 x1) (l2 : li L 2 x2) (b1 : (0 ≤ x1 ∧ x1 ≤ 3)) (b2 : (2025 ≤ x2 ∧ x2 ≤ 30375))
    (k0 : ∀ (L' : am_L) (S' : am_S), ax_P0 none S' → rd S' = rd S → 30375 ≤ x2 → (0 ≤ x1 ∧ x1 ≤ 3) → (30375 ≤ x2 ∧ x2 ≤ 30375) → lc L' 0 122 → li L' 1 (x1 + 1) → li L' 2 30375 → am_V none d 218 36 L' ([]) S' Q)
    (k1 : ∀ (L' : am_L) (S' : am_S), ax_P0 none S' → rd S' = sg_up (rd S) 148 x2 0 → x2 < 30375 → (0 ≤ x1 ∧ x1 ≤ 3) → (2025 ≤ x2 ∧ x2 ≤ 30374) → lc L' 0 122 → li L' 1 x1 → li L' 2 (x2 + 1) → am_V none d 218 139 L' ([]) S' Q) : am_V none d 218 139 L ([]) S Q := by
  refine sg_use sg_ly_g_g hd hP (sg_xs [0, x1, x2]) ⟨⟨Int.le_refl 0, Int.le_refl 0⟩, b1, b2, trivial⟩ trivial trivial trivial ⟨l0, l1, l2, trivial⟩ trivial ?_
  intro z hz x' L' st' S' hx hP' hW hL' hs' hJ hE' hT' hD'
  have q1 : x' 1 = x1 := hx 1 (by decide)
  subst q1
  have q2 : x' 2 = x2 := hx 2 (by decide)
  subst q2
  simp only [sg_ly_g_Z, List.mem_cons, List.not_mem_nil, or_false] at hz
  rcases hz with rfl | rfl
  · obtain ⟨f0, hσ⟩ := hJ
    obtain ⟨e0, e1, -⟩ := hE'
    obtain ⟨p0, p1, p2, -⟩ := hL'
    obtain rfl := sg_tn hs'
    exact k0 L' S' hP' hσ f0 e0 e1 p0 p1 p2
  · obtain ⟨f0, hσ⟩ := hJ
    obtain ⟨e0, e1, -⟩ := hE'
    obtain ⟨p0, p1, p2, -⟩ := hL'
    obtain rfl := sg_tn hs'
    exact k1 L' S' hP' hσ f0 e0 e1 p0 p1 p2
def sg_op_a_Z : List sg_z := [(6, [(0, .inr (.inl [122])), (1, .inl (false, (1, .ofNat 1, .ofNat 0))), (2, .inl (false, (2, .ofNat 1, .ofNat 0))), (3, .inl (false, (3, .ofNat 1, .ofNat 0))), (4, .inl (false, (3, .ofNat 1, .negSucc 0)))], [], [], [(1, [(.negSucc 2, .ofNat 3)]), (2, [(.negSucc 0, .ofNat 1)]), (3, [(.ofNat 1, .ofNat 12)])], [], [])]
set_option maxRecDepth 1000000 in
theorem sg_op_a_g : sg_go [] [5] 3000 219 0 0 4 [(0, [(.ofNat 0, .ofNat 0)]), (1, [(.negSucc 2, .ofNat 3)]), (2, [(.negSucc 0, .ofNat 1)]), (3, [(.ofNat 1, .ofNat 12)])] [] [] [] [(0, .inr (.inl [122])), (1, .inl (false, (1, .ofNat 1, .ofNat 0))), (2, .inl (false, (2, .ofNat 1, .ofNat 0))), (3, .inl (false, (3, .ofNat 1, .ofNat 0)))] [] [] sg_op_a_Z = true := by decide +kernel
set_option maxRecDepth 100000 in
theorem sg_op_a {Q : Option Value × am_S → Prop} {d : Nat} {S : am_S} {L : am_L} {x1 x2 x3 : Int} (hd : 0 ≤ d) (hP : ax_P0 none S) (l0 : lc L 0 122) (l1 : li L 1 x1) (l2 : li L 2 x2) (l3 : li L 3 x3) (b1 : ((-3) ≤ x1 ∧ x1 ≤ 3)) (b2 : ((-1) ≤ x2 ∧ x2 ≤ 1)) (b3 : (1 ≤ x3 ∧ x3 ≤ 12))
    (k0 : ∀ (L' : am_L), ((-3) ≤ x1 ∧ x1 ≤ 3) → ((-1) ≤ x2 ∧ x2 ≤ 1) → (1 ≤ x3 ∧ x3 ≤ 12) → lc L' 0 122 → li L' 1 x1 → li L' 2 x2 → li L' 3 x3 → li L' 4 (x3 + (-1)) → am_V none d 219 5 L' ([]) S Q) : am_V none d 219 0 L ([]) S Q := by
  refine sg_use sg_op_a_g hd hP (sg_xs [0, x1, x2, x3]) ⟨⟨Int.le_refl 0, Int.le_refl 0⟩, b1, b2, b3, trivial⟩ trivial trivial trivial ⟨l0, l1, l2, l3, trivial⟩ trivial ?_
  intro z hz x' L' st' S' hx hP' hW hL' hs' hJ hE' hT' hD'
  have q1 : x' 1 = x1 := hx 1 (by decide)
  subst q1
  have q2 : x' 2 = x2 := hx 2 (by decide)
  subst q2
  have q3 : x' 3 = x3 := hx 3 (by decide)
  subst q3
  have eS : S' = S := hW.1 rfl
  subst eS
  simp only [sg_op_a_Z, List.mem_cons, List.not_mem_nil, or_false] at hz
  rcases hz with rfl
  · have hσ := hJ
    obtain ⟨e0, e1, e2, -⟩ := hE'
    obtain ⟨p0, p1, p2, p3, p4, -⟩ := hL'
    obtain rfl := sg_tn hs'
    exact k0 L' e0 e1 e2 p0 p1 p2 p3 p4
def sg_op_b_Z : List sg_z := [(0, [], [], [(2, 2, (4, .ofNat 1, .ofNat 0), (0, .ofNat 0, .ofNat 0), (0, .ofNat 0, .ofNat 0))], [(1, [(.negSucc 2, .ofNat 3)]), (2, [(.negSucc 0, .ofNat 1)]), (3, [(.ofNat 1, .ofNat 12)]), (4, [(.negSucc 0, .negSucc 0)])], [], []),
  (15, [(0, .inr (.inl [122])), (1, .inl (false, (1, .ofNat 1, .ofNat 0))), (2, .inl (false, (2, .ofNat 1, .ofNat 0))), (3, .inl (false, (3, .ofNat 1, .ofNat 0))), (4, .inl (false, (4, .ofNat 1, .ofNat 0))), (5, .inl (false, (0, .ofNat 0, .negSucc 39)))], [], [(2, 3, (4, .ofNat 1, .ofNat 0), (0, .ofNat 0, .ofNat 0), (0, .ofNat 0, .ofNat 0))], [(1, [(.negSucc 2, .ofNat 3)]), (2, [(.negSucc 0, .ofNat 1)]), (3, [(.ofNat 1, .ofNat 12)]), (4, [(.ofNat 0, .ofNat 11)])], [], [])]
set_option maxRecDepth 1000000 in
theorem sg_op_b_g : sg_go [] [14] 3000 219 5 0 5 [(0, [(.ofNat 0, .ofNat 0)]), (1, [(.negSucc 2, .ofNat 3)]), (2, [(.negSucc 0, .ofNat 1)]), (3, [(.ofNat 1, .ofNat 12)]), (4, [(.negSucc 0, .ofNat 11)])] [] [] [] [(0, .inr (.inl [122])), (1, .inl (false, (1, .ofNat 1, .ofNat 0))), (2, .inl (false, (2, .ofNat 1, .ofNat 0))), (3, .inl (false, (3, .ofNat 1, .ofNat 0))), (4, .inl (false, (4, .ofNat 1, .ofNat 0)))] [] [] sg_op_b_Z = true := by decide +kernel
set_option maxRecDepth 100000 in
theorem sg_op_b {Q : Option Value × am_S → Prop} {d : Nat} {S : am_S} {L : am_L} {x1 x2 x3 x4 : Int} (hd : 0 ≤ d) (hP : ax_P0 none S) (l0 : lc L 0 122) (l1 : li L 1 x1) (l2 : li L 2 x2) (l3 : li L 3 x3) (l4 : li L 4 x4) (b1 : ((-3) ≤ x1 ∧ x1 ≤ 3)) (b2 : ((-1) ≤ x2 ∧ x2 ≤ 1)) (b3 : (1 ≤ x3 ∧ x3 ≤ 12)) (b4 : ((-1) ≤ x4 ∧ x4 ≤ 11))
    (k0 : x4 < 0 → ((-3) ≤ x1 ∧ x1 ≤ 3) → ((-1) ≤ x2 ∧ x2 ≤ 1) → (1 ≤ x3 ∧ x3 ≤ 12) → ((-1) ≤ x4 ∧ x4 ≤ (-1)) → Q (none, S))
    (k1 : ∀ (L' : am_L), 0 ≤ x4 → ((-3) ≤ x1 ∧ x1 ≤ 3) → ((-1) ≤ x2 ∧ x2 ≤ 1) → (1 ≤ x3 ∧ x3 ≤ 12) → (0 ≤ x4 ∧ x4 ≤ 11) → lc L' 0 122 → li L' 1 x1 → li L' 2 x2 → li L' 3 x3 → li L' 4 x4 → li L' 5 (-40) → am_V none d 219 14 L' ([]) S Q) : am_V none d 219 5 L ([]) S Q := by
  refine sg_use sg_op_b_g hd hP (sg_xs [0, x1, x2, x3, x4]) ⟨⟨Int.le_refl 0, Int.le_refl 0⟩, b1, b2, b3, b4, trivial⟩ trivial trivial trivial ⟨l0, l1, l2, l3, l4, trivial⟩ trivial ?_
  intro z hz x' L' st' S' hx hP' hW hL' hs' hJ hE' hT' hD'
  have q1 : x' 1 = x1 := hx 1 (by decide)
  subst q1
  have q2 : x' 2 = x2 := hx 2 (by decide)
  subst q2
  have q3 : x' 3 = x3 := hx 3 (by decide)
  subst q3
  have q4 : x' 4 = x4 := hx 4 (by decide)
  subst q4
  have eS : S' = S := hW.1 rfl
  subst eS
  simp only [sg_op_b_Z, List.mem_cons, List.not_mem_nil, or_false] at hz
  rcases hz with rfl | rfl
  · obtain ⟨f0, hσ⟩ := hJ
    obtain ⟨e0, e1, e2, e3, -⟩ := hE'
    intro v hv
    subst hv
    cases v with
    | some _ => exact hs'.elim
    | none =>
      exact k0 f0 e0 e1 e2 e3
  · obtain ⟨f0, hσ⟩ := hJ
    obtain ⟨e0, e1, e2, e3, -⟩ := hE'
    obtain ⟨p0, p1, p2, p3, p4, p5, -⟩ := hL'
    obtain rfl := sg_tn hs'
    exact k1 L' f0 e0 e1 e2 e3 p0 p1 p2 p3 p4 p5
def sg_op_c_Z : List sg_z := [(6, [(0, .inr (.inl [122])), (1, .inl (false, (1, .ofNat 1, .ofNat 0))), (2, .inl (false, (2, .ofNat 1, .ofNat 0))), (3, .inl (false, (3, .ofNat 1, .ofNat 0))), (4, .inl (false, (4, .ofNat 1, .negSucc 0))), (5, .inl (false, (0, .ofNat 0, .ofNat 41)))], [], [(2, 4, (5, .ofNat 1, .ofNat 0), (0, .ofNat 0, .ofNat 40), (0, .ofNat 0, .ofNat 0))], [(1, [(.negSucc 2, .ofNat 3)]), (2, [(.negSucc 0, .ofNat 1)]), (3, [(.ofNat 1, .ofNat 12)]), (4, [(.ofNat 0, .ofNat 11)]), (5, [(.ofNat 41, .ofNat 41)])], [], []),
  (26, [(0, .inr (.inl [122])), (1, .inl (false, (1, .ofNat 1, .ofNat 0))), (2, .inl (false, (2, .ofNat 1, .ofNat 0))), (3, .inl (false, (3, .ofNat 1, .ofNat 0))), (4, .inl (false, (4, .ofNat 1, .ofNat 0))), (5, .inl (false, (5, .ofNat 1, .ofNat 0))), (6, .inl (false, (0, .ofNat 0, .negSucc 11)))], [], [(2, 5, (5, .ofNat 1, .ofNat 0), (0, .ofNat 0, .ofNat 40), (0, .ofNat 0, .ofNat 0))], [(1, [(.negSucc 2, .ofNat 3)]), (2, [(.negSucc 0, .ofNat 1)]), (3, [(.ofNat 1, .ofNat 12)]), (4, [(.ofNat 0, .ofNat 11)]), (5, [(.negSucc 39, .ofNat 40)])], [], [])]
set_option maxRecDepth 1000000 in
theorem sg_op_c_g : sg_go [] [25, 5] 3000 219 14 0 6 [(0, [(.ofNat 0, .ofNat 0)]), (1, [(.negSucc 2, .ofNat 3)]), (2, [(.negSucc 0, .ofNat 1)]), (3, [(.ofNat 1, .ofNat 12)]), (4, [(.ofNat 0, .ofNat 11)]), (5, [(.negSucc 39, .ofNat 41)])] [] [] [] [(0, .inr (.inl [122])), (1, .inl (false, (1, .ofNat 1, .ofNat 0))), (2, .inl (false, (2, .ofNat 1, .ofNat 0))), (3, .inl (false, (3, .ofNat 1, .ofNat 0))), (4, .inl (false, (4, .ofNat 1, .ofNat 0))), (5, .inl (false, (5, .ofNat 1, .ofNat 0)))] [] [] sg_op_c_Z = true := by decide +kernel
set_option maxRecDepth 100000 in
theorem sg_op_c {Q : Option Value × am_S → Prop} {d : Nat} {S : am_S} {L : am_L} {x1 x2 x3 x4 x5 : Int} (hd : 0 ≤ d) (hP : ax_P0 none S) (l0 : lc L 0 122) (l1 : li L 1 x1) (l2 : li L 2 x2) (l3 : li L 3 x3) (l4 : li L 4 x4) (l5 : li L 5 x5) (b1 : ((-3) ≤ x1 ∧ x1 ≤ 3)) (b2 : ((-1) ≤ x2 ∧ x2 ≤ 1)) (b3 : (1 ≤ x3 ∧ x3 ≤ 12)) (b4 : (0 ≤ x4 ∧ x4 ≤ 11)) (b5 : ((-40) ≤ x5 ∧ x5 ≤ 41))
    (k0 : ∀ (L' : am_L), 40 < x5 → ((-3) ≤ x1 ∧ x1 ≤ 3) → ((-1) ≤ x2 ∧ x2 ≤ 1) → (1 ≤ x3 ∧ x3 ≤ 12) → (0 ≤ x4 ∧ x4 ≤ 11) → (41 ≤ x5 ∧ x5 ≤ 41) → lc L' 0 122 → li L' 1 x1 → li L' 2 x2 → li L' 3 x3 → li L' 4 (x4 + (-1)) → li L' 5 41 → am_V none d 219 5 L' ([]) S Q)
    (k1 : ∀ (L' : am_L), x5 ≤ 40 → ((-3) ≤ x1 ∧ x1 ≤ 3) → ((-1) ≤ x2 ∧ x2 ≤ 1) → (1 ≤ x3 ∧ x3 ≤ 12) → (0 ≤ x4 ∧ x4 ≤ 11) → ((-40) ≤ x5 ∧ x5 ≤ 40) → lc L' 0 122 → li L' 1 x1 → li L' 2 x2 → li L' 3 x3 → li L' 4 x4 → li L' 5 x5 → li L' 6 (-12) → am_V none d 219 25 L' ([]) S Q) : am_V none d 219 14 L ([]) S Q := by
  refine sg_use sg_op_c_g hd hP (sg_xs [0, x1, x2, x3, x4, x5]) ⟨⟨Int.le_refl 0, Int.le_refl 0⟩, b1, b2, b3, b4, b5, trivial⟩ trivial trivial trivial ⟨l0, l1, l2, l3, l4, l5, trivial⟩ trivial ?_
  intro z hz x' L' st' S' hx hP' hW hL' hs' hJ hE' hT' hD'
  have q1 : x' 1 = x1 := hx 1 (by decide)
  subst q1
  have q2 : x' 2 = x2 := hx 2 (by decide)
  subst q2
  have q3 : x' 3 = x3 := hx 3 (by decide)
  subst q3
  have q4 : x' 4 = x4 := hx 4 (by decide)
  subst q4
  have q5 : x' 5 = x5 := hx 5 (by decide)
  subst q5
  have eS : S' = S := hW.1 rfl
  subst eS
  simp only [sg_op_c_Z, List.mem_cons, List.not_mem_nil, or_false] at hz
  rcases hz with rfl | rfl
  · obtain ⟨f0, hσ⟩ := hJ
    obtain ⟨e0, e1, e2, e3, e4, -⟩ := hE'
    obtain ⟨p0, p1, p2, p3, p4, p5, -⟩ := hL'
    obtain rfl := sg_tn hs'
    exact k0 L' f0 e0 e1 e2 e3 e4 p0 p1 p2 p3 p4 p5
  · obtain ⟨f0, hσ⟩ := hJ
    obtain ⟨e0, e1, e2, e3, e4, -⟩ := hE'
    obtain ⟨p0, p1, p2, p3, p4, p5, p6, -⟩ := hL'
    obtain rfl := sg_tn hs'
    exact k1 L' f0 e0 e1 e2 e3 e4 p0 p1 p2 p3 p4 p5 p6
def sg_op_d_Z : List sg_z := [(15, [(0, .inr (.inl [122])), (1, .inl (false, (1, .ofNat 1, .ofNat 0))), (2, .inl (false, (2, .ofNat 1, .ofNat 0))), (3, .inl (false, (3, .ofNat 1, .ofNat 0))), (4, .inl (false, (4, .ofNat 1, .ofNat 0))), (5, .inl (false, (5, .ofNat 1, .ofNat 1))), (6, .inl (false, (0, .ofNat 0, .ofNat 13)))], [], [(2, 4, (6, .ofNat 1, .ofNat 0), (0, .ofNat 0, .ofNat 12), (0, .ofNat 0, .ofNat 0))], [(1, [(.negSucc 2, .ofNat 3)]), (2, [(.negSucc 0, .ofNat 1)]), (3, [(.ofNat 1, .ofNat 12)]), (4, [(.ofNat 0, .ofNat 11)]), (5, [(.negSucc 39, .ofNat 40)]), (6, [(.ofNat 13, .ofNat 13)])], [], []),
  (26, [(0, .inr (.inl [122])), (1, .inl (false, (1, .ofNat 1, .ofNat 0))), (2, .inl (false, (2, .ofNat 1, .ofNat 0))), (3, .inl (false, (3, .ofNat 1, .ofNat 0))), (4, .inl (false, (4, .ofNat 1, .ofNat 0))), (5, .inl (false, (5, .ofNat 1, .ofNat 0))), (6, .inl (false, (6, .ofNat 1, .ofNat 1))), (7, .inl (true, (0, .ofNat 0, .ofNat 0)))], [], [(2, 0, (9, .ofNat 1, .ofNat 0), (0, .ofNat 0, .ofNat 0), (0, .ofNat 0, .ofNat 0)), (0, 148, (8, .ofNat 1, .ofNat 12), (9, .ofNat 1, .ofNat 0), (0, .ofNat 0, .ofNat 0)), (2, 5, (6, .ofNat 1, .ofNat 0), (0, .ofNat 0, .ofNat 12), (0, .ofNat 0, .ofNat 0))], [(1, [(.negSucc 2, .ofNat 3)]), (2, [(.negSucc 0, .ofNat 1)]), (3, [(.ofNat 1, .ofNat 12)]), (4, [(.ofNat 0, .ofNat 11)]), (5, [(.negSucc 39, .ofNat 40)]), (6, [(.negSucc 11, .ofNat 12)]), (7, [(.negSucc 39, .ofNat 931)]), (8, [(.negSucc 11, .ofNat 24287)]), (9, [(.ofNat 0, .ofNat 0)])], [((7, .ofNat 25, .ofNat 1000), (6, .ofNat 1, .ofNat 0), (8, .ofNat 1, .ofNat 0)), ((4, .ofNat 81, .ofNat 0), (5, .ofNat 1, .ofNat 0), (7, .ofNat 1, .ofNat 0))], []),
  (26, [(0, .inr (.inl [122])), (1, .inl (false, (1, .ofNat 1, .ofNat 0))), (2, .inl (false, (2, .ofNat 1, .ofNat 0))), (3, .inl (false, (3, .ofNat 1, .ofNat 0))), (4, .inl (false, (4, .ofNat 1, .ofNat 0))), (5, .inl (false, (5, .ofNat 1, .ofNat 0))), (6, .inl (false, (6, .ofNat 1, .ofNat 1))), (7, .inl (true, (9, .ofNat 1, .ofNat 0)))], [], [(2, 0, (0, .ofNat 0, .ofNat 0), (0, .ofNat 0, .ofNat 0), (0, .ofNat 0, .ofNat 0)), (2, 0, (0, .ofNat 0, .ofNat 0), (0, .ofNat 0, .ofNat 0), (0, .ofNat 0, .ofNat 0)), (2, 2, (10, .ofNat 1, .ofNat 0), (0, .ofNat 0, .negSucc 39), (0, .ofNat 0, .ofNat 0)), (2, 1, (9, .ofNat 1, .ofNat 0), (0, .ofNat 0, .ofNat 0), (0, .ofNat 0, .ofNat 0)), (0, 148, (8, .ofNat 1, .ofNat 12), (9, .ofNat 1, .ofNat 0), (0, .ofNat 0, .ofNat 0)), (2, 5, (6, .ofNat 1, .ofNat 0), (0, .ofNat 0, .ofNat 12), (0, .ofNat 0, .ofNat 0))], [(1, [(.negSucc 2, .ofNat 3)]), (2, [(.negSucc 0, .ofNat 1)]), (3, [(.ofNat 1, .ofNat 12)]), (4, [(.ofNat 0, .ofNat 11)]), (5, [(.negSucc 39, .ofNat 40)]), (6, [(.negSucc 11, .ofNat 12)]), (7, [(.negSucc 39, .ofNat 931)]), (8, [(.negSucc 11, .ofNat 24287)]), (9, [(.negSucc 9223372036854775807, .negSucc 0), (.ofNat 1, .ofNat 9223372036854775807)]), (10, [(.negSucc 42, .negSucc 40)])], [((5, .ofNat 1, .ofNat 0), (1, .ofNat 1, .ofNat 0), (10, .ofNat 1, .ofNat 0)), ((7, .ofNat 25, .ofNat 1000), (6, .ofNat 1, .ofNat 0), (8, .ofNat 1, .ofNat 0)), ((4, .ofNat 81, .ofNat 0), (5, .ofNat 1, .ofNat 0), (7, .ofNat 1, .ofNat 0))], []),
  (26, [(0, .inr (.inl [122])), (1, .inl (false, (1, .ofNat 1, .ofNat 0))), (2, .inl (false, (2, .ofNat 1, .ofNat 0))), (3, .inl (false, (3, .ofNat 1, .ofNat 0))), (4, .inl (false, (4, .ofNat 1, .ofNat 0))), (5, .inl (false, (5, .ofNat 1, .ofNat 0))), (6, .inl (false, (6, .ofNat 1, .ofNat 1))), (7, .inl (true, (9, .ofNat 1, .ofNat 0)))], [], [(2, 0, (0, .ofNat 0, .ofNat 0), (0, .ofNat 0, .ofNat 0), (0, .ofNat 0, .ofNat 0)), (2, 0, (0, .ofNat 0, .ofNat 0), (0, .ofNat 0, .ofNat 0), (0, .ofNat 0, .ofNat 0)), (2, 4, (10, .ofNat 1, .ofNat 0), (0, .ofNat 0, .ofNat 40), (0, .ofNat 0, .ofNat 0)), (2, 3, (10, .ofNat 1, .ofNat 0), (0, .ofNat 0, .negSucc 39), (0, .ofNat 0, .ofNat 0)), (2, 1, (9, .ofNat 1, .ofNat 0), (0, .ofNat 0, .ofNat 0), (0, .ofNat 0, .ofNat 0)), (0, 148, (8, .ofNat 1, .ofNat 12), (9, .ofNat 1, .ofNat 0), (0, .ofNat 0, .ofNat 0)), (2, 5, (6, .ofNat 1, .ofNat 0), (0, .ofNat 0, .ofNat 12), (0, .ofNat 0, .ofNat 0))], [(1, [(.negSucc 2, .ofNat 3)]), (2, [(.negSucc 0, .ofNat 1)]), (3, [(.ofNat 1, .ofNat 12)]), (4, [(.ofNat 0, .ofNat 11)]), (5, [(.negSucc 39, .ofNat 40)]), (6, [(.negSucc 11, .ofNat 12)]), (7, [(.negSucc 39, .ofNat 931)]), (8, [(.negSucc 11, .ofNat 24287)]), (9, [(.negSucc 9223372036854775807, .negSucc 0), (.ofNat 1, .ofNat 9223372036854775807)]), (10, [(.ofNat 41, .ofNat 43)])], [((5, .ofNat 1, .ofNat 0), (1, .ofNat 1, .ofNat 0), (10, .ofNat 1, .ofNat 0)), ((7, .ofNat 25, .ofNat 1000), (6, .ofNat 1, .ofNat 0), (8, .ofNat 1, .ofNat 0)), ((4, .ofNat 81, .ofNat 0), (5, .ofNat 1, .ofNat 0), (7, .ofNat 1, .ofNat 0))], []),
  (26, [(0, .inr (.inl [122])), (1, .inl (false, (1, .ofNat 1, .ofNat 0))), (2, .inl (false, (2, .ofNat 1, .ofNat 0))), (3, .inl (false, (3, .ofNat 1, .ofNat 0))), (4, .inl (false, (4, .ofNat 1, .ofNat 0))), (5, .inl (false, (5, .ofNat 1, .ofNat 0))), (6, .inl (false, (6, .ofNat 1, .ofNat 1))), (7, .inl (true, (9, .ofNat 1, .ofNat 0)))], [], [(2, 0, (0, .ofNat 0, .ofNat 0), (0, .ofNat 0, .ofNat 0), (0, .ofNat 0, .ofNat 0)), (2, 0, (0, .ofNat 0, .ofNat 0), (0, .ofNat 0, .ofNat 0), (0, .ofNat 0, .ofNat 0)), (2, 2, (11, .ofNat 1, .ofNat 0), (0, .ofNat 0, .negSucc 11), (0, .ofNat 0, .ofNat 0)), (2, 1, (0, .ofNat 0, .ofNat 1), (0, .ofNat 0, .ofNat 0), (0, .ofNat 0, .ofNat 0)), (2, 5, (10, .ofNat 1, .ofNat 0), (0, .ofNat 0, .ofNat 40), (0, .ofNat 0, .ofNat 0)), (2, 3, (10, .ofNat 1, .ofNat 0), (0, .ofNat 0, .negSucc 39), (0, .ofNat 0, .ofNat 0)), (2, 1, (9, .ofNat 1, .ofNat 0), (0, .ofNat 0, .ofNat 0), (0, .ofNat 0, .ofNat 0)), (0, 148, (8, .ofNat 1, .ofNat 12), (9, .ofNat 1, .ofNat 0), (0, .ofNat 0, .ofNat 0)), (2, 5, (6, .ofNat 1, .ofNat 0), (0, .ofNat 0, .ofNat 12), (0, .ofNat 0, .ofNat 0))], [(1, [(.negSucc 2, .ofNat 3)]), (2, [(.negSucc 0, .ofNat 1)]), (3, [(.ofNat 1, .ofNat 12)]), (4, [(.ofNat 0, .ofNat 11)]), (5, [(.negSucc 39, .ofNat 40)]), (6, [(.negSucc 11, .ofNat 12)]), (7, [(.negSucc 39, .ofNat 931)]), (8, [(.negSucc 11, .ofNat 24287)]), (9, [(.negSucc 9223372036854775807, .negSucc 0), (.ofNat 1, .ofNat 9223372036854775807)]), (10, [(.negSucc 39, .ofNat 40)]), (11, [(.negSucc 12, .negSucc 12)])], [((6, .ofNat 1, .ofNat 0), (2, .ofNat 1, .ofNat 0), (11, .ofNat 1, .ofNat 0)), ((5, .ofNat 1, .ofNat 0), (1, .ofNat 1, .ofNat 0), (10, .ofNat 1, .ofNat 0)), ((7, .ofNat 25, .ofNat 1000), (6, .ofNat 1, .ofNat 0), (8, .ofNat 1, .ofNat 0)), ((4, .ofNat 81, .ofNat 0), (5, .ofNat 1, .ofNat 0), (7, .ofNat 1, .ofNat 0))], []),
  (26, [(0, .inr (.inl [122])), (1, .inl (false, (1, .ofNat 1, .ofNat 0))), (2, .inl (false, (2, .ofNat 1, .ofNat 0))), (3, .inl (false, (3, .ofNat 1, .ofNat 0))), (4, .inl (false, (4, .ofNat 1, .ofNat 0))), (5, .inl (false, (5, .ofNat 1, .ofNat 0))), (6, .inl (false, (6, .ofNat 1, .ofNat 1))), (7, .inl (true, (9, .ofNat 1, .ofNat 0)))], [], [(2, 0, (0, .ofNat 0, .ofNat 0), (0, .ofNat 0, .ofNat 0), (0, .ofNat 0, .ofNat 0)), (2, 0, (0, .ofNat 0, .ofNat 0), (0, .ofNat 0, .ofNat 0), (0, .ofNat 0, .ofNat 0)), (2, 4, (11, .ofNat 1, .ofNat 0), (0, .ofNat 0, .ofNat 12), (0, .ofNat 0, .ofNat 0)), (2, 3, (11, .ofNat 1, .ofNat 0), (0, .ofNat 0, .negSucc 11), (0, .ofNat 0, .ofNat 0)), (2, 1, (0, .ofNat 0, .ofNat 1), (0, .ofNat 0, .ofNat 0), (0, .ofNat 0, .ofNat 0)), (2, 5, (10, .ofNat 1, .ofNat 0), (0, .ofNat 0, .ofNat 40), (0, .ofNat 0, .ofNat 0)), (2, 3, (10, .ofNat 1, .ofNat 0), (0, .ofNat 0, .negSucc 39), (0, .ofNat 0, .ofNat 0)), (2, 1, (9, .ofNat 1, .ofNat 0), (0, .ofNat 0, .ofNat 0), (0, .ofNat 0, .ofNat 0)), (0, 148, (8, .ofNat 1, .ofNat 12), (9, .ofNat 1, .ofNat 0), (0, .ofNat 0, .ofNat 0)), (2, 5, (6, .ofNat 1, .ofNat 0), (0, .ofNat 0, .ofNat 12), (0, .ofNat 0, .ofNat 0))], [(1, [(.negSucc 2, .ofNat 3)]), (2, [(.negSucc 0, .ofNat 1)]), (3, [(.ofNat 1, .ofNat 12)]), (4, [(.ofNat 0, .ofNat 11)]), (5, [(.negSucc 39, .ofNat 40)]), (6, [(.negSucc 11, .ofNat 12)]), (7, [(.negSucc 39, .ofNat 931)]), (8, [(.negSucc 11, .ofNat 24287)]), (9, [(.negSucc 9223372036854775807, .negSucc 0), (.ofNat 1, .ofNat 9223372036854775807)]), (10, [(.negSucc 39, .ofNat 40)]), (11, [(.ofNat 13, .ofNat 13)])], [((6, .ofNat 1, .ofNat 0), (2, .ofNat 1, .ofNat 0), (11, .ofNat 1, .ofNat 0)), ((5, .ofNat 1, .ofNat 0), (1, .ofNat 1, .ofNat 0), (10, .ofNat 1, .ofNat 0)), ((7, .ofNat 25, .ofNat 1000), (6, .ofNat 1, .ofNat 0), (8, .ofNat 1, .ofNat 0)), ((4, .ofNat 81, .ofNat 0), (5, .ofNat 1, .ofNat 0), (7, .ofNat 1, .ofNat 0))], []),
  (26, [(0, .inr (.inl [122])), (1, .inl (false, (1, .ofNat 1, .ofNat 0))), (2, .inl (false, (2, .ofNat 1, .ofNat 0))), (3, .inl (false, (3, .ofNat 1, .ofNat 0))), (4, .inl (false, (4, .ofNat 1, .ofNat 0))), (5, .inl (false, (5, .ofNat 1, .ofNat 0))), (6, .inl (false, (6, .ofNat 1, .ofNat 1))), (7, .inl (true, (9, .ofNat 1, .ofNat 0)))], [], [(1, 148, (13, .ofNat 1, .ofNat 12), (15, .ofNat 1, .ofNat 0), (0, .ofNat 0, .ofNat 0)), (4, 3, (14, .ofNat 1, .ofNat 0), (9, .ofNat 1, .ofNat 0), (15, .ofNat 1, .ofNat 0)), (0, 148, (13, .ofNat 1, .ofNat 12), (14, .ofNat 1, .ofNat 0), (0, .ofNat 0, .ofNat 0)), (2, 1, (0, .ofNat 0, .ofNat 1), (0, .ofNat 0, .ofNat 0), (0, .ofNat 0, .ofNat 0)), (2, 1, (0, .ofNat 0, .ofNat 1), (0, .ofNat 0, .ofNat 0), (0, .ofNat 0, .ofNat 0)), (2, 5, (11, .ofNat 1, .ofNat 0), (0, .ofNat 0, .ofNat 12), (0, .ofNat 0, .ofNat 0)), (2, 3, (11, .ofNat 1, .ofNat 0), (0, .ofNat 0, .negSucc 11), (0, .ofNat 0, .ofNat 0)), (2, 1, (0, .ofNat 0, .ofNat 1), (0, .ofNat 0, .ofNat 0), (0, .ofNat 0, .ofNat 0)), (2, 5, (10, .ofNat 1, .ofNat 0), (0, .ofNat 0, .ofNat 40), (0, .ofNat 0, .ofNat 0)), (2, 3, (10, .ofNat 1, .ofNat 0), (0, .ofNat 0, .negSucc 39), (0, .ofNat 0, .ofNat 0)), (2, 1, (9, .ofNat 1, .ofNat 0), (0, .ofNat 0, .ofNat 0), (0, .ofNat 0, .ofNat 0)), (0, 148, (8, .ofNat 1, .ofNat 12), (9, .ofNat 1, .ofNat 0), (0, .ofNat 0, .ofNat 0)), (2, 5, (6, .ofNat 1, .ofNat 0), (0, .ofNat 0, .ofNat 12), (0, .ofNat 0, .ofNat 0))], [(1, [(.negSucc 2, .ofNat 3)]), (2, [(.negSucc 0, .ofNat 1)]), (3, [(.ofNat 1, .ofNat 12)]), (4, [(.ofNat 0, .ofNat 11)]), (5, [(.negSucc 39, .ofNat 40)]), (6, [(.negSucc 11, .ofNat 12)]), (7, [(.negSucc 39, .ofNat 931)]), (8, [(.negSucc 11, .ofNat 24287)]), (9, [(.negSucc 9223372036854775807, .negSucc 0), (.ofNat 1, .ofNat 9223372036854775807)]), (10, [(.negSucc 39, .ofNat 40)]), (11, [(.negSucc 11, .ofNat 12)]), (12, [(.ofNat 41, .ofNat 1012)]), (13, [(.ofNat 2013, .ofNat 26312)])], [((12, .ofNat 25, .ofNat 1000), (11, .ofNat 1, .ofNat 0), (13, .ofNat 1, .ofNat 0)), ((4, .ofNat 81, .ofNat 81), (10, .ofNat 1, .ofNat 0), (12, .ofNat 1, .ofNat 0)), ((6, .ofNat 1, .ofNat 0), (2, .ofNat 1, .ofNat 0), (11, .ofNat 1, .ofNat 0)), ((5, .ofNat 1, .ofNat 0), (1, .ofNat 1, .ofNat 0), (10, .ofNat 1, .ofNat 0)), ((7, .ofNat 25, .ofNat 1000), (6, .ofNat 1, .ofNat 0), (8, .ofNat 1, .ofNat 0)), ((4, .ofNat 81, .ofNat 0), (5, .ofNat 1, .ofNat 0), (7, .ofNat 1, .ofNat 0))], [])]
set_option maxRecDepth 1000000 in
theorem sg_op_d_g : sg_go [] [25, 14] 3000 219 25 2 7 [(0, [(.ofNat 0, .ofNat 0)]), (1, [(.negSucc 2, .ofNat 3)]), (2, [(.negSucc 0, .ofNat 1)]), (3, [(.ofNat 1, .ofNat 12)]), (4, [(.ofNat 0, .ofNat 11)]), (5, [(.negSucc 39, .ofNat 40)]), (6, [(.negSucc 11, .ofNat 13)])] [] [] [] [(0, .inr (.inl [122])), (1, .inl (false, (1, .ofNat 1, .ofNat 0))), (2, .inl (false, (2, .ofNat 1, .ofNat 0))), (3, .inl (false, (3, .ofNat 1, .ofNat 0))), (4, .inl (false, (4, .ofNat 1, .ofNat 0))), (5, .inl (false, (5, .ofNat 1, .ofNat 0))), (6, .inl (false, (6, .ofNat 1, .ofNat 0)))] [] [(148, none)] sg_op_d_Z = true := by decide +kernel
set_option maxRecDepth 100000 in
theorem sg_op_d {Q : Option Value × am_S → Prop} {d : Nat} {S : am_S} {L : am_L} {x1 x2 x3 x4 x5 x6 : Int} (hd : 2 ≤ d) (hP : ax_P0 none S) (l0 : lc L 0 122) (l1 : li L 1 x1) (l2 : li L 2 x2) (l3 : li L 3 x3) (l4 : li L 4 x4) (l5 : li L 5 x5) (l6 : li L 6 x6) (b1 : ((-3) ≤ x1 ∧ x1 ≤ 3)) (b2 : ((-1) ≤ x2 ∧ x2 ≤ 1)) (b3 : (1 ≤ x3 ∧ x3 ≤ 12)) (b4 : (0 ≤ x4 ∧ x4 ≤ 11)) (b5 : ((-40) ≤ x5 ∧ x5 ≤ 40)) (b6 : ((-12) ≤ x6 ∧ x6 ≤ 13))
    (k0 : ∀ (L' : am_L) (S' : am_S), ax_P0 none S' → rd S' = rd S → 12 < x6 → ((-3) ≤ x1 ∧ x1 ≤ 3) → ((-1) ≤ x2 ∧ x2 ≤ 1) → (1 ≤ x3 ∧ x3 ≤ 12) → (0 ≤ x4 ∧ x4 ≤ 11) → ((-40) ≤ x5 ∧ x5 ≤ 40) → (13 ≤ x6 ∧ x6 ≤ 13) → lc L' 0 122 → li L' 1 x1 → li L' 2 x2 → li L' 3 x3 → li L' 4 x4 → li L' 5 (x5 + 1) → li L' 6 13 → am_V none d 219 14 L' ([]) S' Q)
    (k1 : ∀ (x7 x8 x9 : Int) (L' : am_L) (S' : am_S), ax_P0 none S' → rd S' = rd S → x6 ≤ 12 → rd S 148 (x8 + 12) = x9 → x9 = 0 → ((-3) ≤ x1 ∧ x1 ≤ 3) → ((-1) ≤ x2 ∧ x2 ≤ 1) → (1 ≤ x3 ∧ x3 ≤ 12) → (0 ≤ x4 ∧ x4 ≤ 11) → ((-40) ≤ x5 ∧ x5 ≤ 40) → ((-12) ≤ x6 ∧ x6 ≤ 12) → ((-40) ≤ x7 ∧ x7 ≤ 931) → ((-12) ≤ x8 ∧ x8 ≤ 24287) → (0 ≤ x9 ∧ x9 ≤ 0) → (25 * x7 + 1000) + x6 = x8 → (81 * x4 + 0) + x5 = x7 → lc L' 0 122 → li L' 1 x1 → li L' 2 x2 → li L' 3 x3 → li L' 4 x4 → li L' 5 x5 → li L' 6 (x6 + 1) → lj L' 7 0 → am_V none d 219 25 L' ([]) S' Q)
    (k2 : ∀ (x7 x8 x9 x10 : Int) (L' : am_L) (S' : am_S), ax_P0 none S' → rd S' = rd S → x6 ≤ 12 → rd S 148 (x8 + 12) = x9 → x9 ≠ 0 → x10 < (-40) → ((-3) ≤ x1 ∧ x1 ≤ 3) → ((-1) ≤ x2 ∧ x2 ≤ 1) → (1 ≤ x3 ∧ x3 ≤ 12) → (0 ≤ x4 ∧ x4 ≤ 11) → ((-40) ≤ x5 ∧ x5 ≤ 40) → ((-12) ≤ x6 ∧ x6 ≤ 12) → ((-40) ≤ x7 ∧ x7 ≤ 931) → ((-12) ≤ x8 ∧ x8 ≤ 24287) → ((-9223372036854775808) ≤ x9 ∧ x9 ≤ (-1)) ∨ (1 ≤ x9 ∧ x9 ≤ 9223372036854775807) → ((-43) ≤ x10 ∧ x10 ≤ (-41)) → x5 + x1 = x10 → (25 * x7 + 1000) + x6 = x8 → (81 * x4 + 0) + x5 = x7 → lc L' 0 122 → li L' 1 x1 → li L' 2 x2 → li L' 3 x3 → li L' 4 x4 → li L' 5 x5 → li L' 6 (x6 + 1) → lj L' 7 x9 → am_V none d 219 25 L' ([]) S' Q)
    (k3 : ∀ (x7 x8 x9 x10 : Int) (L' : am_L) (S' : am_S), ax_P0 none S' → rd S' = rd S → x6 ≤ 12 → rd S 148 (x8 + 12) = x9 → x9 ≠ 0 → (-40) ≤ x10 → 40 < x10 → ((-3) ≤ x1 ∧ x1 ≤ 3) → ((-1) ≤ x2 ∧ x2 ≤ 1) → (1 ≤ x3 ∧ x3 ≤ 12) → (0 ≤ x4 ∧ x4 ≤ 11) → ((-40) ≤ x5 ∧ x5 ≤ 40) → ((-12) ≤ x6 ∧ x6 ≤ 12) → ((-40) ≤ x7 ∧ x7 ≤ 931) → ((-12) ≤ x8 ∧ x8 ≤ 24287) → ((-9223372036854775808) ≤ x9 ∧ x9 ≤ (-1)) ∨ (1 ≤ x9 ∧ x9 ≤ 9223372036854775807) → (41 ≤ x10 ∧ x10 ≤ 43) → x5 + x1 = x10 → (25 * x7 + 1000) + x6 = x8 → (81 * x4 + 0) + x5 = x7 → lc L' 0 122 → li L' 1 x1 → li L' 2 x2 → li L' 3 x3 → li L' 4 x4 → li L' 5 x5 → li L' 6 (x6 + 1) → lj L' 7 x9 → am_V none d 219 25 L' ([]) S' Q)
    (k4 : ∀ (x7 x8 x9 x10 x11 : Int) (L' : am_L) (S' : am_S), ax_P0 none S' → rd S' = rd S → x6 ≤ 12 → rd S 148 (x8 + 12) = x9 → x9 ≠ 0 → (-40) ≤ x10 → x10 ≤ 40 → x11 < (-12) → ((-3) ≤ x1 ∧ x1 ≤ 3) → ((-1) ≤ x2 ∧ x2 ≤ 1) → (1 ≤ x3 ∧ x3 ≤ 12) → (0 ≤ x4 ∧ x4 ≤ 11) → ((-40) ≤ x5 ∧ x5 ≤ 40) → ((-12) ≤ x6 ∧ x6 ≤ 12) → ((-40) ≤ x7 ∧ x7 ≤ 931) → ((-12) ≤ x8 ∧ x8 ≤ 24287) → ((-9223372036854775808) ≤ x9 ∧ x9 ≤ (-1)) ∨ (1 ≤ x9 ∧ x9 ≤ 9223372036854775807) → ((-40) ≤ x10 ∧ x10 ≤ 40) → ((-13) ≤ x11 ∧ x11 ≤ (-13)) → x6 + x2 = x11 → x5 + x1 = x10 → (25 * x7 + 1000) + x6 = x8 → (81 * x4 + 0) + x5 = x7 → lc L' 0 122 → li L' 1 x1 → li L' 2 x2 → li L' 3 x3 → li L' 4 x4 → li L' 5 x5 → li L' 6 (x6 + 1) → lj L' 7 x9 → am_V none d 219 25 L' ([]) S' Q)
    (k5 : ∀ (x7 x8 x9 x10 x11 : Int) (L' : am_L) (S' : am_S), ax_P0 none S' → rd S' = rd S → x6 ≤ 12 → rd S 148 (x8 + 12) = x9 → x9 ≠ 0 → (-40) ≤ x10 → x10 ≤ 40 → (-12) ≤ x11 → 12 < x11 → ((-3) ≤ x1 ∧ x1 ≤ 3) → ((-1) ≤ x2 ∧ x2 ≤ 1) → (1 ≤ x3 ∧ x3 ≤ 12) → (0 ≤ x4 ∧ x4 ≤ 11) → ((-40) ≤ x5 ∧ x5 ≤ 40) → ((-12) ≤ x6 ∧ x6 ≤ 12) → ((-40) ≤ x7 ∧ x7 ≤ 931) → ((-12) ≤ x8 ∧ x8 ≤ 24287) → ((-9223372036854775808) ≤ x9 ∧ x9 ≤ (-1)) ∨ (1 ≤ x9 ∧ x9 ≤ 9223372036854775807) → ((-40) ≤ x10 ∧ x10 ≤ 40) → (13 ≤ x11 ∧ x11 ≤ 13) → x6 + x2 = x11 → x5 + x1 = x10 → (25 * x7 + 1000) + x6 = x8 → (81 * x4 + 0) + x5 = x7 → lc L' 0 122 → li L' 1 x1 → li L' 2 x2 → li L' 3 x3 → li L' 4 x4 → li L' 5 x5 → li L' 6 (x6 + 1) → lj L' 7 x9 → am_V none d 219 25 L' ([]) S' Q)
    (k6 : ∀ (x7 x8 x9 x10 x11 x12 x13 x14 x15 : Int) (L' : am_L) (S' : am_S), ax_P0 none S' → rd S' = sg_up (rd S) 148 (x13 + 12) x15 → x6 ≤ 12 → rd S 148 (x8 + 12) = x9 → x9 ≠ 0 → (-40) ≤ x10 → x10 ≤ 40 → (-12) ≤ x11 → x11 ≤ 12 → rd S 148 (x13 + 12) = x14 → (∃ a b : Int64, a.toInt = x14 ∧ b.toInt = x9 ∧ (a + b).toInt = x15) → ((-3) ≤ x1 ∧ x1 ≤ 3) → ((-1) ≤ x2 ∧ x2 ≤ 1) → (1 ≤ x3 ∧ x3 ≤ 12) → (0 ≤ x4 ∧ x4 ≤ 11) → ((-40) ≤ x5 ∧ x5 ≤ 40) → ((-12) ≤ x6 ∧ x6 ≤ 12) → ((-40) ≤ x7 ∧ x7 ≤ 931) → ((-12) ≤ x8 ∧ x8 ≤ 24287) → ((-9223372036854775808) ≤ x9 ∧ x9 ≤ (-1)) ∨ (1 ≤ x9 ∧ x9 ≤ 9223372036854775807) → ((-40) ≤ x10 ∧ x10 ≤ 40) → ((-12) ≤ x11 ∧ x11 ≤ 12) → (41 ≤ x12 ∧ x12 ≤ 1012) → (2013 ≤ x13 ∧ x13 ≤ 26312) → (25 * x12 + 1000) + x11 = x13 → (81 * x4 + 81) + x10 = x12 → x6 + x2 = x11 → x5 + x1 = x10 → (25 * x7 + 1000) + x6 = x8 → (81 * x4 + 0) + x5 = x7 → lc L' 0 122 → li L' 1 x1 → li L' 2 x2 → li L' 3 x3 → li L' 4 x4 → li L' 5 x5 → li L' 6 (x6 + 1) → lj L' 7 x9 → am_V none d 219 25 L' ([]) S' Q) : am_V none d 219 25 L ([]) S Q := by
  refine sg_use sg_op_d_g hd hP (sg_xs [0, x1, x2, x3, x4, x5, x6]) ⟨⟨Int.le_refl 0, Int.le_refl 0⟩, b1, b2, b3, b4, b5, b6, trivial⟩ trivial trivial trivial ⟨l0, l1, l2, l3, l4, l5, l6, trivial⟩ trivial ?_
  intro z hz x' L' st' S' hx hP' hW hL' hs' hJ hE' hT' hD'
  have q1 : x' 1 = x1 := hx 1 (by decide)
  subst q1
  have q2 : x' 2 = x2 := hx 2 (by decide)
  subst q2
  have q3 : x' 3 = x3 := hx 3 (by decide)
  subst q3
  have q4 : x' 4 = x4 := hx 4 (by decide)
  subst q4
  have q5 : x' 5 = x5 := hx 5 (by decide)
  subst q5
  have q6 : x' 6 = x6 := hx 6 (by decide)
  subst q6
  simp only [sg_op_d_Z, List.mem_cons, List.not_mem_nil, or_false] at hz
  rcases hz with rfl | rfl | rfl | rfl | rfl | rfl | rfl
  · obtain ⟨f0, hσ⟩ := hJ
    obtain ⟨e0, e1, e2, e3, e4, e5, -⟩ := hE'
    obtain ⟨p0, p1, p2, p3, p4, p5, p6, -⟩ := hL'
    obtain rfl := sg_tn hs'
    exact k0 L' S' hP' hσ f0 e0 e1 e2 e3 e4 e5 p0 p1 p2 p3 p4 p5 p6
  · obtain ⟨f0, f1, f2, hσ⟩ := hJ
    obtain ⟨e0, e1, e2, e3, e4, e5, e6, e7, e8, -⟩ := hE'
    obtain ⟨t0, t1, -⟩ := hT'
    obtain ⟨p0, p1, p2, p3, p4, p5, p6, p7, -⟩ := hL'
    obtain rfl := sg_tn hs'
    exact k1 (x' 7) (x' 8) (x' 9) L' S' hP' hσ f0 f1 f2 e0 e1 e2 e3 e4 e5 e6 e7 e8 t0 t1 p0 p1 p2 p3 p4 p5 p6 p7
  · obtain ⟨f0, f1, f2, f3, -, -, hσ⟩ := hJ
    obtain ⟨e0, e1, e2, e3, e4, e5, e6, e7, e8, e9, -⟩ := hE'
    obtain ⟨t0, t1, t2, -⟩ := hT'
    obtain ⟨p0, p1, p2, p3, p4, p5, p6, p7, -⟩ := hL'
    obtain rfl := sg_tn hs'
    exact k2 (x' 7) (x' 8) (x' 9) (x' 10) L' S' hP' hσ f0 f1 f2 f3 e0 e1 e2 e3 e4 e5 e6 e7 e8 e9 t0 t1 t2 p0 p1 p2 p3 p4 p5 p6 p7
  · obtain ⟨f0, f1, f2, f3, f4, -, -, hσ⟩ := hJ
    obtain ⟨e0, e1, e2, e3, e4, e5, e6, e7, e8, e9, -⟩ := hE'
    obtain ⟨t0, t1, t2, -⟩ := hT'
    obtain ⟨p0, p1, p2, p3, p4, p5, p6, p7, -⟩ := hL'
    obtain rfl := sg_tn hs'
    exact k3 (x' 7) (x' 8) (x' 9) (x' 10) L' S' hP' hσ f0 f1 f2 f3 f4 e0 e1 e2 e3 e4 e5 e6 e7 e8 e9 t0 t1 t2 p0 p1 p2 p3 p4 p5 p6 p7
  · obtain ⟨f0, f1, f2, f3, f4, -, f6, -, -, hσ⟩ := hJ
    obtain ⟨e0, e1, e2, e3, e4, e5, e6, e7, e8, e9, e10, -⟩ := hE'
    obtain ⟨t0, t1, t2, t3, -⟩ := hT'
    obtain ⟨p0, p1, p2, p3, p4, p5, p6, p7, -⟩ := hL'
    obtain rfl := sg_tn hs'
    exact k4 (x' 7) (x' 8) (x' 9) (x' 10) (x' 11) L' S' hP' hσ f0 f1 f2 f3 f4 f6 e0 e1 e2 e3 e4 e5 e6 e7 e8 e9 e10 t0 t1 t2 t3 p0 p1 p2 p3 p4 p5 p6 p7
  · obtain ⟨f0, f1, f2, f3, f4, -, f6, f7, -, -, hσ⟩ := hJ
    obtain ⟨e0, e1, e2, e3, e4, e5, e6, e7, e8, e9, e10, -⟩ := hE'
    obtain ⟨t0, t1, t2, t3, -⟩ := hT'
    obtain ⟨p0, p1, p2, p3, p4, p5, p6, p7, -⟩ := hL'
    obtain rfl := sg_tn hs'
    exact k5 (x' 7) (x' 8) (x' 9) (x' 10) (x' 11) L' S' hP' hσ f0 f1 f2 f3 f4 f6 f7 e0 e1 e2 e3 e4 e5 e6 e7 e8 e9 e10 t0 t1 t2 t3 p0 p1 p2 p3 p4 p5 p6 p7
  · obtain ⟨f0, f1, f2, f3, f4, -, f6, f7, -, -, f10, f11, hσ⟩ := hJ
    obtain ⟨e0, e1, e2, e3, e4, e5, e6, e7, e8, e9, e10, e11, e12, -⟩ := hE'
    obtain ⟨t0, t1, t2, t3, t4, t5, -⟩ := hT'
    obtain ⟨p0, p1, p2, p3, p4, p5, p6, p7, -⟩ := hL'
    obtain rfl := sg_tn hs'
    exact k6 (x' 7) (x' 8) (x' 9) (x' 10) (x' 11) (x' 12) (x' 13) (x' 14) (x' 15) L' S' hP' hσ f0 f1 f2 f3 f4 f6 f7 f10 f11 e0 e1 e2 e3 e4 e5 e6 e7 e8 e9 e10 e11 e12 t0 t1 t2 t3 t4 t5 p0 p1 p2 p3 p4 p5 p6 p7
def sg_fm_a_Z : List sg_z := [(0, [], [.inl (true, (0, .ofNat 0, .negSucc 0))], [(2, 0, (0, .ofNat 0, .ofNat 0), (0, .ofNat 0, .ofNat 0), (0, .ofNat 0, .ofNat 0)), (2, 0, (0, .ofNat 0, .ofNat 0), (0, .ofNat 0, .ofNat 0), (0, .ofNat 0, .ofNat 0)), (2, 2, (1, .ofNat 1, .ofNat 0), (0, .ofNat 0, .negSucc 39), (0, .ofNat 0, .ofNat 0))], [(1, [(.negSucc 2147483647, .negSucc 40)])], [], []),
  (0, [], [.inl (true, (0, .ofNat 0, .negSucc 0))], [(2, 0, (0, .ofNat 0, .ofNat 0), (0, .ofNat 0, .ofNat 0), (0, .ofNat 0, .ofNat 0)), (2, 0, (0, .ofNat 0, .ofNat 0), (0, .ofNat 0, .ofNat 0), (0, .ofNat 0, .ofNat 0)), (2, 4, (1, .ofNat 1, .ofNat 0), (0, .ofNat 0, .ofNat 40), (0, .ofNat 0, .ofNat 0)), (2, 3, (1, .ofNat 1, .ofNat 0), (0, .ofNat 0, .negSucc 39), (0, .ofNat 0, .ofNat 0))], [(1, [(.ofNat 41, .ofNat 2147483647)])], [], []),
  (0, [], [.inl (true, (0, .ofNat 0, .negSucc 0))], [(2, 0, (0, .ofNat 0, .ofNat 0), (0, .ofNat 0, .ofNat 0), (0, .ofNat 0, .ofNat 0)), (2, 0, (0, .ofNat 0, .ofNat 0), (0, .ofNat 0, .ofNat 0), (0, .ofNat 0, .ofNat 0)), (2, 2, (2, .ofNat 1, .ofNat 0), (0, .ofNat 0, .negSucc 11), (0, .ofNat 0, .ofNat 0)), (2, 1, (0, .ofNat 0, .ofNat 1), (0, .ofNat 0, .ofNat 0), (0, .ofNat 0, .ofNat 0)), (2, 5, (1, .ofNat 1, .ofNat 0), (0, .ofNat 0, .ofNat 40), (0, .ofNat 0, .ofNat 0)), (2, 3, (1, .ofNat 1, .ofNat 0), (0, .ofNat 0, .negSucc 39), (0, .ofNat 0, .ofNat 0))], [(1, [(.negSucc 39, .ofNat 40)]), (2, [(.negSucc 2147483647, .negSucc 12)])], [], []),
  (0, [], [.inl (true, (0, .ofNat 0, .negSucc 0))], [(2, 0, (0, .ofNat 0, .ofNat 0), (0, .ofNat 0, .ofNat 0), (0, .ofNat 0, .ofNat 0)), (2, 0, (0, .ofNat 0, .ofNat 0), (0, .ofNat 0, .ofNat 0), (0, .ofNat 0, .ofNat 0)), (2, 4, (2, .ofNat 1, .ofNat 0), (0, .ofNat 0, .ofNat 12), (0, .ofNat 0, .ofNat 0)), (2, 3, (2, .ofNat 1, .ofNat 0), (0, .ofNat 0, .negSucc 11), (0, .ofNat 0, .ofNat 0)), (2, 1, (0, .ofNat 0, .ofNat 1), (0, .ofNat 0, .ofNat 0), (0, .ofNat 0, .ofNat 0)), (2, 5, (1, .ofNat 1, .ofNat 0), (0, .ofNat 0, .ofNat 40), (0, .ofNat 0, .ofNat 0)), (2, 3, (1, .ofNat 1, .ofNat 0), (0, .ofNat 0, .negSucc 39), (0, .ofNat 0, .ofNat 0))], [(1, [(.negSucc 39, .ofNat 40)]), (2, [(.ofNat 13, .ofNat 2147483647)])], [], []),
  (25, [(0, .inr (.inl [122])), (1, .inl (false, (1, .ofNat 1, .ofNat 0))), (2, .inl (false, (2, .ofNat 1, .ofNat 0)))], [.inr (.inl [122])], [(2, 1, (3, .ofNat 1, .ofNat 0), (0, .ofNat 0, .ofNat 0), (0, .ofNat 0, .ofNat 0)), (0, 122, (0, .ofNat 0, .ofNat 34), (3, .ofNat 1, .ofNat 0), (0, .ofNat 0, .ofNat 0)), (2, 1, (0, .ofNat 0, .ofNat 1), (0, .ofNat 0, .ofNat 0), (0, .ofNat 0, .ofNat 0)), (2, 1, (0, .ofNat 0, .ofNat 1), (0, .ofNat 0, .ofNat 0), (0, .ofNat 0, .ofNat 0)), (2, 5, (2, .ofNat 1, .ofNat 0), (0, .ofNat 0, .ofNat 12), (0, .ofNat 0, .ofNat 0)), (2, 3, (2, .ofNat 1, .ofNat 0), (0, .ofNat 0, .negSucc 11), (0, .ofNat 0, .ofNat 0)), (2, 1, (0, .ofNat 0, .ofNat 1), (0, .ofNat 0, .ofNat 0), (0, .ofNat 0, .ofNat 0)), (2, 5, (1, .ofNat 1, .ofNat 0), (0, .ofNat 0, .ofNat 40), (0, .ofNat 0, .ofNat 0)), (2, 3, (1, .ofNat 1, .ofNat 0), (0, .ofNat 0, .negSucc 39), (0, .ofNat 0, .ofNat 0))], [(1, [(.negSucc 39, .ofNat 40)]), (2, [(.negSucc 11, .ofNat 12)]), (3, [(.ofNat 1, .ofNat 4)])], [], []),
  (0, [], [.inl (true, (0, .ofNat 0, .negSucc 1))], [(2, 0, (3, .ofNat 1, .ofNat 0), (0, .ofNat 0, .ofNat 0), (0, .ofNat 0, .ofNat 0)), (0, 122, (0, .ofNat 0, .ofNat 34), (3, .ofNat 1, .ofNat 0), (0, .ofNat 0, .ofNat 0)), (2, 1, (0, .ofNat 0, .ofNat 1), (0, .ofNat 0, .ofNat 0), (0, .ofNat 0, .ofNat 0)), (2, 1, (0, .ofNat 0, .ofNat 1), (0, .ofNat 0, .ofNat 0), (0, .ofNat 0, .ofNat 0)), (2, 5, (2, .ofNat 1, .ofNat 0), (0, .ofNat 0, .ofNat 12), (0, .ofNat 0, .ofNat 0)), (2, 3, (2, .ofNat 1, .ofNat 0), (0, .ofNat 0, .negSucc 11), (0, .ofNat 0, .ofNat 0)), (2, 1, (0, .ofNat 0, .ofNat 1), (0, .ofNat 0, .ofNat 0), (0, .ofNat 0, .ofNat 0)), (2, 5, (1, .ofNat 1, .ofNat 0), (0, .ofNat 0, .ofNat 40), (0, .ofNat 0, .ofNat 0)), (2, 3, (1, .ofNat 1, .ofNat 0), (0, .ofNat 0, .negSucc 39), (0, .ofNat 0, .ofNat 0))], [(1, [(.negSucc 39, .ofNat 40)]), (2, [(.negSucc 11, .ofNat 12)]), (3, [(.ofNat 0, .ofNat 0)])], [], [])]
set_option maxRecDepth 1000000 in
theorem sg_fm_a_g : sg_go [] [24] 3000 221 0 2 3 [(0, [(.ofNat 0, .ofNat 0)]), (1, [(.negSucc 2147483647, .ofNat 2147483647)]), (2, [(.negSucc 2147483647, .ofNat 2147483647)])] [] [] [] [(0, .inr (.inl [122])), (1, .inl (false, (1, .ofNat 1, .ofNat 0))), (2, .inl (false, (2, .ofNat 1, .ofNat 0)))] [] [] sg_fm_a_Z = true := by decide +kernel
set_option maxRecDepth 100000 in
theorem sg_fm_a {Q : Option Value × am_S → Prop} {d : Nat} {S : am_S} {L : am_L} {x1 x2 : Int} (hd : 2 ≤ d) (hP : ax_P0 none S) (l0 : lc L 0 122) (l1 : li L 1 x1) (l2 : li L 2 x2) (b1 : ((-2147483648) ≤ x1 ∧ x1 ≤ 2147483647)) (b2 : ((-2147483648) ≤ x2 ∧ x2 ≤ 2147483647))
    (k0 : ∀ (i1 : Int64), x1 < (-40) → ((-2147483648) ≤ x1 ∧ x1 ≤ (-41)) → i1.toInt = (-1) → Q (some (.long i1), S))
    (k1 : ∀ (i1 : Int64), (-40) ≤ x1 → 40 < x1 → (41 ≤ x1 ∧ x1 ≤ 2147483647) → i1.toInt = (-1) → Q (some (.long i1), S))
    (k2 : ∀ (i1 : Int64), (-40) ≤ x1 → x1 ≤ 40 → x2 < (-12) → ((-40) ≤ x1 ∧ x1 ≤ 40) → ((-2147483648) ≤ x2 ∧ x2 ≤ (-13)) → i1.toInt = (-1) → Q (some (.long i1), S))
    (k3 : ∀ (i1 : Int64), (-40) ≤ x1 → x1 ≤ 40 → (-12) ≤ x2 → 12 < x2 → ((-40) ≤ x1 ∧ x1 ≤ 40) → (13 ≤ x2 ∧ x2 ≤ 2147483647) → i1.toInt = (-1) → Q (some (.long i1), S))
    (k4 : ∀ (x3 : Int) (L' : am_L), (-40) ≤ x1 → x1 ≤ 40 → (-12) ≤ x2 → x2 ≤ 12 → rd S 122 34 = x3 → x3 ≠ 0 → ((-40) ≤ x1 ∧ x1 ≤ 40) → ((-12) ≤ x2 ∧ x2 ≤ 12) → (1 ≤ x3 ∧ x3 ≤ 4) → lc L' 0 122 → li L' 1 x1 → li L' 2 x2 → am_V none d 221 24 L' ((.ref 122) :: []) S Q)
    (k5 : ∀ (x3 : Int) (i1 : Int64), (-40) ≤ x1 → x1 ≤ 40 → (-12) ≤ x2 → x2 ≤ 12 → rd S 122 34 = x3 → x3 = 0 → ((-40) ≤ x1 ∧ x1 ≤ 40) → ((-12) ≤ x2 ∧ x2 ≤ 12) → (0 ≤ x3 ∧ x3 ≤ 0) → i1.toInt = (-2) → Q (some (.long i1), S)) : am_V none d 221 0 L ([]) S Q := by
  refine sg_use sg_fm_a_g hd hP (sg_xs [0, x1, x2]) ⟨⟨Int.le_refl 0, Int.le_refl 0⟩, b1, b2, trivial⟩ trivial trivial trivial ⟨l0, l1, l2, trivial⟩ trivial ?_
  intro z hz x' L' st' S' hx hP' hW hL' hs' hJ hE' hT' hD'
  have q1 : x' 1 = x1 := hx 1 (by decide)
  subst q1
  have q2 : x' 2 = x2 := hx 2 (by decide)
  subst q2
  have eS : S' = S := hW.1 rfl
  subst eS
  simp only [sg_fm_a_Z, List.mem_cons, List.not_mem_nil, or_false] at hz
  rcases hz with rfl | rfl | rfl | rfl | rfl | rfl
  · obtain ⟨f0, -, -, hσ⟩ := hJ
    obtain ⟨e0, -⟩ := hE'
    intro v hv
    subst hv
    cases v with
    | none => exact hs'.elim
    | some v1 =>
      obtain ⟨⟨i1, rfl, g1⟩, -⟩ := hs'
      exact k0 i1 f0 e0 g1
  · obtain ⟨f0, f1, -, -, hσ⟩ := hJ
    obtain ⟨e0, -⟩ := hE'
    intro v hv
    subst hv
    cases v with
    | none => exact hs'.elim
    | some v1 =>
      obtain ⟨⟨i1, rfl, g1⟩, -⟩ := hs'
      exact k1 i1 f0 f1 e0 g1
  · obtain ⟨f0, f1, -, f3, -, -, hσ⟩ := hJ
    obtain ⟨e0, e1, -⟩ := hE'
    intro v hv
    subst hv
    cases v with
    | none => exact hs'.elim
    | some v1 =>
      obtain ⟨⟨i1, rfl, g1⟩, -⟩ := hs'
      exact k2 i1 f0 f1 f3 e0 e1 g1
  · obtain ⟨f0, f1, -, f3, f4, -, -, hσ⟩ := hJ
    obtain ⟨e0, e1, -⟩ := hE'
    intro v hv
    subst hv
    cases v with
    | none => exact hs'.elim
    | some v1 =>
      obtain ⟨⟨i1, rfl, g1⟩, -⟩ := hs'
      exact k3 i1 f0 f1 f3 f4 e0 e1 g1
  · obtain ⟨f0, f1, -, f3, f4, -, -, f7, f8, hσ⟩ := hJ
    obtain ⟨e0, e1, e2, -⟩ := hE'
    obtain ⟨p0, p1, p2, -⟩ := hL'
    obtain ⟨v1, r1, rfl, rfl, hs1⟩ := sg_tc hs'
    obtain rfl := sg_tn hs1
    exact k4 (x' 3) L' f0 f1 f3 f4 f7 f8 e0 e1 e2 p0 p1 p2
  · obtain ⟨f0, f1, -, f3, f4, -, -, f7, f8, hσ⟩ := hJ
    obtain ⟨e0, e1, e2, -⟩ := hE'
    intro v hv
    subst hv
    cases v with
    | none => exact hs'.elim
    | some v1 =>
      obtain ⟨⟨i1, rfl, g1⟩, -⟩ := hs'
      exact k5 (x' 3) i1 f0 f1 f3 f4 f7 f8 e0 e1 e2 g1
def sg_fm_b_Z : List sg_z := [(0, [], [.inl (true, (4, .ofNat 1, .ofNat 0))], [(0, 148, (3, .ofNat 1, .ofNat 12), (4, .ofNat 1, .ofNat 0), (0, .ofNat 0, .ofNat 0)), (2, 1, (0, .ofNat 0, .ofNat 1), (0, .ofNat 0, .ofNat 0), (0, .ofNat 0, .ofNat 0)), (2, 1, (0, .ofNat 0, .ofNat 1), (0, .ofNat 0, .ofNat 0), (0, .ofNat 0, .ofNat 0)), (2, 5, (2, .ofNat 1, .ofNat 0), (0, .ofNat 0, .ofNat 12), (0, .ofNat 0, .ofNat 0)), (2, 3, (2, .ofNat 1, .ofNat 0), (0, .ofNat 0, .negSucc 11), (0, .ofNat 0, .ofNat 0)), (2, 1, (0, .ofNat 0, .ofNat 1), (0, .ofNat 0, .ofNat 0), (0, .ofNat 0, .ofNat 0)), (2, 5, (1, .ofNat 1, .ofNat 0), (0, .ofNat 0, .ofNat 40), (0, .ofNat 0, .ofNat 0)), (2, 3, (1, .ofNat 1, .ofNat 0), (0, .ofNat 0, .negSucc 39), (0, .ofNat 0, .ofNat 0))], [(1, [(.negSucc 39, .ofNat 40)]), (2, [(.negSucc 11, .ofNat 12)]), (3, [(.negSucc 11, .ofNat 2012)])], [((1, .ofNat 25, .ofNat 1000), (2, .ofNat 1, .ofNat 0), (3, .ofNat 1, .ofNat 0))], [])]
set_option maxRecDepth 1000000 in
theorem sg_fm_b_g : sg_go [] [] 3000 221 27 3 3 [(0, [(.ofNat 0, .ofNat 0)]), (1, [(.negSucc 39, .ofNat 40)]), (2, [(.negSucc 11, .ofNat 12)])] [] [] [] [(0, .inr (.inl [122])), (1, .inl (false, (1, .ofNat 1, .ofNat 0))), (2, .inl (false, (2, .ofNat 1, .ofNat 0)))] [] [] sg_fm_b_Z = true := by decide +kernel
set_option maxRecDepth 100000 in
theorem sg_fm_b {Q : Option Value × am_S → Prop} {d : Nat} {S : am_S} {L : am_L} {x1 x2 : Int} (hd : 3 ≤ d) (hP : ax_P0 none S) (l0 : lc L 0 122) (l1 : li L 1 x1) (l2 : li L 2 x2) (b1 : ((-40) ≤ x1 ∧ x1 ≤ 40)) (b2 : ((-12) ≤ x2 ∧ x2 ≤ 12))
    (k0 : ∀ (x3 x4 : Int) (i1 : Int64), (-40) ≤ x1 → x1 ≤ 40 → (-12) ≤ x2 → x2 ≤ 12 → rd S 148 (x3 + 12) = x4 → ((-40) ≤ x1 ∧ x1 ≤ 40) → ((-12) ≤ x2 ∧ x2 ≤ 12) → ((-12) ≤ x3 ∧ x3 ≤ 2012) → (25 * x1 + 1000) + x2 = x3 → i1.toInt = x4 → Q (some (.long i1), S)) : am_V none d 221 27 L ([]) S Q := by
  refine sg_use sg_fm_b_g hd hP (sg_xs [0, x1, x2]) ⟨⟨Int.le_refl 0, Int.le_refl 0⟩, b1, b2, trivial⟩ trivial trivial trivial ⟨l0, l1, l2, trivial⟩ trivial ?_
  intro z hz x' L' st' S' hx hP' hW hL' hs' hJ hE' hT' hD'
  have q1 : x' 1 = x1 := hx 1 (by decide)
  subst q1
  have q2 : x' 2 = x2 := hx 2 (by decide)
  subst q2
  have eS : S' = S := hW.1 rfl
  subst eS
  simp only [sg_fm_b_Z, List.mem_cons, List.not_mem_nil, or_false] at hz
  rcases hz with rfl
  · obtain ⟨f0, f1, -, f3, f4, -, -, f7, hσ⟩ := hJ
    obtain ⟨e0, e1, e2, -⟩ := hE'
    obtain ⟨t0, -⟩ := hT'
    intro v hv
    subst hv
    cases v with
    | none => exact hs'.elim
    | some v1 =>
      obtain ⟨⟨i1, rfl, g1⟩, -⟩ := hs'
      exact k0 (x' 3) (x' 4) i1 f0 f1 f3 f4 f7 e0 e1 e2 t0 g1
def sg_tm_a_Z : List sg_z := [(0, [], [.inl (true, (0, .ofNat 0, .negSucc 0))], [(2, 0, (0, .ofNat 0, .ofNat 0), (0, .ofNat 0, .ofNat 0), (0, .ofNat 0, .ofNat 0)), (2, 2, (1, .ofNat 1, .ofNat 0), (0, .ofNat 0, .ofNat 0), (0, .ofNat 0, .ofNat 0))], [(1, [(.negSucc 2147483647, .negSucc 0)])], [], []),
  (0, [], [.inl (true, (0, .ofNat 0, .negSucc 0))], [(2, 0, (0, .ofNat 0, .ofNat 0), (0, .ofNat 0, .ofNat 0), (0, .ofNat 0, .ofNat 0)), (2, 4, (1, .ofNat 1, .ofNat 0), (0, .ofNat 0, .ofNat 40), (0, .ofNat 0, .ofNat 0)), (2, 3, (1, .ofNat 1, .ofNat 0), (0, .ofNat 0, .ofNat 0), (0, .ofNat 0, .ofNat 0))], [(1, [(.ofNat 41, .ofNat 2147483647)])], [], []),
  (0, [], [.inl (true, (0, .ofNat 0, .negSucc 0))], [(2, 0, (0, .ofNat 0, .ofNat 0), (0, .ofNat 0, .ofNat 0), (0, .ofNat 0, .ofNat 0)), (2, 2, (2, .ofNat 1, .ofNat 0), (0, .ofNat 0, .ofNat 0), (0, .ofNat 0, .ofNat 0)), (2, 1, (0, .ofNat 0, .ofNat 1), (0, .ofNat 0, .ofNat 0), (0, .ofNat 0, .ofNat 0)), (2, 5, (1, .ofNat 1, .ofNat 0), (0, .ofNat 0, .ofNat 40), (0, .ofNat 0, .ofNat 0)), (2, 3, (1, .ofNat 1, .ofNat 0), (0, .ofNat 0, .ofNat 0), (0, .ofNat 0, .ofNat 0))], [(1, [(.ofNat 0, .ofNat 40)]), (2, [(.negSucc 2147483647, .negSucc 0)])], [], []),
  (0, [], [.inl (true, (0, .ofNat 0, .negSucc 0))], [(2, 0, (0, .ofNat 0, .ofNat 0), (0, .ofNat 0, .ofNat 0), (0, .ofNat 0, .ofNat 0)), (2, 4, (2, .ofNat 1, .ofNat 0), (0, .ofNat 0, .ofNat 12), (0, .ofNat 0, .ofNat 0)), (2, 3, (2, .ofNat 1, .ofNat 0), (0, .ofNat 0, .ofNat 0), (0, .ofNat 0, .ofNat 0)), (2, 1, (0, .ofNat 0, .ofNat 1), (0, .ofNat 0, .ofNat 0), (0, .ofNat 0, .ofNat 0)), (2, 5, (1, .ofNat 1, .ofNat 0), (0, .ofNat 0, .ofNat 40), (0, .ofNat 0, .ofNat 0)), (2, 3, (1, .ofNat 1, .ofNat 0), (0, .ofNat 0, .ofNat 0), (0, .ofNat 0, .ofNat 0))], [(1, [(.ofNat 0, .ofNat 40)]), (2, [(.ofNat 13, .ofNat 2147483647)])], [], []),
  (41, [(0, .inr (.inl [122])), (1, .inl (false, (1, .ofNat 1, .ofNat 0))), (2, .inl (false, (2, .ofNat 1, .ofNat 0)))], [.inr (.inl [122])], [(2, 1, (3, .ofNat 1, .ofNat 0), (0, .ofNat 0, .ofNat 0), (0, .ofNat 0, .ofNat 0)), (0, 122, (0, .ofNat 0, .ofNat 34), (3, .ofNat 1, .ofNat 0), (0, .ofNat 0, .ofNat 0)), (2, 1, (0, .ofNat 0, .ofNat 1), (0, .ofNat 0, .ofNat 0), (0, .ofNat 0, .ofNat 0)), (2, 5, (2, .ofNat 1, .ofNat 0), (0, .ofNat 0, .ofNat 12), (0, .ofNat 0, .ofNat 0)), (2, 3, (2, .ofNat 1, .ofNat 0), (0, .ofNat 0, .ofNat 0), (0, .ofNat 0, .ofNat 0)), (2, 1, (0, .ofNat 0, .ofNat 1), (0, .ofNat 0, .ofNat 0), (0, .ofNat 0, .ofNat 0)), (2, 5, (1, .ofNat 1, .ofNat 0), (0, .ofNat 0, .ofNat 40), (0, .ofNat 0, .ofNat 0)), (2, 3, (1, .ofNat 1, .ofNat 0), (0, .ofNat 0, .ofNat 0), (0, .ofNat 0, .ofNat 0))], [(1, [(.ofNat 0, .ofNat 40)]), (2, [(.ofNat 0, .ofNat 12)]), (3, [(.ofNat 1, .ofNat 4)])], [], []),
  (0, [], [.inl (true, (0, .ofNat 0, .negSucc 1))], [(2, 0, (3, .ofNat 1, .ofNat 0), (0, .ofNat 0, .ofNat 0), (0, .ofNat 0, .ofNat 0)), (0, 122, (0, .ofNat 0, .ofNat 34), (3, .ofNat 1, .ofNat 0), (0, .ofNat 0, .ofNat 0)), (2, 1, (0, .ofNat 0, .ofNat 1), (0, .ofNat 0, .ofNat 0), (0, .ofNat 0, .ofNat 0)), (2, 5, (2, .ofNat 1, .ofNat 0), (0, .ofNat 0, .ofNat 12), (0, .ofNat 0, .ofNat 0)), (2, 3, (2, .ofNat 1, .ofNat 0), (0, .ofNat 0, .ofNat 0), (0, .ofNat 0, .ofNat 0)), (2, 1, (0, .ofNat 0, .ofNat 1), (0, .ofNat 0, .ofNat 0), (0, .ofNat 0, .ofNat 0)), (2, 5, (1, .ofNat 1, .ofNat 0), (0, .ofNat 0, .ofNat 40), (0, .ofNat 0, .ofNat 0)), (2, 3, (1, .ofNat 1, .ofNat 0), (0, .ofNat 0, .ofNat 0), (0, .ofNat 0, .ofNat 0))], [(1, [(.ofNat 0, .ofNat 40)]), (2, [(.ofNat 0, .ofNat 12)]), (3, [(.ofNat 0, .ofNat 0)])], [], [])]
set_option maxRecDepth 1000000 in
theorem sg_tm_a_g : sg_go [] [40] 3000 223 0 1 3 [(0, [(.ofNat 0, .ofNat 0)]), (1, [(.negSucc 2147483647, .ofNat 2147483647)]), (2, [(.negSucc 2147483647, .ofNat 2147483647)])] [] [] [] [(0, .inr (.inl [122])), (1, .inl (false, (1, .ofNat 1, .ofNat 0))), (2, .inl (false, (2, .ofNat 1, .ofNat 0)))] [] [] sg_tm_a_Z = true := by decide +kernel
set_option maxRecDepth 100000 in
theorem sg_tm_a {Q : Option Value × am_S → Prop} {d : Nat} {S : am_S} {L : am_L} {x1 x2 : Int} (hd : 1 ≤ d) (hP : ax_P0 none S) (l0 : lc L 0 122) (l1 : li L 1 x1) (l2 : li L 2 x2) (b1 : ((-2147483648) ≤ x1 ∧ x1 ≤ 2147483647)) (b2 : ((-2147483648) ≤ x2 ∧ x2 ≤ 2147483647))
    (k0 : ∀ (i1 : Int64), x1 < 0 → ((-2147483648) ≤ x1 ∧ x1 ≤ (-1)) → i1.toInt = (-1) → Q (some (.long i1), S))
    (k1 : ∀ (i1 : Int64), 0 ≤ x1 → 40 < x1 → (41 ≤ x1 ∧ x1 ≤ 2147483647) → i1.toInt = (-1) → Q (some (.long i1), S))
    (k2 : ∀ (i1 : Int64), 0 ≤ x1 → x1 ≤ 40 → x2 < 0 → (0 ≤ x1 ∧ x1 ≤ 40) → ((-2147483648) ≤ x2 ∧ x2 ≤ (-1)) → i1.toInt = (-1) → Q (some (.long i1), S))
    (k3 : ∀ (i1 : Int64), 0 ≤ x1 → x1 ≤ 40 → 0 ≤ x2 → 12 < x2 → (0 ≤ x1 ∧ x1 ≤ 40) → (13 ≤ x2 ∧ x2 ≤ 2147483647) → i1.toInt = (-1) → Q (some (.long i1), S))
    (k4 : ∀ (x3 : Int) (L' : am_L), 0 ≤ x1 → x1 ≤ 40 → 0 ≤ x2 → x2 ≤ 12 → rd S 122 34 = x3 → x3 ≠ 0 → (0 ≤ x1 ∧ x1 ≤ 40) → (0 ≤ x2 ∧ x2 ≤ 12) → (1 ≤ x3 ∧ x3 ≤ 4) → lc L' 0 122 → li L' 1 x1 → li L' 2 x2 → am_V none d 223 40 L' ((.ref 122) :: []) S Q)
    (k5 : ∀ (x3 : Int) (i1 : Int64), 0 ≤ x1 → x1 ≤ 40 → 0 ≤ x2 → x2 ≤ 12 → rd S 122 34 = x3 → x3 = 0 → (0 ≤ x1 ∧ x1 ≤ 40) → (0 ≤ x2 ∧ x2 ≤ 12) → (0 ≤ x3 ∧ x3 ≤ 0) → i1.toInt = (-2) → Q (some (.long i1), S)) : am_V none d 223 0 L ([]) S Q := by
  refine sg_use sg_tm_a_g hd hP (sg_xs [0, x1, x2]) ⟨⟨Int.le_refl 0, Int.le_refl 0⟩, b1, b2, trivial⟩ trivial trivial trivial ⟨l0, l1, l2, trivial⟩ trivial ?_
  intro z hz x' L' st' S' hx hP' hW hL' hs' hJ hE' hT' hD'
  have q1 : x' 1 = x1 := hx 1 (by decide)
  subst q1
  have q2 : x' 2 = x2 := hx 2 (by decide)
  subst q2
  have eS : S' = S := hW.1 rfl
  subst eS
  simp only [sg_tm_a_Z, List.mem_cons, List.not_mem_nil, or_false] at hz
  rcases hz with rfl | rfl | rfl | rfl | rfl | rfl
  · obtain ⟨f0, -, hσ⟩ := hJ
    obtain ⟨e0, -⟩ := hE'
    intro v hv
    subst hv
    cases v with
    | none => exact hs'.elim
    | some v1 =>
      obtain ⟨⟨i1, rfl, g1⟩, -⟩ := hs'
      exact k0 i1 f0 e0 g1
  · obtain ⟨f0, f1, -, hσ⟩ := hJ
    obtain ⟨e0, -⟩ := hE'
    intro v hv
    subst hv
    cases v with
    | none => exact hs'.elim
    | some v1 =>
      obtain ⟨⟨i1, rfl, g1⟩, -⟩ := hs'
      exact k1 i1 f0 f1 e0 g1
  · obtain ⟨f0, f1, -, f3, -, hσ⟩ := hJ
    obtain ⟨e0, e1, -⟩ := hE'
    intro v hv
    subst hv
    cases v with
    | none => exact hs'.elim
    | some v1 =>
      obtain ⟨⟨i1, rfl, g1⟩, -⟩ := hs'
      exact k2 i1 f0 f1 f3 e0 e1 g1
  · obtain ⟨f0, f1, -, f3, f4, -, hσ⟩ := hJ
    obtain ⟨e0, e1, -⟩ := hE'
    intro v hv
    subst hv
    cases v with
    | none => exact hs'.elim
    | some v1 =>
      obtain ⟨⟨i1, rfl, g1⟩, -⟩ := hs'
      exact k3 i1 f0 f1 f3 f4 e0 e1 g1
  · obtain ⟨f0, f1, -, f3, f4, -, f6, f7, hσ⟩ := hJ
    obtain ⟨e0, e1, e2, -⟩ := hE'
    obtain ⟨p0, p1, p2, -⟩ := hL'
    obtain ⟨v1, r1, rfl, rfl, hs1⟩ := sg_tc hs'
    obtain rfl := sg_tn hs1
    exact k4 (x' 3) L' f0 f1 f3 f4 f6 f7 e0 e1 e2 p0 p1 p2
  · obtain ⟨f0, f1, -, f3, f4, -, f6, f7, hσ⟩ := hJ
    obtain ⟨e0, e1, e2, -⟩ := hE'
    intro v hv
    subst hv
    cases v with
    | none => exact hs'.elim
    | some v1 =>
      obtain ⟨⟨i1, rfl, g1⟩, -⟩ := hs'
      exact k5 (x' 3) i1 f0 f1 f3 f4 f6 f7 e0 e1 e2 g1
def sg_tm_b_Z : List sg_z := [(47, [(0, .inr (.inl [122])), (1, .inl (false, (1, .ofNat 1, .ofNat 0))), (2, .inl (false, (2, .ofNat 1, .ofNat 0)))], [.inl (false, (2, .ofNat 1, .ofNat 0)), .inl (false, (1, .ofNat 1, .ofNat 0)), .inr (.inl [122])], [], [(1, [(.ofNat 0, .ofNat 40)]), (2, [(.ofNat 0, .ofNat 12)])], [], [])]
set_option maxRecDepth 1000000 in
theorem sg_tm_b_g : sg_go [] [46] 3000 223 43 0 3 [(0, [(.ofNat 0, .ofNat 0)]), (1, [(.ofNat 0, .ofNat 40)]), (2, [(.ofNat 0, .ofNat 12)])] [] [] [] [(0, .inr (.inl [122])), (1, .inl (false, (1, .ofNat 1, .ofNat 0))), (2, .inl (false, (2, .ofNat 1, .ofNat 0)))] [] [] sg_tm_b_Z = true := by decide +kernel
set_option maxRecDepth 100000 in
theorem sg_tm_b {Q : Option Value × am_S → Prop} {d : Nat} {S : am_S} {L : am_L} {x1 x2 : Int} (hd : 0 ≤ d) (hP : ax_P0 none S) (l0 : lc L 0 122) (l1 : li L 1 x1) (l2 : li L 2 x2) (b1 : (0 ≤ x1 ∧ x1 ≤ 40)) (b2 : (0 ≤ x2 ∧ x2 ≤ 12))
    (k0 : ∀ (L' : am_L) (i1 : Int32) (i2 : Int32), (0 ≤ x1 ∧ x1 ≤ 40) → (0 ≤ x2 ∧ x2 ≤ 12) → lc L' 0 122 → li L' 1 x1 → li L' 2 x2 → i1.toInt = x2 → i2.toInt = x1 → am_V none d 223 46 L' ((.int i1) :: (.int i2) :: (.ref 122) :: []) S Q) : am_V none d 223 43 L ([]) S Q := by
  refine sg_use sg_tm_b_g hd hP (sg_xs [0, x1, x2]) ⟨⟨Int.le_refl 0, Int.le_refl 0⟩, b1, b2, trivial⟩ trivial trivial trivial ⟨l0, l1, l2, trivial⟩ trivial ?_
  intro z hz x' L' st' S' hx hP' hW hL' hs' hJ hE' hT' hD'
  have q1 : x' 1 = x1 := hx 1 (by decide)
  subst q1
  have q2 : x' 2 = x2 := hx 2 (by decide)
  subst q2
  have eS : S' = S := hW.1 rfl
  subst eS
  simp only [sg_tm_b_Z, List.mem_cons, List.not_mem_nil, or_false] at hz
  rcases hz with rfl
  · have hσ := hJ
    obtain ⟨e0, e1, -⟩ := hE'
    obtain ⟨p0, p1, p2, -⟩ := hL'
    obtain ⟨v1, r1, rfl, ⟨i1, rfl, g1⟩, hs1⟩ := sg_tc hs'
    obtain ⟨v2, r2, rfl, ⟨i2, rfl, g2⟩, hs2⟩ := sg_tc hs1
    obtain ⟨v3, r3, rfl, rfl, hs3⟩ := sg_tc hs2
    obtain rfl := sg_tn hs3
    exact k0 L' i1 i2 e0 e1 p0 p1 p2 g1 g2
def sg_to_a_Z : List sg_z := [(0, [], [.inl (true, (4, .ofNat 1, .ofNat 0))], [(2, 0, (0, .ofNat 0, .ofNat 0), (0, .ofNat 0, .ofNat 0), (0, .ofNat 0, .ofNat 0)), (2, 0, (0, .ofNat 0, .ofNat 0), (0, .ofNat 0, .ofNat 0), (0, .ofNat 0, .ofNat 0)), (2, 4, (0, .ofNat 0, .ofNat 41), (0, .ofNat 0, .ofNat 40), (0, .ofNat 0, .ofNat 0)), (2, 3, (0, .ofNat 0, .ofNat 41), (0, .ofNat 0, .negSucc 39), (0, .ofNat 0, .ofNat 0)), (2, 0, (0, .ofNat 0, .ofNat 0), (0, .ofNat 0, .ofNat 0), (0, .ofNat 0, .ofNat 0)), (2, 0, (0, .ofNat 0, .ofNat 0), (0, .ofNat 0, .ofNat 0), (0, .ofNat 0, .ofNat 0)), (2, 4, (2, .ofNat 1, .ofNat 2), (0, .ofNat 0, .ofNat 12), (0, .ofNat 0, .ofNat 0)), (2, 3, (2, .ofNat 1, .ofNat 2), (0, .ofNat 0, .negSucc 11), (0, .ofNat 0, .ofNat 0)), (2, 1, (0, .ofNat 0, .ofNat 1), (0, .ofNat 0, .ofNat 0), (0, .ofNat 0, .ofNat 0)), (2, 5, (0, .ofNat 0, .ofNat 40), (0, .ofNat 0, .ofNat 40), (0, .ofNat 0, .ofNat 0)), (2, 3, (0, .ofNat 0, .ofNat 40), (0, .ofNat 0, .negSucc 39), (0, .ofNat 0, .ofNat 0)), (2, 0, (0, .ofNat 0, .ofNat 0), (0, .ofNat 0, .ofNat 0), (0, .ofNat 0, .ofNat 0)), (2, 0, (0, .ofNat 0, .ofNat 0), (0, .ofNat 0, .ofNat 0), (0, .ofNat 0, .ofNat 0)), (2, 4, (1, .ofNat 1, .ofNat 1), (0, .ofNat 0, .ofNat 40), (0, .ofNat 0, .ofNat 0)), (2, 3, (1, .ofNat 1, .ofNat 1), (0, .ofNat 0, .negSucc 39), (0, .ofNat 0, .ofNat 0)), (0, 148, (3, .ofNat 1, .ofNat 12), (4, .ofNat 1, .ofNat 0), (0, .ofNat 0, .ofNat 0)), (2, 1, (0, .ofNat 0, .ofNat 1), (0, .ofNat 0, .ofNat 0), (0, .ofNat 0, .ofNat 0)), (2, 1, (0, .ofNat 0, .ofNat 1), (0, .ofNat 0, .ofNat 0), (0, .ofNat 0, .ofNat 0)), (2, 5, (2, .ofNat 1, .ofNat 0), (0, .ofNat 0, .ofNat 12), (0, .ofNat 0, .ofNat 0)), (2, 3, (2, .ofNat 1, .ofNat 0), (0, .ofNat 0, .negSucc 11), (0, .ofNat 0, .ofNat 0)), (2, 1, (0, .ofNat 0, .ofNat 1), (0, .ofNat 0, .ofNat 0), (0, .ofNat 0, .ofNat 0)), (2, 5, (1, .ofNat 1, .ofNat 0), (0, .ofNat 0, .ofNat 40), (0, .ofNat 0, .ofNat 0)), (2, 3, (1, .ofNat 1, .ofNat 0), (0, .ofNat 0, .negSucc 39), (0, .ofNat 0, .ofNat 0))], [(1, [(.ofNat 40, .ofNat 40)]), (2, [(.ofNat 11, .ofNat 12)]), (3, [(.ofNat 1000, .ofNat 2012)])], [((1, .ofNat 25, .ofNat 1000), (2, .ofNat 1, .ofNat 0), (3, .ofNat 1, .ofNat 0))], []),
  (0, [], [.inl (true, (6, .ofNat 1, .ofNat 0))], [(2, 0, (0, .ofNat 0, .ofNat 0), (0, .ofNat 0, .ofNat 0), (0, .ofNat 0, .ofNat 0)), (2, 0, (0, .ofNat 0, .ofNat 0), (0, .ofNat 0, .ofNat 0), (0, .ofNat 0, .ofNat 0)), (2, 4, (0, .ofNat 0, .ofNat 41), (0, .ofNat 0, .ofNat 40), (0, .ofNat 0, .ofNat 0)), (2, 3, (0, .ofNat 0, .ofNat 41), (0, .ofNat 0, .negSucc 39), (0, .ofNat 0, .ofNat 0)), (4, 4, (4, .ofNat 1, .ofNat 0), (5, .ofNat 1, .ofNat 0), (6, .ofNat 1, .ofNat 0)), (0, 148, (2, .ofNat 1, .ofNat 2014), (5, .ofNat 1, .ofNat 0), (0, .ofNat 0, .ofNat 0)), (2, 1, (0, .ofNat 0, .ofNat 1), (0, .ofNat 0, .ofNat 0), (0, .ofNat 0, .ofNat 0)), (2, 1, (0, .ofNat 0, .ofNat 1), (0, .ofNat 0, .ofNat 0), (0, .ofNat 0, .ofNat 0)), (2, 5, (2, .ofNat 1, .ofNat 2), (0, .ofNat 0, .ofNat 12), (0, .ofNat 0, .ofNat 0)), (2, 3, (2, .ofNat 1, .ofNat 2), (0, .ofNat 0, .negSucc 11), (0, .ofNat 0, .ofNat 0)), (2, 1, (0, .ofNat 0, .ofNat 1), (0, .ofNat 0, .ofNat 0), (0, .ofNat 0, .ofNat 0)), (2, 5, (0, .ofNat 0, .ofNat 40), (0, .ofNat 0, .ofNat 40), (0, .ofNat 0, .ofNat 0)), (2, 3, (0, .ofNat 0, .ofNat 40), (0, .ofNat 0, .negSucc 39), (0, .ofNat 0, .ofNat 0)), (2, 0, (0, .ofNat 0, .ofNat 0), (0, .ofNat 0, .ofNat 0), (0, .ofNat 0, .ofNat 0)), (2, 0, (0, .ofNat 0, .ofNat 0), (0, .ofNat 0, .ofNat 0), (0, .ofNat 0, .ofNat 0)), (2, 4, (1, .ofNat 1, .ofNat 1), (0, .ofNat 0, .ofNat 40), (0, .ofNat 0, .ofNat 0)), (2, 3, (1, .ofNat 1, .ofNat 1), (0, .ofNat 0, .negSucc 39), (0, .ofNat 0, .ofNat 0)), (0, 148, (3, .ofNat 1, .ofNat 12), (4, .ofNat 1, .ofNat 0), (0, .ofNat 0, .ofNat 0)), (2, 1, (0, .ofNat 0, .ofNat 1), (0, .ofNat 0, .ofNat 0), (0, .ofNat 0, .ofNat 0)), (2, 1, (0, .ofNat 0, .ofNat 1), (0, .ofNat 0, .ofNat 0), (0, .ofNat 0, .ofNat 0)), (2, 5, (2, .ofNat 1, .ofNat 0), (0, .ofNat 0, .ofNat 12), (0, .ofNat 0, .ofNat 0)), (2, 3, (2, .ofNat 1, .ofNat 0), (0, .ofNat 0, .negSucc 11), (0, .ofNat 0, .ofNat 0)), (2, 1, (0, .ofNat 0, .ofNat 1), (0, .ofNat 0, .ofNat 0), (0, .ofNat 0, .ofNat 0)), (2, 5, (1, .ofNat 1, .ofNat 0), (0, .ofNat 0, .ofNat 40), (0, .ofNat 0, .ofNat 0)), (2, 3, (1, .ofNat 1, .ofNat 0), (0, .ofNat 0, .negSucc 39), (0, .ofNat 0, .ofNat 0))], [(1, [(.ofNat 40, .ofNat 40)]), (2, [(.ofNat 0, .ofNat 10)]), (3, [(.ofNat 1000, .ofNat 2012)])], [((1, .ofNat 25, .ofNat 1000), (2, .ofNat 1, .ofNat 0), (3, .ofNat 1, .ofNat 0))], []),
  (0, [], [.inl (true, (7, .ofNat 1, .ofNat 0))], [(2, 0, (0, .ofNat 0, .ofNat 0), (0, .ofNat 0, .ofNat 0), (0, .ofNat 0, .ofNat 0)), (2, 0, (0, .ofNat 0, .ofNat 0), (0, .ofNat 0, .ofNat 0), (0, .ofNat 0, .ofNat 0)), (2, 4, (2, .ofNat 1, .ofNat 2), (0, .ofNat 0, .ofNat 12), (0, .ofNat 0, .ofNat 0)), (2, 3, (2, .ofNat 1, .ofNat 2), (0, .ofNat 0, .negSucc 11), (0, .ofNat 0, .ofNat 0)), (2, 1, (0, .ofNat 0, .ofNat 1), (0, .ofNat 0, .ofNat 0), (0, .ofNat 0, .ofNat 0)), (2, 5, (1, .ofNat 1, .ofNat 1), (0, .ofNat 0, .ofNat 40), (0, .ofNat 0, .ofNat 0)), (2, 3, (1, .ofNat 1, .ofNat 1), (0, .ofNat 0, .negSucc 39), (0, .ofNat 0, .ofNat 0)), (2, 0, (0, .ofNat 0, .ofNat 0), (0, .ofNat 0, .ofNat 0), (0, .ofNat 0, .ofNat 0)), (2, 0, (0, .ofNat 0, .ofNat 0), (0, .ofNat 0, .ofNat 0), (0, .ofNat 0, .ofNat 0)), (2, 4, (2, .ofNat 1, .ofNat 2), (0, .ofNat 0, .ofNat 12), (0, .ofNat 0, .ofNat 0)), (2, 3, (2, .ofNat 1, .ofNat 2), (0, .ofNat 0, .negSucc 11), (0, .ofNat 0, .ofNat 0)), (2, 1, (0, .ofNat 0, .ofNat 1), (0, .ofNat 0, .ofNat 0), (0, .ofNat 0, .ofNat 0)), (2, 5, (1, .ofNat 1, .ofNat 0), (0, .ofNat 0, .ofNat 40), (0, .ofNat 0, .ofNat 0)), (2, 3, (1, .ofNat 1, .ofNat 0), (0, .ofNat 0, .negSucc 39), (0, .ofNat 0, .ofNat 0)), (4, 4, (4, .ofNat 1, .ofNat 0), (6, .ofNat 1, .ofNat 0), (7, .ofNat 1, .ofNat 0)), (0, 148, (5, .ofNat 1, .ofNat 12), (6, .ofNat 1, .ofNat 0), (0, .ofNat 0, .ofNat 0)), (2, 1, (0, .ofNat 0, .ofNat 1), (0, .ofNat 0, .ofNat 0), (0, .ofNat 0, .ofNat 0)), (2, 1, (0, .ofNat 0, .ofNat 1), (0, .ofNat 0, .ofNat 0), (0, .ofNat 0, .ofNat 0)), (2, 5, (2, .ofNat 1, .ofNat 0), (0, .ofNat 0, .ofNat 12), (0, .ofNat 0, .ofNat 0)), (2, 3, (2, .ofNat 1, .ofNat 0), (0, .ofNat 0, .negSucc 11), (0, .ofNat 0, .ofNat 0)), (2, 1, (0, .ofNat 0, .ofNat 1), (0, .ofNat 0, .ofNat 0), (0, .ofNat 0, .ofNat 0)), (2, 5, (1, .ofNat 1, .ofNat 1), (0, .ofNat 0, .ofNat 40), (0, .ofNat 0, .ofNat 0)), (2, 3, (1, .ofNat 1, .ofNat 1), (0, .ofNat 0, .negSucc 39), (0, .ofNat 0, .ofNat 0)), (0, 148, (3, .ofNat 1, .ofNat 12), (4, .ofNat 1, .ofNat 0), (0, .ofNat 0, .ofNat 0)), (2, 1, (0, .ofNat 0, .ofNat 1), (0, .ofNat 0, .ofNat 0), (0, .ofNat 0, .ofNat 0)), (2, 1, (0, .ofNat 0, .ofNat 1), (0, .ofNat 0, .ofNat 0), (0, .ofNat 0, .ofNat 0)), (2, 5, (2, .ofNat 1, .ofNat 0), (0, .ofNat 0, .ofNat 12), (0, .ofNat 0, .ofNat 0)), (2, 3, (2, .ofNat 1, .ofNat 0), (0, .ofNat 0, .negSucc 11), (0, .ofNat 0, .ofNat 0)), (2, 1, (0, .ofNat 0, .ofNat 1), (0, .ofNat 0, .ofNat 0), (0, .ofNat 0, .ofNat 0)), (2, 5, (1, .ofNat 1, .ofNat 0), (0, .ofNat 0, .ofNat 40), (0, .ofNat 0, .ofNat 0)), (2, 3, (1, .ofNat 1, .ofNat 0), (0, .ofNat 0, .negSucc 39), (0, .ofNat 0, .ofNat 0))], [(1, [(.ofNat 0, .ofNat 39)]), (2, [(.ofNat 11, .ofNat 12)]), (3, [(.ofNat 1000, .ofNat 2012)]), (5, [(.ofNat 1025, .ofNat 2012)])], [((1, .ofNat 25, .ofNat 1025), (2, .ofNat 1, .ofNat 0), (5, .ofNat 1, .ofNat 0)), ((1, .ofNat 25, .ofNat 1000), (2, .ofNat 1, .ofNat 0), (3, .ofNat 1, .ofNat 0))], []),
  (0, [], [.inl (true, (13, .ofNat 1, .ofNat 0))], [(4, 3, (10, .ofNat 1, .ofNat 0), (12, .ofNat 1, .ofNat 0), (13, .ofNat 1, .ofNat 0)), (0, 148, (11, .ofNat 1, .ofNat 12), (12, .ofNat 1, .ofNat 0), (0, .ofNat 0, .ofNat 0)), (2, 1, (0, .ofNat 0, .ofNat 1), (0, .ofNat 0, .ofNat 0), (0, .ofNat 0, .ofNat 0)), (2, 1, (0, .ofNat 0, .ofNat 1), (0, .ofNat 0, .ofNat 0), (0, .ofNat 0, .ofNat 0)), (2, 5, (2, .ofNat 1, .ofNat 2), (0, .ofNat 0, .ofNat 12), (0, .ofNat 0, .ofNat 0)), (2, 3, (2, .ofNat 1, .ofNat 2), (0, .ofNat 0, .negSucc 11), (0, .ofNat 0, .ofNat 0)), (2, 1, (0, .ofNat 0, .ofNat 1), (0, .ofNat 0, .ofNat 0), (0, .ofNat 0, .ofNat 0)), (2, 5, (1, .ofNat 1, .ofNat 1), (0, .ofNat 0, .ofNat 40), (0, .ofNat 0, .ofNat 0)), (2, 3, (1, .ofNat 1, .ofNat 1), (0, .ofNat 0, .negSucc 39), (0, .ofNat 0, .ofNat 0)), (4, 4, (7, .ofNat 1, .ofNat 0), (9, .ofNat 1, .ofNat 0), (10, .ofNat 1, .ofNat 0)), (0, 148, (8, .ofNat 1, .ofNat 12), (9, .ofNat 1, .ofNat 0), (0, .ofNat 0, .ofNat 0)), (2, 1, (0, .ofNat 0, .ofNat 1), (0, .ofNat 0, .ofNat 0), (0, .ofNat 0, .ofNat 0)), (2, 1, (0, .ofNat 0, .ofNat 1), (0, .ofNat 0, .ofNat 0), (0, .ofNat 0, .ofNat 0)), (2, 5, (2, .ofNat 1, .ofNat 2), (0, .ofNat 0, .ofNat 12), (0, .ofNat 0, .ofNat 0)), (2, 3, (2, .ofNat 1, .ofNat 2), (0, .ofNat 0, .negSucc 11), (0, .ofNat 0, .ofNat 0)), (2, 1, (0, .ofNat 0, .ofNat 1), (0, .ofNat 0, .ofNat 0), (0, .ofNat 0, .ofNat 0)), (2, 5, (1, .ofNat 1, .ofNat 0), (0, .ofNat 0, .ofNat 40), (0, .ofNat 0, .ofNat 0)), (2, 3, (1, .ofNat 1, .ofNat 0), (0, .ofNat 0, .negSucc 39), (0, .ofNat 0, .ofNat 0)), (4, 4, (4, .ofNat 1, .ofNat 0), (6, .ofNat 1, .ofNat 0), (7, .ofNat 1, .ofNat 0)), (0, 148, (5, .ofNat 1, .ofNat 12), (6, .ofNat 1, .ofNat 0), (0, .ofNat 0, .ofNat 0)), (2, 1, (0, .ofNat 0, .ofNat 1), (0, .ofNat 0, .ofNat 0), (0, .ofNat 0, .ofNat 0)), (2, 1, (0, .ofNat 0, .ofNat 1), (0, .ofNat 0, .ofNat 0), (0, .ofNat 0, .ofNat 0)), (2, 5, (2, .ofNat 1, .ofNat 0), (0, .ofNat 0, .ofNat 12), (0, .ofNat 0, .ofNat 0)), (2, 3, (2, .ofNat 1, .ofNat 0), (0, .ofNat 0, .negSucc 11), (0, .ofNat 0, .ofNat 0)), (2, 1, (0, .ofNat 0, .ofNat 1), (0, .ofNat 0, .ofNat 0), (0, .ofNat 0, .ofNat 0)), (2, 5, (1, .ofNat 1, .ofNat 1), (0, .ofNat 0, .ofNat 40), (0, .ofNat 0, .ofNat 0)), (2, 3, (1, .ofNat 1, .ofNat 1), (0, .ofNat 0, .negSucc 39), (0, .ofNat 0, .ofNat 0)), (0, 148, (3, .ofNat 1, .ofNat 12), (4, .ofNat 1, .ofNat 0), (0, .ofNat 0, .ofNat 0)), (2, 1, (0, .ofNat 0, .ofNat 1), (0, .ofNat 0, .ofNat 0), (0, .ofNat 0, .ofNat 0)), (2, 1, (0, .ofNat 0, .ofNat 1), (0, .ofNat 0, .ofNat 0), (0, .ofNat 0, .ofNat 0)), (2, 5, (2, .ofNat 1, .ofNat 0), (0, .ofNat 0, .ofNat 12), (0, .ofNat 0, .ofNat 0)), (2, 3, (2, .ofNat 1, .ofNat 0), (0, .ofNat 0, .negSucc 11), (0, .ofNat 0, .ofNat 0)), (2, 1, (0, .ofNat 0, .ofNat 1), (0, .ofNat 0, .ofNat 0), (0, .ofNat 0, .ofNat 0)), (2, 5, (1, .ofNat 1, .ofNat 0), (0, .ofNat 0, .ofNat 40), (0, .ofNat 0, .ofNat 0)), (2, 3, (1, .ofNat 1, .ofNat 0), (0, .ofNat 0, .negSucc 39), (0, .ofNat 0, .ofNat 0))], [(1, [(.ofNat 0, .ofNat 39)]), (2, [(.ofNat 0, .ofNat 10)]), (3, [(.ofNat 1000, .ofNat 2012)]), (5, [(.ofNat 1025, .ofNat 2012)]), (8, [(.ofNat 1002, .ofNat 1987)]), (11, [(.ofNat 1027, .ofNat 2012)])], [((1, .ofNat 25, .ofNat 1025), (2, .ofNat 1, .ofNat 2), (11, .ofNat 1, .ofNat 0)), ((1, .ofNat 25, .ofNat 1000), (2, .ofNat 1, .ofNat 2), (8, .ofNat 1, .ofNat 0)), ((1, .ofNat 25, .ofNat 1025), (2, .ofNat 1, .ofNat 0), (5, .ofNat 1, .ofNat 0)), ((1, .ofNat 25, .ofNat 1000), (2, .ofNat 1, .ofNat 0), (3, .ofNat 1, .ofNat 0))], [])]
set_option maxRecDepth 1000000 in
theorem sg_to_a_g : sg_go [] [] 3000 222 0 3 3 [(0, [(.ofNat 0, .ofNat 0)]), (1, [(.ofNat 0, .ofNat 40)]), (2, [(.ofNat 0, .ofNat 12)])] [] [] [] [(0, .inr (.inl [122])), (1, .inl (false, (1, .ofNat 1, .ofNat 0))), (2, .inl (false, (2, .ofNat 1, .ofNat 0)))] [] [] sg_to_a_Z = true := by decide +kernel
set_option maxRecDepth 100000 in
theorem sg_to_a {Q : Option Value × am_S → Prop} {d : Nat} {S : am_S} {L : am_L} {x1 x2 : Int} (hd : 3 ≤ d) (hP : ax_P0 none S) (l0 : lc L 0 122) (l1 : li L 1 x1) (l2 : li L 2 x2) (b1 : (0 ≤ x1 ∧ x1 ≤ 40)) (b2 : (0 ≤ x2 ∧ x2 ≤ 12))
    (k0 : ∀ (x3 x4 : Int) (i1 : Int64), (-40) ≤ x1 → x1 ≤ 40 → (-12) ≤ x2 → x2 ≤ 12 → rd S 148 (x3 + 12) = x4 → (-40) ≤ x1 + 1 → 40 < x1 + 1 → (-12) ≤ x2 + 2 → 12 < x2 + 2 → (40 ≤ x1 ∧ x1 ≤ 40) → (11 ≤ x2 ∧ x2 ≤ 12) → (1000 ≤ x3 ∧ x3 ≤ 2012) → (25 * x1 + 1000) + x2 = x3 → i1.toInt = x4 → Q (some (.long i1), S))
    (k1 : ∀ (x3 x4 x5 x6 : Int) (i1 : Int64), (-40) ≤ x1 → x1 ≤ 40 → (-12) ≤ x2 → x2 ≤ 12 → rd S 148 (x3 + 12) = x4 → (-40) ≤ x1 + 1 → 40 < x1 + 1 → (-12) ≤ x2 + 2 → x2 + 2 ≤ 12 → rd S 148 (x2 + 2014) = x5 → (∃ a b : Int64, a.toInt = x4 ∧ b.toInt = x5 ∧ (a - b).toInt = x6) → (40 ≤ x1 ∧ x1 ≤ 40) → (0 ≤ x2 ∧ x2 ≤ 10) → (1000 ≤ x3 ∧ x3 ≤ 2012) → (25 * x1 + 1000) + x2 = x3 → i1.toInt = x6 → Q (some (.long i1), S))
    (k2 : ∀ (x3 x4 x5 x6 x7 : Int) (i1 : Int64), (-40) ≤ x1 → x1 ≤ 40 → (-12) ≤ x2 → x2 ≤ 12 → rd S 148 (x3 + 12) = x4 → (-40) ≤ x1 + 1 → x1 + 1 ≤ 40 → (-12) ≤ x2 → x2 ≤ 12 → rd S 148 (x5 + 12) = x6 → (∃ a b : Int64, a.toInt = x4 ∧ b.toInt = x6 ∧ (a - b).toInt = x7) → (-40) ≤ x1 → x1 ≤ 40 → (-12) ≤ x2 + 2 → 12 < x2 + 2 → (-40) ≤ x1 + 1 → x1 + 1 ≤ 40 → (-12) ≤ x2 + 2 → 12 < x2 + 2 → (0 ≤ x1 ∧ x1 ≤ 39) → (11 ≤ x2 ∧ x2 ≤ 12) → (1000 ≤ x3 ∧ x3 ≤ 2012) → (1025 ≤ x5 ∧ x5 ≤ 2012) → (25 * x1 + 1025) + x2 = x5 → (25 * x1 + 1000) + x2 = x3 → i1.toInt = x7 → Q (some (.long i1), S))
    (k3 : ∀ (x3 x4 x5 x6 x7 x8 x9 x10 x11 x12 x13 : Int) (i1 : Int64), (-40) ≤ x1 → x1 ≤ 40 → (-12) ≤ x2 → x2 ≤ 12 → rd S 148 (x3 + 12) = x4 → (-40) ≤ x1 + 1 → x1 + 1 ≤ 40 → (-12) ≤ x2 → x2 ≤ 12 → rd S 148 (x5 + 12) = x6 → (∃ a b : Int64, a.toInt = x4 ∧ b.toInt = x6 ∧ (a - b).toInt = x7) → (-40) ≤ x1 → x1 ≤ 40 → (-12) ≤ x2 + 2 → x2 + 2 ≤ 12 → rd S 148 (x8 + 12) = x9 → (∃ a b : Int64, a.toInt = x7 ∧ b.toInt = x9 ∧ (a - b).toInt = x10) → (-40) ≤ x1 + 1 → x1 + 1 ≤ 40 → (-12) ≤ x2 + 2 → x2 + 2 ≤ 12 → rd S 148 (x11 + 12) = x12 → (∃ a b : Int64, a.toInt = x10 ∧ b.toInt = x12 ∧ (a + b).toInt = x13) → (0 ≤ x1 ∧ x1 ≤ 39) → (0 ≤ x2 ∧ x2 ≤ 10) → (1000 ≤ x3 ∧ x3 ≤ 2012) → (1025 ≤ x5 ∧ x5 ≤ 2012) → (1002 ≤ x8 ∧ x8 ≤ 1987) → (1027 ≤ x11 ∧ x11 ≤ 2012) → (25 * x1 + 1025) + (x2 + 2) = x11 → (25 * x1 + 1000) + (x2 + 2) = x8 → (25 * x1 + 1025) + x2 = x5 → (25 * x1 + 1000) + x2 = x3 → i1.toInt = x13 → Q (some (.long i1), S)) : am_V none d 222 0 L ([]) S Q := by
  refine sg_use sg_to_a_g hd hP (sg_xs [0, x1, x2]) ⟨⟨Int.le_refl 0, Int.le_refl 0⟩, b1, b2, trivial⟩ trivial trivial trivial ⟨l0, l1, l2, trivial⟩ trivial ?_
  intro z hz x' L' st' S' hx hP' hW hL' hs' hJ hE' hT' hD'
  have q1 : x' 1 = x1 := hx 1 (by decide)
  subst q1
  have q2 : x' 2 = x2 := hx 2 (by decide)
  subst q2
  have eS : S' = S := hW.1 rfl
  subst eS
  simp only [sg_to_a_Z, List.mem_cons, List.not_mem_nil, or_false] at hz
  rcases hz with rfl | rfl | rfl | rfl
  · obtain ⟨f0, f1, -, f3, f4, -, -, f7, f8, f9, -, -, -, -, -, f15, f16, -, -, -, -, -, -, hσ⟩ := hJ
    obtain ⟨e0, e1, e2, -⟩ := hE'
    obtain ⟨t0, -⟩ := hT'
    intro v hv
    subst hv
    cases v with
    | none => exact hs'.elim
    | some v1 =>
      obtain ⟨⟨i1, rfl, g1⟩, -⟩ := hs'
      exact k0 (x' 3) (x' 4) i1 f0 f1 f3 f4 f7 f8 f9 f15 f16 e0 e1 e2 t0 g1
  · obtain ⟨f0, f1, -, f3, f4, -, -, f7, f8, f9, -, -, -, -, -, f15, f16, -, -, f19, f20, -, -, -, -, hσ⟩ := hJ
    obtain ⟨e0, e1, e2, -⟩ := hE'
    obtain ⟨t0, -⟩ := hT'
    intro v hv
    subst hv
    cases v with
    | none => exact hs'.elim
    | some v1 =>
      obtain ⟨⟨i1, rfl, g1⟩, -⟩ := hs'
      exact k1 (x' 3) (x' 4) (x' 5) (x' 6) i1 f0 f1 f3 f4 f7 f8 f9 f15 f16 f19 f20 e0 e1 e2 t0 g1
  · obtain ⟨f0, f1, -, f3, f4, -, -, f7, f8, f9, -, f11, f12, -, -, f15, f16, f17, f18, -, f20, f21, -, -, f24, f25, -, f27, f28, -, -, hσ⟩ := hJ
    obtain ⟨e0, e1, e2, e3, -⟩ := hE'
    obtain ⟨t0, t1, -⟩ := hT'
    intro v hv
    subst hv
    cases v with
    | none => exact hs'.elim
    | some v1 =>
      obtain ⟨⟨i1, rfl, g1⟩, -⟩ := hs'
      exact k2 (x' 3) (x' 4) (x' 5) (x' 6) (x' 7) i1 f0 f1 f3 f4 f7 f8 f9 f11 f12 f15 f16 f17 f18 f20 f21 f24 f25 f27 f28 e0 e1 e2 e3 t0 t1 g1
  · obtain ⟨f0, f1, -, f3, f4, -, -, f7, f8, f9, -, f11, f12, -, -, f15, f16, f17, f18, -, f20, f21, -, -, f24, f25, f26, f27, -, f29, f30, -, -, f33, f34, hσ⟩ := hJ
    obtain ⟨e0, e1, e2, e3, e4, e5, -⟩ := hE'
    obtain ⟨t0, t1, t2, t3, -⟩ := hT'
    intro v hv
    subst hv
    cases v with
    | none => exact hs'.elim
    | some v1 =>
      obtain ⟨⟨i1, rfl, g1⟩, -⟩ := hs'
      exact k3 (x' 3) (x' 4) (x' 5) (x' 6) (x' 7) (x' 8) (x' 9) (x' 10) (x' 11) (x' 12) (x' 13) i1 f0 f1 f3 f4 f7 f8 f9 f11 f12 f15 f16 f17 f18 f20 f21 f24 f25 f26 f27 f29 f30 f33 f34 e0 e1 e2 e3 e4 e5 t0 t1 t2 t3 g1
def sg_fx_a_Z : List sg_z := [(0, [], [.inl (true, (0, .ofNat 0, .negSucc 0))], [(2, 2, (1, .ofNat 1, .ofNat 0), (0, .ofNat 0, .negSucc 39), (0, .ofNat 0, .ofNat 0))], [(1, [(.negSucc 2147483647, .negSucc 40)])], [], []),
  (0, [], [.inl (true, (0, .ofNat 0, .negSucc 0))], [(2, 4, (1, .ofNat 1, .ofNat 0), (0, .ofNat 0, .ofNat 40), (0, .ofNat 0, .ofNat 0)), (2, 3, (1, .ofNat 1, .ofNat 0), (0, .ofNat 0, .negSucc 39), (0, .ofNat 0, .ofNat 0))], [(1, [(.ofNat 41, .ofNat 2147483647)])], [], []),
  (0, [], [.inl (true, (0, .ofNat 0, .negSucc 0))], [(2, 2, (2, .ofNat 1, .ofNat 0), (0, .ofNat 0, .negSucc 11), (0, .ofNat 0, .ofNat 0)), (2, 5, (1, .ofNat 1, .ofNat 0), (0, .ofNat 0, .ofNat 40), (0, .ofNat 0, .ofNat 0)), (2, 3, (1, .ofNat 1, .ofNat 0), (0, .ofNat 0, .negSucc 39), (0, .ofNat 0, .ofNat 0))], [(1, [(.negSucc 39, .ofNat 40)]), (2, [(.negSucc 2147483647, .negSucc 12)])], [], []),
  (0, [], [.inl (true, (5, .ofNat 1, .ofNat 0))], [(0, 51, (4, .ofNat 1, .ofNat 0), (5, .ofNat 1, .ofNat 0), (0, .ofNat 0, .ofNat 0)), (2, 5, (2, .ofNat 1, .ofNat 0), (0, .ofNat 0, .ofNat 12), (0, .ofNat 0, .ofNat 0)), (2, 3, (2, .ofNat 1, .ofNat 0), (0, .ofNat 0, .ofNat 0), (0, .ofNat 0, .ofNat 0)), (2, 5, (1, .ofNat 1, .ofNat 0), (0, .ofNat 0, .ofNat 40), (0, .ofNat 0, .ofNat 0)), (2, 3, (1, .ofNat 1, .ofNat 0), (0, .ofNat 0, .ofNat 0), (0, .ofNat 0, .ofNat 0)), (2, 1, (3, .ofNat 1, .ofNat 0), (0, .ofNat 0, .ofNat 0), (0, .ofNat 0, .ofNat 0)), (0, 50, (0, .ofNat 0, .ofNat 0), (3, .ofNat 1, .ofNat 0), (0, .ofNat 0, .ofNat 0)), (2, 5, (2, .ofNat 1, .ofNat 0), (0, .ofNat 0, .ofNat 12), (0, .ofNat 0, .ofNat 0)), (2, 3, (2, .ofNat 1, .ofNat 0), (0, .ofNat 0, .negSucc 11), (0, .ofNat 0, .ofNat 0)), (2, 5, (1, .ofNat 1, .ofNat 0), (0, .ofNat 0, .ofNat 40), (0, .ofNat 0, .ofNat 0)), (2, 3, (1, .ofNat 1, .ofNat 0), (0, .ofNat 0, .negSucc 39), (0, .ofNat 0, .ofNat 0))], [(1, [(.ofNat 0, .ofNat 40)]), (2, [(.ofNat 0, .ofNat 12)]), (3, [(.ofNat 1, .ofNat 4)]), (4, [(.ofNat 1012, .ofNat 2024)])], [((1, .ofNat 25, .ofNat 1012), (2, .ofNat 1, .ofNat 0), (4, .ofNat 1, .ofNat 0))], []),
  (0, [], [.inl (true, (5, .ofNat 1, .ofNat 0))], [(0, 51, (4, .ofNat 1, .ofNat 0), (5, .ofNat 1, .ofNat 0), (0, .ofNat 0, .ofNat 0)), (2, 5, (2, .negSucc 0, .ofNat 0), (0, .ofNat 0, .ofNat 12), (0, .ofNat 0, .ofNat 0)), (2, 2, (2, .ofNat 1, .ofNat 0), (0, .ofNat 0, .ofNat 0), (0, .ofNat 0, .ofNat 0)), (2, 5, (1, .ofNat 1, .ofNat 0), (0, .ofNat 0, .ofNat 40), (0, .ofNat 0, .ofNat 0)), (2, 3, (1, .ofNat 1, .ofNat 0), (0, .ofNat 0, .ofNat 0), (0, .ofNat 0, .ofNat 0)), (2, 1, (3, .ofNat 1, .ofNat 0), (0, .ofNat 0, .ofNat 0), (0, .ofNat 0, .ofNat 0)), (0, 50, (0, .ofNat 0, .ofNat 0), (3, .ofNat 1, .ofNat 0), (0, .ofNat 0, .ofNat 0)), (2, 5, (2, .ofNat 1, .ofNat 0), (0, .ofNat 0, .ofNat 12), (0, .ofNat 0, .ofNat 0)), (2, 3, (2, .ofNat 1, .ofNat 0), (0, .ofNat 0, .negSucc 11), (0, .ofNat 0, .ofNat 0)), (2, 5, (1, .ofNat 1, .ofNat 0), (0, .ofNat 0, .ofNat 40), (0, .ofNat 0, .ofNat 0)), (2, 3, (1, .ofNat 1, .ofNat 0), (0, .ofNat 0, .negSucc 39), (0, .ofNat 0, .ofNat 0))], [(1, [(.ofNat 0, .ofNat 40)]), (2, [(.negSucc 11, .negSucc 0)]), (3, [(.ofNat 1, .ofNat 4)]), (4, [(.ofNat 1000, .ofNat 2011)])], [((1, .ofNat 25, .ofNat 1012), (2, .ofNat 1, .ofNat 0), (4, .ofNat 1, .ofNat 0))], []),
  (0, [], [.inl (true, (5, .ofNat 1, .ofNat 0))], [(0, 51, (4, .ofNat 1, .ofNat 0), (5, .ofNat 1, .ofNat 0), (0, .ofNat 0, .ofNat 0)), (2, 5, (2, .ofNat 1, .ofNat 0), (0, .ofNat 0, .ofNat 12), (0, .ofNat 0, .ofNat 0)), (2, 3, (2, .ofNat 1, .ofNat 0), (0, .ofNat 0, .ofNat 0), (0, .ofNat 0, .ofNat 0)), (2, 5, (1, .negSucc 0, .ofNat 0), (0, .ofNat 0, .ofNat 40), (0, .ofNat 0, .ofNat 0)), (2, 2, (1, .ofNat 1, .ofNat 0), (0, .ofNat 0, .ofNat 0), (0, .ofNat 0, .ofNat 0)), (2, 1, (3, .ofNat 1, .ofNat 0), (0, .ofNat 0, .ofNat 0), (0, .ofNat 0, .ofNat 0)), (0, 50, (0, .ofNat 0, .ofNat 0), (3, .ofNat 1, .ofNat 0), (0, .ofNat 0, .ofNat 0)), (2, 5, (2, .ofNat 1, .ofNat 0), (0, .ofNat 0, .ofNat 12), (0, .ofNat 0, .ofNat 0)), (2, 3, (2, .ofNat 1, .ofNat 0), (0, .ofNat 0, .negSucc 11), (0, .ofNat 0, .ofNat 0)), (2, 5, (1, .ofNat 1, .ofNat 0), (0, .ofNat 0, .ofNat 40), (0, .ofNat 0, .ofNat 0)), (2, 3, (1, .ofNat 1, .ofNat 0), (0, .ofNat 0, .negSucc 39), (0, .ofNat 0, .ofNat 0))], [(1, [(.negSucc 39, .negSucc 0)]), (2, [(.ofNat 0, .ofNat 12)]), (3, [(.ofNat 1, .ofNat 4)]), (4, [(.ofNat 12, .ofNat 999)])], [((1, .ofNat 25, .ofNat 1012), (2, .ofNat 1, .ofNat 0), (4, .ofNat 1, .ofNat 0))], []),
  (0, [], [.inl (true, (5, .ofNat 1, .ofNat 0))], [(0, 51, (4, .ofNat 1, .ofNat 0), (5, .ofNat 1, .ofNat 0), (0, .ofNat 0, .ofNat 0)), (2, 5, (2, .negSucc 0, .ofNat 0), (0, .ofNat 0, .ofNat 12), (0, .ofNat 0, .ofNat 0)), (2, 2, (2, .ofNat 1, .ofNat 0), (0, .ofNat 0, .ofNat 0), (0, .ofNat 0, .ofNat 0)), (2, 5, (1, .negSucc 0, .ofNat 0), (0, .ofNat 0, .ofNat 40), (0, .ofNat 0, .ofNat 0)), (2, 2, (1, .ofNat 1, .ofNat 0), (0, .ofNat 0, .ofNat 0), (0, .ofNat 0, .ofNat 0)), (2, 1, (3, .ofNat 1, .ofNat 0), (0, .ofNat 0, .ofNat 0), (0, .ofNat 0, .ofNat 0)), (0, 50, (0, .ofNat 0, .ofNat 0), (3, .ofNat 1, .ofNat 0), (0, .ofNat 0, .ofNat 0)), (2, 5, (2, .ofNat 1, .ofNat 0), (0, .ofNat 0, .ofNat 12), (0, .ofNat 0, .ofNat 0)), (2, 3, (2, .ofNat 1, .ofNat 0), (0, .ofNat 0, .negSucc 11), (0, .ofNat 0, .ofNat 0)), (2, 5, (1, .ofNat 1, .ofNat 0), (0, .ofNat 0, .ofNat 40), (0, .ofNat 0, .ofNat 0)), (2, 3, (1, .ofNat 1, .ofNat 0), (0, .ofNat 0, .negSucc 39), (0, .ofNat 0, .ofNat 0))], [(1, [(.negSucc 39, .negSucc 0)]), (2, [(.negSucc 11, .negSucc 0)]), (3, [(.ofNat 1, .ofNat 4)]), (4, [(.ofNat 0, .ofNat 986)])], [((1, .ofNat 25, .ofNat 1012), (2, .ofNat 1, .ofNat 0), (4, .ofNat 1, .ofNat 0))], []),
  (0, [], [.inl (true, (0, .ofNat 0, .negSucc 1))], [(2, 0, (3, .ofNat 1, .ofNat 0), (0, .ofNat 0, .ofNat 0), (0, .ofNat 0, .ofNat 0)), (0, 50, (0, .ofNat 0, .ofNat 0), (3, .ofNat 1, .ofNat 0), (0, .ofNat 0, .ofNat 0)), (2, 5, (2, .ofNat 1, .ofNat 0), (0, .ofNat 0, .ofNat 12), (0, .ofNat 0, .ofNat 0)), (2, 3, (2, .ofNat 1, .ofNat 0), (0, .ofNat 0, .negSucc 11), (0, .ofNat 0, .ofNat 0)), (2, 5, (1, .ofNat 1, .ofNat 0), (0, .ofNat 0, .ofNat 40), (0, .ofNat 0, .ofNat 0)), (2, 3, (1, .ofNat 1, .ofNat 0), (0, .ofNat 0, .negSucc 39), (0, .ofNat 0, .ofNat 0))], [(1, [(.negSucc 39, .ofNat 40)]), (2, [(.negSucc 11, .ofNat 12)]), (3, [(.ofNat 0, .ofNat 0)])], [], []),
  (0, [], [.inl (true, (0, .ofNat 0, .negSucc 0))], [(2, 4, (2, .ofNat 1, .ofNat 0), (0, .ofNat 0, .ofNat 12), (0, .ofNat 0, .ofNat 0)), (2, 3, (2, .ofNat 1, .ofNat 0), (0, .ofNat 0, .negSucc 11), (0, .ofNat 0, .ofNat 0)), (2, 5, (1, .ofNat 1, .ofNat 0), (0, .ofNat 0, .ofNat 40), (0, .ofNat 0, .ofNat 0)), (2, 3, (1, .ofNat 1, .ofNat 0), (0, .ofNat 0, .negSucc 39), (0, .ofNat 0, .ofNat 0))], [(1, [(.negSucc 39, .ofNat 40)]), (2, [(.ofNat 13, .ofNat 2147483647)])], [], [])]
set_option maxRecDepth 1000000 in
theorem sg_fx_a_g : sg_go [] [] 3000 121 0 2 3 [(0, [(.ofNat 0, .ofNat 0)]), (1, [(.negSucc 2147483647, .ofNat 2147483647)]), (2, [(.negSucc 2147483647, .ofNat 2147483647)])] [] [] [] [(0, .inr (.inl [0])), (1, .inl (false, (1, .ofNat 1, .ofNat 0))), (2, .inl (false, (2, .ofNat 1, .ofNat 0)))] [] [] sg_fx_a_Z = true := by decide +kernel
set_option maxRecDepth 100000 in
theorem sg_fx_a {Q : Option Value × am_S → Prop} {d : Nat} {S : am_S} {L : am_L} {x1 x2 : Int} (hd : 2 ≤ d) (hP : ax_P0 none S) (l0 : lc L 0 0) (l1 : li L 1 x1) (l2 : li L 2 x2) (b1 : ((-2147483648) ≤ x1 ∧ x1 ≤ 2147483647)) (b2 : ((-2147483648) ≤ x2 ∧ x2 ≤ 2147483647))
    (k0 : ∀ (i1 : Int64), x1 < (-40) → ((-2147483648) ≤ x1 ∧ x1 ≤ (-41)) → i1.toInt = (-1) → Q (some (.long i1), S))
    (k1 : ∀ (i1 : Int64), (-40) ≤ x1 → 40 < x1 → (41 ≤ x1 ∧ x1 ≤ 2147483647) → i1.toInt = (-1) → Q (some (.long i1), S))
    (k2 : ∀ (i1 : Int64), (-40) ≤ x1 → x1 ≤ 40 → x2 < (-12) → ((-40) ≤ x1 ∧ x1 ≤ 40) → ((-2147483648) ≤ x2 ∧ x2 ≤ (-13)) → i1.toInt = (-1) → Q (some (.long i1), S))
    (k3 : ∀ (x3 x4 x5 : Int) (i1 : Int64), (-40) ≤ x1 → x1 ≤ 40 → (-12) ≤ x2 → x2 ≤ 12 → rd S 50 0 = x3 → x3 ≠ 0 → 0 ≤ x1 → x1 ≤ 40 → 0 ≤ x2 → x2 ≤ 12 → rd S 51 x4 = x5 → (0 ≤ x1 ∧ x1 ≤ 40) → (0 ≤ x2 ∧ x2 ≤ 12) → (1 ≤ x3 ∧ x3 ≤ 4) → (1012 ≤ x4 ∧ x4 ≤ 2024) → (25 * x1 + 1012) + x2 = x4 → i1.toInt = x5 → Q (some (.long i1), S))
    (k4 : ∀ (x3 x4 x5 : Int) (i1 : Int64), (-40) ≤ x1 → x1 ≤ 40 → (-12) ≤ x2 → x2 ≤ 12 → rd S 50 0 = x3 → x3 ≠ 0 → 0 ≤ x1 → x1 ≤ 40 → x2 < 0 → (-1) * x2 + 0 ≤ 12 → rd S 51 x4 = x5 → (0 ≤ x1 ∧ x1 ≤ 40) → ((-12) ≤ x2 ∧ x2 ≤ (-1)) → (1 ≤ x3 ∧ x3 ≤ 4) → (1000 ≤ x4 ∧ x4 ≤ 2011) → (25 * x1 + 1012) + x2 = x4 → i1.toInt = x5 → Q (some (.long i1), S))
    (k5 : ∀ (x3 x4 x5 : Int) (i1 : Int64), (-40) ≤ x1 → x1 ≤ 40 → (-12) ≤ x2 → x2 ≤ 12 → rd S 50 0 = x3 → x3 ≠ 0 → x1 < 0 → (-1) * x1 + 0 ≤ 40 → 0 ≤ x2 → x2 ≤ 12 → rd S 51 x4 = x5 → ((-40) ≤ x1 ∧ x1 ≤ (-1)) → (0 ≤ x2 ∧ x2 ≤ 12) → (1 ≤ x3 ∧ x3 ≤ 4) → (12 ≤ x4 ∧ x4 ≤ 999) → (25 * x1 + 1012) + x2 = x4 → i1.toInt = x5 → Q (some (.long i1), S))
    (k6 : ∀ (x3 x4 x5 : Int) (i1 : Int64), (-40) ≤ x1 → x1 ≤ 40 → (-12) ≤ x2 → x2 ≤ 12 → rd S 50 0 = x3 → x3 ≠ 0 → x1 < 0 → (-1) * x1 + 0 ≤ 40 → x2 < 0 → (-1) * x2 + 0 ≤ 12 → rd S 51 x4 = x5 → ((-40) ≤ x1 ∧ x1 ≤ (-1)) → ((-12) ≤ x2 ∧ x2 ≤ (-1)) → (1 ≤ x3 ∧ x3 ≤ 4) → (0 ≤ x4 ∧ x4 ≤ 986) → (25 * x1 + 1012) + x2 = x4 → i1.toInt = x5 → Q (some (.long i1), S))
    (k7 : ∀ (x3 : Int) (i1 : Int64), (-40) ≤ x1 → x1 ≤ 40 → (-12) ≤ x2 → x2 ≤ 12 → rd S 50 0 = x3 → x3 = 0 → ((-40) ≤ x1 ∧ x1 ≤ 40) → ((-12) ≤ x2 ∧ x2 ≤ 12) → (0 ≤ x3 ∧ x3 ≤ 0) → i1.toInt = (-2) → Q (some (.long i1), S))
    (k8 : ∀ (i1 : Int64), (-40) ≤ x1 → x1 ≤ 40 → (-12) ≤ x2 → 12 < x2 → ((-40) ≤ x1 ∧ x1 ≤ 40) → (13 ≤ x2 ∧ x2 ≤ 2147483647) → i1.toInt = (-1) → Q (some (.long i1), S)) : am_V none d 121 0 L ([]) S Q := by
  refine sg_use sg_fx_a_g hd hP (sg_xs [0, x1, x2]) ⟨⟨Int.le_refl 0, Int.le_refl 0⟩, b1, b2, trivial⟩ trivial trivial trivial ⟨l0, l1, l2, trivial⟩ trivial ?_
  intro z hz x' L' st' S' hx hP' hW hL' hs' hJ hE' hT' hD'
  have q1 : x' 1 = x1 := hx 1 (by decide)
  subst q1
  have q2 : x' 2 = x2 := hx 2 (by decide)
  subst q2
  have eS : S' = S := hW.1 rfl
  subst eS
  simp only [sg_fx_a_Z, List.mem_cons, List.not_mem_nil, or_false] at hz
  rcases hz with rfl | rfl | rfl | rfl | rfl | rfl | rfl | rfl | rfl
  · obtain ⟨f0, hσ⟩ := hJ
    obtain ⟨e0, -⟩ := hE'
    intro v hv
    subst hv
    cases v with
    | none => exact hs'.elim
    | some v1 =>
      obtain ⟨⟨i1, rfl, g1⟩, -⟩ := hs'
      exact k0 i1 f0 e0 g1
  · obtain ⟨f0, f1, hσ⟩ := hJ
    obtain ⟨e0, -⟩ := hE'
    intro v hv
    subst hv
    cases v with
    | none => exact hs'.elim
    | some v1 =>
      obtain ⟨⟨i1, rfl, g1⟩, -⟩ := hs'
      exact k1 i1 f0 f1 e0 g1
  · obtain ⟨f0, f1, f2, hσ⟩ := hJ
    obtain ⟨e0, e1, -⟩ := hE'
    intro v hv
    subst hv
    cases v with
    | none => exact hs'.elim
    | some v1 =>
      obtain ⟨⟨i1, rfl, g1⟩, -⟩ := hs'
      exact k2 i1 f0 f1 f2 e0 e1 g1
  · obtain ⟨f0, f1, f2, f3, f4, f5, f6, f7, f8, f9, f10, hσ⟩ := hJ
    obtain ⟨e0, e1, e2, e3, -⟩ := hE'
    obtain ⟨t0, -⟩ := hT'
    intro v hv
    subst hv
    cases v with
    | none => exact hs'.elim
    | some v1 =>
      obtain ⟨⟨i1, rfl, g1⟩, -⟩ := hs'
      exact k3 (x' 3) (x' 4) (x' 5) i1 f0 f1 f2 f3 f4 f5 f6 f7 f8 f9 f10 e0 e1 e2 e3 t0 g1
  · obtain ⟨f0, f1, f2, f3, f4, f5, f6, f7, f8, f9, f10, hσ⟩ := hJ
    obtain ⟨e0, e1, e2, e3, -⟩ := hE'
    obtain ⟨t0, -⟩ := hT'
    intro v hv
    subst hv
    cases v with
    | none => exact hs'.elim
    | some v1 =>
      obtain ⟨⟨i1, rfl, g1⟩, -⟩ := hs'
      exact k4 (x' 3) (x' 4) (x' 5) i1 f0 f1 f2 f3 f4 f5 f6 f7 f8 f9 f10 e0 e1 e2 e3 t0 g1
  · obtain ⟨f0, f1, f2, f3, f4, f5, f6, f7, f8, f9, f10, hσ⟩ := hJ
    obtain ⟨e0, e1, e2, e3, -⟩ := hE'
    obtain ⟨t0, -⟩ := hT'
    intro v hv
    subst hv
    cases v with
    | none => exact hs'.elim
    | some v1 =>
      obtain ⟨⟨i1, rfl, g1⟩, -⟩ := hs'
      exact k5 (x' 3) (x' 4) (x' 5) i1 f0 f1 f2 f3 f4 f5 f6 f7 f8 f9 f10 e0 e1 e2 e3 t0 g1
  · obtain ⟨f0, f1, f2, f3, f4, f5, f6, f7, f8, f9, f10, hσ⟩ := hJ
    obtain ⟨e0, e1, e2, e3, -⟩ := hE'
    obtain ⟨t0, -⟩ := hT'
    intro v hv
    subst hv
    cases v with
    | none => exact hs'.elim
    | some v1 =>
      obtain ⟨⟨i1, rfl, g1⟩, -⟩ := hs'
      exact k6 (x' 3) (x' 4) (x' 5) i1 f0 f1 f2 f3 f4 f5 f6 f7 f8 f9 f10 e0 e1 e2 e3 t0 g1
  · obtain ⟨f0, f1, f2, f3, f4, f5, hσ⟩ := hJ
    obtain ⟨e0, e1, e2, -⟩ := hE'
    intro v hv
    subst hv
    cases v with
    | none => exact hs'.elim
    | some v1 =>
      obtain ⟨⟨i1, rfl, g1⟩, -⟩ := hs'
      exact k7 (x' 3) i1 f0 f1 f2 f3 f4 f5 e0 e1 e2 g1
  · obtain ⟨f0, f1, f2, f3, hσ⟩ := hJ
    obtain ⟨e0, e1, -⟩ := hE'
    intro v hv
    subst hv
    cases v with
    | none => exact hs'.elim
    | some v1 =>
      obtain ⟨⟨i1, rfl, g1⟩, -⟩ := hs'
      exact k8 i1 f0 f1 f2 f3 e0 e1 g1
def sg_tx_a_Z : List sg_z := [(0, [], [.inl (true, (0, .ofNat 0, .negSucc 0))], [(2, 2, (1, .ofNat 1, .ofNat 0), (0, .ofNat 0, .ofNat 0), (0, .ofNat 0, .ofNat 0))], [(1, [(.negSucc 2147483647, .negSucc 0)])], [], []),
  (0, [], [.inl (true, (0, .ofNat 0, .negSucc 0))], [(2, 4, (1, .ofNat 1, .ofNat 0), (0, .ofNat 0, .ofNat 40), (0, .ofNat 0, .ofNat 0)), (2, 3, (1, .ofNat 1, .ofNat 0), (0, .ofNat 0, .ofNat 0), (0, .ofNat 0, .ofNat 0))], [(1, [(.ofNat 41, .ofNat 2147483647)])], [], []),
  (0, [], [.inl (true, (0, .ofNat 0, .negSucc 0))], [(2, 2, (2, .ofNat 1, .ofNat 0), (0, .ofNat 0, .ofNat 0), (0, .ofNat 0, .ofNat 0)), (2, 5, (1, .ofNat 1, .ofNat 0), (0, .ofNat 0, .ofNat 40), (0, .ofNat 0, .ofNat 0)), (2, 3, (1, .ofNat 1, .ofNat 0), (0, .ofNat 0, .ofNat 0), (0, .ofNat 0, .ofNat 0))], [(1, [(.ofNat 0, .ofNat 40)]), (2, [(.negSucc 2147483647, .negSucc 0)])], [], []),
  (0, [], [.inl (true, (5, .ofNat 1, .ofNat 0))], [(0, 63, (4, .ofNat 1, .ofNat 0), (5, .ofNat 1, .ofNat 0), (0, .ofNat 0, .ofNat 0)), (2, 1, (3, .ofNat 1, .ofNat 0), (0, .ofNat 0, .ofNat 0), (0, .ofNat 0, .ofNat 0)), (0, 50, (0, .ofNat 0, .ofNat 0), (3, .ofNat 1, .ofNat 0), (0, .ofNat 0, .ofNat 0)), (2, 5, (2, .ofNat 1, .ofNat 0), (0, .ofNat 0, .ofNat 12), (0, .ofNat 0, .ofNat 0)), (2, 3, (2, .ofNat 1, .ofNat 0), (0, .ofNat 0, .ofNat 0), (0, .ofNat 0, .ofNat 0)), (2, 5, (1, .ofNat 1, .ofNat 0), (0, .ofNat 0, .ofNat 40), (0, .ofNat 0, .ofNat 0)), (2, 3, (1, .ofNat 1, .ofNat 0), (0, .ofNat 0, .ofNat 0), (0, .ofNat 0, .ofNat 0))], [(1, [(.ofNat 0, .ofNat 40)]), (2, [(.ofNat 0, .ofNat 12)]), (3, [(.ofNat 1, .ofNat 4)]), (4, [(.ofNat 0, .ofNat 532)])], [((2, .ofNat 41, .ofNat 0), (1, .ofNat 1, .ofNat 0), (4, .ofNat 1, .ofNat 0))], []),
  (0, [], [.inl (true, (0, .ofNat 0, .negSucc 1))], [(2, 0, (3, .ofNat 1, .ofNat 0), (0, .ofNat 0, .ofNat 0), (0, .ofNat 0, .ofNat 0)), (0, 50, (0, .ofNat 0, .ofNat 0), (3, .ofNat 1, .ofNat 0), (0, .ofNat 0, .ofNat 0)), (2, 5, (2, .ofNat 1, .ofNat 0), (0, .ofNat 0, .ofNat 12), (0, .ofNat 0, .ofNat 0)), (2, 3, (2, .ofNat 1, .ofNat 0), (0, .ofNat 0, .ofNat 0), (0, .ofNat 0, .ofNat 0)), (2, 5, (1, .ofNat 1, .ofNat 0), (0, .ofNat 0, .ofNat 40), (0, .ofNat 0, .ofNat 0)), (2, 3, (1, .ofNat 1, .ofNat 0), (0, .ofNat 0, .ofNat 0), (0, .ofNat 0, .ofNat 0))], [(1, [(.ofNat 0, .ofNat 40)]), (2, [(.ofNat 0, .ofNat 12)]), (3, [(.ofNat 0, .ofNat 0)])], [], []),
  (0, [], [.inl (true, (0, .ofNat 0, .negSucc 0))], [(2, 4, (2, .ofNat 1, .ofNat 0), (0, .ofNat 0, .ofNat 12), (0, .ofNat 0, .ofNat 0)), (2, 3, (2, .ofNat 1, .ofNat 0), (0, .ofNat 0, .ofNat 0), (0, .ofNat 0, .ofNat 0)), (2, 5, (1, .ofNat 1, .ofNat 0), (0, .ofNat 0, .ofNat 40), (0, .ofNat 0, .ofNat 0)), (2, 3, (1, .ofNat 1, .ofNat 0), (0, .ofNat 0, .ofNat 0), (0, .ofNat 0, .ofNat 0))], [(1, [(.ofNat 0, .ofNat 40)]), (2, [(.ofNat 13, .ofNat 2147483647)])], [], [])]
set_option maxRecDepth 1000000 in
theorem sg_tx_a_g : sg_go [] [] 3000 122 0 1 3 [(0, [(.ofNat 0, .ofNat 0)]), (1, [(.negSucc 2147483647, .ofNat 2147483647)]), (2, [(.negSucc 2147483647, .ofNat 2147483647)])] [] [] [] [(0, .inr (.inl [0])), (1, .inl (false, (1, .ofNat 1, .ofNat 0))), (2, .inl (false, (2, .ofNat 1, .ofNat 0)))] [] [] sg_tx_a_Z = true := by decide +kernel
set_option maxRecDepth 100000 in
theorem sg_tx_a {Q : Option Value × am_S → Prop} {d : Nat} {S : am_S} {L : am_L} {x1 x2 : Int} (hd : 1 ≤ d) (hP : ax_P0 none S) (l0 : lc L 0 0) (l1 : li L 1 x1) (l2 : li L 2 x2) (b1 : ((-2147483648) ≤ x1 ∧ x1 ≤ 2147483647)) (b2 : ((-2147483648) ≤ x2 ∧ x2 ≤ 2147483647))
    (k0 : ∀ (i1 : Int64), x1 < 0 → ((-2147483648) ≤ x1 ∧ x1 ≤ (-1)) → i1.toInt = (-1) → Q (some (.long i1), S))
    (k1 : ∀ (i1 : Int64), 0 ≤ x1 → 40 < x1 → (41 ≤ x1 ∧ x1 ≤ 2147483647) → i1.toInt = (-1) → Q (some (.long i1), S))
    (k2 : ∀ (i1 : Int64), 0 ≤ x1 → x1 ≤ 40 → x2 < 0 → (0 ≤ x1 ∧ x1 ≤ 40) → ((-2147483648) ≤ x2 ∧ x2 ≤ (-1)) → i1.toInt = (-1) → Q (some (.long i1), S))
    (k3 : ∀ (x3 x4 x5 : Int) (i1 : Int64), 0 ≤ x1 → x1 ≤ 40 → 0 ≤ x2 → x2 ≤ 12 → rd S 50 0 = x3 → x3 ≠ 0 → rd S 63 x4 = x5 → (0 ≤ x1 ∧ x1 ≤ 40) → (0 ≤ x2 ∧ x2 ≤ 12) → (1 ≤ x3 ∧ x3 ≤ 4) → (0 ≤ x4 ∧ x4 ≤ 532) → (41 * x2 + 0) + x1 = x4 → i1.toInt = x5 → Q (some (.long i1), S))
    (k4 : ∀ (x3 : Int) (i1 : Int64), 0 ≤ x1 → x1 ≤ 40 → 0 ≤ x2 → x2 ≤ 12 → rd S 50 0 = x3 → x3 = 0 → (0 ≤ x1 ∧ x1 ≤ 40) → (0 ≤ x2 ∧ x2 ≤ 12) → (0 ≤ x3 ∧ x3 ≤ 0) → i1.toInt = (-2) → Q (some (.long i1), S))
    (k5 : ∀ (i1 : Int64), 0 ≤ x1 → x1 ≤ 40 → 0 ≤ x2 → 12 < x2 → (0 ≤ x1 ∧ x1 ≤ 40) → (13 ≤ x2 ∧ x2 ≤ 2147483647) → i1.toInt = (-1) → Q (some (.long i1), S)) : am_V none d 122 0 L ([]) S Q := by
  refine sg_use sg_tx_a_g hd hP (sg_xs [0, x1, x2]) ⟨⟨Int.le_refl 0, Int.le_refl 0⟩, b1, b2, trivial⟩ trivial trivial trivial ⟨l0, l1, l2, trivial⟩ trivial ?_
  intro z hz x' L' st' S' hx hP' hW hL' hs' hJ hE' hT' hD'
  have q1 : x' 1 = x1 := hx 1 (by decide)
  subst q1
  have q2 : x' 2 = x2 := hx 2 (by decide)
  subst q2
  have eS : S' = S := hW.1 rfl
  subst eS
  simp only [sg_tx_a_Z, List.mem_cons, List.not_mem_nil, or_false] at hz
  rcases hz with rfl | rfl | rfl | rfl | rfl | rfl
  · obtain ⟨f0, hσ⟩ := hJ
    obtain ⟨e0, -⟩ := hE'
    intro v hv
    subst hv
    cases v with
    | none => exact hs'.elim
    | some v1 =>
      obtain ⟨⟨i1, rfl, g1⟩, -⟩ := hs'
      exact k0 i1 f0 e0 g1
  · obtain ⟨f0, f1, hσ⟩ := hJ
    obtain ⟨e0, -⟩ := hE'
    intro v hv
    subst hv
    cases v with
    | none => exact hs'.elim
    | some v1 =>
      obtain ⟨⟨i1, rfl, g1⟩, -⟩ := hs'
      exact k1 i1 f0 f1 e0 g1
  · obtain ⟨f0, f1, f2, hσ⟩ := hJ
    obtain ⟨e0, e1, -⟩ := hE'
    intro v hv
    subst hv
    cases v with
    | none => exact hs'.elim
    | some v1 =>
      obtain ⟨⟨i1, rfl, g1⟩, -⟩ := hs'
      exact k2 i1 f0 f1 f2 e0 e1 g1
  · obtain ⟨f0, f1, f2, f3, f4, f5, f6, hσ⟩ := hJ
    obtain ⟨e0, e1, e2, e3, -⟩ := hE'
    obtain ⟨t0, -⟩ := hT'
    intro v hv
    subst hv
    cases v with
    | none => exact hs'.elim
    | some v1 =>
      obtain ⟨⟨i1, rfl, g1⟩, -⟩ := hs'
      exact k3 (x' 3) (x' 4) (x' 5) i1 f0 f1 f2 f3 f4 f5 f6 e0 e1 e2 e3 t0 g1
  · obtain ⟨f0, f1, f2, f3, f4, f5, hσ⟩ := hJ
    obtain ⟨e0, e1, e2, -⟩ := hE'
    intro v hv
    subst hv
    cases v with
    | none => exact hs'.elim
    | some v1 =>
      obtain ⟨⟨i1, rfl, g1⟩, -⟩ := hs'
      exact k4 (x' 3) i1 f0 f1 f2 f3 f4 f5 e0 e1 e2 g1
  · obtain ⟨f0, f1, f2, f3, hσ⟩ := hJ
    obtain ⟨e0, e1, -⟩ := hE'
    intro v hv
    subst hv
    cases v with
    | none => exact hs'.elim
    | some v1 =>
      obtain ⟨⟨i1, rfl, g1⟩, -⟩ := hs'
      exact k5 i1 f0 f1 f2 f3 e0 e1 g1
