/-! ===== patterns: what happens from place to place ===== -/
def sg_bd_a_Z : List sg_z := [(27, [(0, .inr (.inl [64])), (1, .inr (.inl [1])), (2, .inl (false, (1, .ofNat 1, .ofNat 0))), (3, .inl (false, (2, .ofNat 1, .ofNat 0))), (4, .inl (false, (3, .ofNat 1, .ofNat 0))), (5, .inl (false, (4, .ofNat 1, .ofNat 0))), (6, .inl (false, (3, .negSucc 0, .ofNat 0)))], [], [(0, 4, (2, .ofNat 1, .ofNat 0), (4, .ofNat 1, .ofNat 0), (0, .ofNat 0, .ofNat 0)), (0, 4, (1, .ofNat 1, .ofNat 0), (3, .ofNat 1, .ofNat 0), (0, .ofNat 0, .ofNat 0)), (1, 64, (0, .ofNat 0, .ofNat 0), (0, .ofNat 0, .ofNat 0), (0, .ofNat 0, .ofNat 0))], [(1, [(.ofNat 0, .ofNat 7)]), (2, [(.ofNat 0, .ofNat 7)]), (3, [(.ofNat 0, .ofNat 9)]), (4, [(.ofNat 0, .ofNat 9)])], [], [])]
set_option maxRecDepth 1000000 in
theorem sg_bd_a_g : sg_go [] [26] 3000 5 0 0 3 [(0, [(.ofNat 0, .ofNat 0)]), (1, [(.ofNat 0, .ofNat 7)]), (2, [(.ofNat 0, .ofNat 7)])] [] [] [] [(0, .inr (.inl [64])), (1, .inr (.inl [1])), (2, .inl (false, (1, .ofNat 1, .ofNat 0))), (3, .inl (false, (2, .ofNat 1, .ofNat 0)))] [] [(64, some 0)] sg_bd_a_Z = true := by decide +kernel
set_option maxRecDepth 100000 in
theorem sg_bd_a {Q : Option Value × am_S → Prop} {d : Nat} {S : am_S} {L : am_L} {x1 x2 : Int} (hd : 0 ≤ d) (hP : ax_P0 none S) (l0 : lc L 0 64) (l1 : lc L 1 1) (l2 : li L 2 x1) (l3 : li L 3 x2) (b1 : (0 ≤ x1 ∧ x1 ≤ 7)) (b2 : (0 ≤ x2 ∧ x2 ≤ 7))
    (k0 : ∀ (x3 x4 : Int) (L' : am_L) (S' : am_S), ax_P0 none S' → rd S' = sg_up (rd S) 64 0 0 → (sg_up (rd S) 64 0 0) 4 x1 = x3 → (sg_up (rd S) 64 0 0) 4 x2 = x4 → (0 ≤ x1 ∧ x1 ≤ 7) → (0 ≤ x2 ∧ x2 ≤ 7) → (0 ≤ x3 ∧ x3 ≤ 9) → (0 ≤ x4 ∧ x4 ≤ 9) → lc L' 0 64 → lc L' 1 1 → li L' 2 x1 → li L' 3 x2 → li L' 4 x3 → li L' 5 x4 → li L' 6 ((-1) * x3 + 0) → am_V none d 5 26 L' ([]) S' Q) : am_V none d 5 0 L ([]) S Q := by
  refine sg_use sg_bd_a_g hd hP (sg_xs [0, x1, x2]) ⟨⟨Int.le_refl 0, Int.le_refl 0⟩, b1, b2, trivial⟩ trivial trivial trivial ⟨l0, l1, l2, l3, trivial⟩ trivial ?_
  intro z hz x' L' st' S' hx hP' hW hL' hs' hJ hE' hT' hD'
  have q1 : x' 1 = x1 := hx 1 (by decide)
  subst q1
  have q2 : x' 2 = x2 := hx 2 (by decide)
  subst q2
  simp only [sg_bd_a_Z, List.mem_cons, List.not_mem_nil, or_false] at hz
  rcases hz with rfl
  · obtain ⟨f0, f1, hσ⟩ := hJ
    obtain ⟨e0, e1, e2, e3, -⟩ := hE'
    obtain ⟨p0, p1, p2, p3, p4, p5, p6, -⟩ := hL'
    obtain rfl := sg_tn hs'
    exact k0 (x' 3) (x' 4) L' S' hP' hσ f0 f1 e0 e1 e2 e3 p0 p1 p2 p3 p4 p5 p6
def sg_bd_b_Z : List sg_z := [(0, [], [], [(2, 4, (5, .ofNat 1, .ofNat 0), (3, .ofNat 1, .ofNat 0), (0, .ofNat 0, .ofNat 0))], [(1, [(.ofNat 0, .ofNat 7)]), (2, [(.ofNat 0, .ofNat 7)]), (3, [(.ofNat 0, .ofNat 9)]), (4, [(.ofNat 0, .ofNat 9)]), (5, [(.ofNat 1, .ofNat 11)])], [], []),
  (40, [(0, .inr (.inl [64])), (1, .inr (.inl [1])), (2, .inl (false, (1, .ofNat 1, .ofNat 0))), (3, .inl (false, (2, .ofNat 1, .ofNat 0))), (4, .inl (false, (3, .ofNat 1, .ofNat 0))), (5, .inl (false, (4, .ofNat 1, .ofNat 0))), (6, .inl (false, (5, .ofNat 1, .ofNat 0))), (7, .inl (false, (5, .ofNat 1, .negSucc 1)))], [], [(2, 5, (5, .ofNat 1, .ofNat 0), (3, .ofNat 1, .ofNat 0), (0, .ofNat 0, .ofNat 0))], [(1, [(.ofNat 0, .ofNat 7)]), (2, [(.ofNat 0, .ofNat 7)]), (3, [(.ofNat 0, .ofNat 9)]), (4, [(.ofNat 0, .ofNat 9)]), (5, [(.negSucc 8, .ofNat 9)])], [], [])]
set_option maxRecDepth 1000000 in
theorem sg_bd_b_g : sg_go [] [39] 3000 5 26 0 6 [(0, [(.ofNat 0, .ofNat 0)]), (1, [(.ofNat 0, .ofNat 7)]), (2, [(.ofNat 0, .ofNat 7)]), (3, [(.ofNat 0, .ofNat 9)]), (4, [(.ofNat 0, .ofNat 9)]), (5, [(.negSucc 8, .ofNat 11)])] [] [] [] [(0, .inr (.inl [64])), (1, .inr (.inl [1])), (2, .inl (false, (1, .ofNat 1, .ofNat 0))), (3, .inl (false, (2, .ofNat 1, .ofNat 0))), (4, .inl (false, (3, .ofNat 1, .ofNat 0))), (5, .inl (false, (4, .ofNat 1, .ofNat 0))), (6, .inl (false, (5, .ofNat 1, .ofNat 0)))] [] [] sg_bd_b_Z = true := by decide +kernel
set_option maxRecDepth 100000 in
theorem sg_bd_b {Q : Option Value × am_S → Prop} {d : Nat} {S : am_S} {L : am_L} {x1 x2 x3 x4 x5 : Int} (hd : 0 ≤ d) (hP : ax_P0 none S) (l0 : lc L 0 64) (l1 : lc L 1 1) (l2 : li L 2 x1) (l3 : li L 3 x2) (l4 : li L 4 x3) (l5 : li L 5 x4) (l6 : li L 6 x5) (b1 : (0 ≤ x1 ∧ x1 ≤ 7)) (b2 : (0 ≤ x2 ∧ x2 ≤ 7)) (b3 : (0 ≤ x3 ∧ x3 ≤ 9)) (b4 : (0 ≤ x4 ∧ x4 ≤ 9)) (b5 : ((-9) ≤ x5 ∧ x5 ≤ 11))
    (k0 : x3 < x5 → (0 ≤ x1 ∧ x1 ≤ 7) → (0 ≤ x2 ∧ x2 ≤ 7) → (0 ≤ x3 ∧ x3 ≤ 9) → (0 ≤ x4 ∧ x4 ≤ 9) → (1 ≤ x5 ∧ x5 ≤ 11) → Q (none, S))
    (k1 : ∀ (L' : am_L), x5 ≤ x3 → (0 ≤ x1 ∧ x1 ≤ 7) → (0 ≤ x2 ∧ x2 ≤ 7) → (0 ≤ x3 ∧ x3 ≤ 9) → (0 ≤ x4 ∧ x4 ≤ 9) → ((-9) ≤ x5 ∧ x5 ≤ 9) → lc L' 0 64 → lc L' 1 1 → li L' 2 x1 → li L' 3 x2 → li L' 4 x3 → li L' 5 x4 → li L' 6 x5 → li L' 7 (x5 + (-2)) → am_V none d 5 39 L' ([]) S Q) : am_V none d 5 26 L ([]) S Q := by
  refine sg_use sg_bd_b_g hd hP (sg_xs [0, x1, x2, x3, x4, x5]) ⟨⟨Int.le_refl 0, Int.le_refl 0⟩, b1, b2, b3, b4, b5, trivial⟩ trivial trivial trivial ⟨l0, l1, l2, l3, l4, l5, l6, trivial⟩ trivial ?_
  intro z hz x' L' st' S' hx hP' hW hL' hs' hJ hE' hT' hD'
  have q1 : x' 1 = x1 := hx 1 (by decide)
  subst q1
  have q2 : x' 2 = x2 := hx 2 (by decide)
  subst q2
  have q3 : x' 3 = x3 := hx 3 (by decide)
  subst q3
  have q4 : x' 4 = x4 := hx 4 (by decide)
  subst q4
  have q5 : x' 5 = x5 := hx 5 (by decide)
  subst q5
  have eS : S' = S := hW.1 rfl
  subst eS
  simp only [sg_bd_b_Z, List.mem_cons, List.not_mem_nil, or_false] at hz
  rcases hz with rfl | rfl
  · obtain ⟨f0, hσ⟩ := hJ
    obtain ⟨e0, e1, e2, e3, e4, -⟩ := hE'
    intro v hv
    subst hv
    cases v with
    | some _ => exact hs'.elim
    | none =>
      exact k0 f0 e0 e1 e2 e3 e4
  · obtain ⟨f0, hσ⟩ := hJ
    obtain ⟨e0, e1, e2, e3, e4, -⟩ := hE'
    obtain ⟨p0, p1, p2, p3, p4, p5, p6, p7, -⟩ := hL'
    obtain rfl := sg_tn hs'
    exact k1 L' f0 e0 e1 e2 e3 e4 p0 p1 p2 p3 p4 p5 p6 p7
def sg_bd_c_Z : List sg_z := [(27, [(0, .inr (.inl [64])), (1, .inr (.inl [1])), (2, .inl (false, (1, .ofNat 1, .ofNat 0))), (3, .inl (false, (2, .ofNat 1, .ofNat 0))), (4, .inl (false, (3, .ofNat 1, .ofNat 0))), (5, .inl (false, (4, .ofNat 1, .ofNat 0))), (6, .inl (false, (5, .ofNat 1, .ofNat 2))), (7, .inl (false, (6, .ofNat 1, .ofNat 0)))], [], [(2, 4, (6, .ofNat 1, .ofNat 0), (5, .ofNat 1, .ofNat 2), (0, .ofNat 0, .ofNat 0))], [(1, [(.ofNat 0, .ofNat 7)]), (2, [(.ofNat 0, .ofNat 7)]), (3, [(.ofNat 0, .ofNat 9)]), (4, [(.ofNat 0, .ofNat 9)]), (5, [(.negSucc 8, .ofNat 9)]), (6, [(.negSucc 5, .ofNat 13)])], [], []),
  (40, [(0, .inr (.inl [64])), (1, .inr (.inl [1])), (2, .inl (false, (1, .ofNat 1, .ofNat 0))), (3, .inl (false, (2, .ofNat 1, .ofNat 0))), (4, .inl (false, (3, .ofNat 1, .ofNat 0))), (5, .inl (false, (4, .ofNat 1, .ofNat 0))), (6, .inl (false, (5, .ofNat 1, .ofNat 0))), (7, .inl (false, (6, .ofNat 1, .ofNat 2)))], [], [(2, 4, (6, .ofNat 1, .ofNat 0), (4, .ofNat 1, .ofNat 0), (0, .ofNat 0, .ofNat 0)), (2, 3, (6, .ofNat 1, .ofNat 0), (0, .ofNat 0, .ofNat 0), (0, .ofNat 0, .ofNat 0)), (2, 5, (6, .ofNat 1, .ofNat 0), (5, .ofNat 1, .ofNat 2), (0, .ofNat 0, .ofNat 0))], [(1, [(.ofNat 0, .ofNat 7)]), (2, [(.ofNat 0, .ofNat 7)]), (3, [(.ofNat 0, .ofNat 9)]), (4, [(.ofNat 0, .ofNat 9)]), (5, [(.negSucc 8, .ofNat 9)]), (6, [(.ofNat 1, .ofNat 11)])], [], []),
  (118, [(0, .inr (.inl [64])), (1, .inr (.inl [1])), (2, .inl (false, (1, .ofNat 1, .ofNat 0))), (3, .inl (false, (2, .ofNat 1, .ofNat 0))), (4, .inl (false, (3, .ofNat 1, .ofNat 0))), (5, .inl (false, (4, .ofNat 1, .ofNat 0))), (6, .inl (false, (5, .ofNat 1, .ofNat 0))), (7, .inl (false, (6, .ofNat 1, .ofNat 0))), (8, .inl (false, (11, .ofNat 1, .ofNat 0)))], [.inl (false, (0, .ofNat 0, .ofNat 0)), .inl (false, (6, .ofNat 1, .ofNat 0)), .inl (false, (5, .ofNat 1, .ofNat 0)), .inl (false, (3, .ofNat 1, .ofNat 0))], [(2, 1, (4, .ofNat 1, .ofNat 0), (3, .ofNat 1, .ofNat 0), (0, .ofNat 0, .ofNat 0)), (2, 3, (4, .ofNat 1, .ofNat 0), (3, .ofNat 1, .ofNat 0), (0, .ofNat 0, .ofNat 0)), (3, 0, (9, .ofNat 1, .ofNat 0), (6, .ofNat 1, .ofNat 0), (10, .ofNat 1, .ofNat 0)), (0, 5, (2, .ofNat 1, .ofNat 0), (9, .ofNat 1, .ofNat 0), (0, .ofNat 0, .ofNat 0)), (3, 0, (7, .ofNat 1, .ofNat 0), (5, .ofNat 1, .ofNat 0), (8, .ofNat 1, .ofNat 0)), (0, 5, (1, .ofNat 1, .ofNat 0), (7, .ofNat 1, .ofNat 0), (0, .ofNat 0, .ofNat 0)), (2, 5, (6, .ofNat 1, .ofNat 0), (4, .ofNat 1, .ofNat 0), (0, .ofNat 0, .ofNat 0)), (2, 3, (6, .ofNat 1, .ofNat 0), (0, .ofNat 0, .ofNat 0), (0, .ofNat 0, .ofNat 0)), (2, 5, (6, .ofNat 1, .ofNat 0), (5, .ofNat 1, .ofNat 2), (0, .ofNat 0, .ofNat 0))], [(1, [(.ofNat 0, .ofNat 7)]), (2, [(.ofNat 0, .ofNat 7)]), (3, [(.ofNat 0, .ofNat 9)]), (4, [(.ofNat 0, .ofNat 9)]), (5, [(.negSucc 8, .ofNat 9)]), (6, [(.ofNat 0, .ofNat 9)]), (7, [(.negSucc 99, .ofNat 100)]), (8, [(.negSucc 899, .ofNat 900)]), (9, [(.negSucc 99, .ofNat 100)]), (10, [(.negSucc 899, .ofNat 900)]), (11, [(.negSucc 1799, .ofNat 1800)])], [((8, .ofNat 1, .ofNat 0), (10, .negSucc 0, .ofNat 0), (11, .ofNat 1, .ofNat 0))], []),
  (118, [(0, .inr (.inl [64])), (1, .inr (.inl [1])), (2, .inl (false, (1, .ofNat 1, .ofNat 0))), (3, .inl (false, (2, .ofNat 1, .ofNat 0))), (4, .inl (false, (3, .ofNat 1, .ofNat 0))), (5, .inl (false, (4, .ofNat 1, .ofNat 0))), (6, .inl (false, (5, .ofNat 1, .ofNat 0))), (7, .inl (false, (6, .ofNat 1, .ofNat 0))), (8, .inl (false, (11, .ofNat 1, .ofNat 0)))], [.inl (false, (0, .ofNat 0, .ofNat 1)), .inl (false, (6, .ofNat 1, .ofNat 0)), .inl (false, (5, .ofNat 1, .ofNat 0)), .inl (false, (3, .ofNat 1, .ofNat 0))], [(2, 0, (4, .ofNat 1, .ofNat 0), (3, .ofNat 1, .ofNat 0), (0, .ofNat 0, .ofNat 0)), (2, 3, (4, .ofNat 1, .ofNat 0), (3, .ofNat 1, .ofNat 0), (0, .ofNat 0, .ofNat 0)), (3, 0, (9, .ofNat 1, .ofNat 0), (6, .ofNat 1, .ofNat 0), (10, .ofNat 1, .ofNat 0)), (0, 5, (2, .ofNat 1, .ofNat 0), (9, .ofNat 1, .ofNat 0), (0, .ofNat 0, .ofNat 0)), (3, 0, (7, .ofNat 1, .ofNat 0), (5, .ofNat 1, .ofNat 0), (8, .ofNat 1, .ofNat 0)), (0, 5, (1, .ofNat 1, .ofNat 0), (7, .ofNat 1, .ofNat 0), (0, .ofNat 0, .ofNat 0)), (2, 5, (6, .ofNat 1, .ofNat 0), (4, .ofNat 1, .ofNat 0), (0, .ofNat 0, .ofNat 0)), (2, 3, (6, .ofNat 1, .ofNat 0), (0, .ofNat 0, .ofNat 0), (0, .ofNat 0, .ofNat 0)), (2, 5, (6, .ofNat 1, .ofNat 0), (5, .ofNat 1, .ofNat 2), (0, .ofNat 0, .ofNat 0))], [(1, [(.ofNat 0, .ofNat 7)]), (2, [(.ofNat 0, .ofNat 7)]), (3, [(.ofNat 0, .ofNat 9)]), (4, [(.ofNat 0, .ofNat 9)]), (5, [(.negSucc 8, .ofNat 9)]), (6, [(.ofNat 0, .ofNat 9)]), (7, [(.negSucc 99, .ofNat 100)]), (8, [(.negSucc 899, .ofNat 900)]), (9, [(.negSucc 99, .ofNat 100)]), (10, [(.negSucc 899, .ofNat 900)]), (11, [(.negSucc 1799, .ofNat 1800)])], [((8, .ofNat 1, .ofNat 0), (10, .negSucc 0, .ofNat 0), (11, .ofNat 1, .ofNat 0))], []),
  (94, [(0, .inr (.inl [64])), (1, .inr (.inl [1])), (2, .inl (false, (1, .ofNat 1, .ofNat 0))), (3, .inl (false, (2, .ofNat 1, .ofNat 0))), (4, .inl (false, (3, .ofNat 1, .ofNat 0))), (5, .inl (false, (4, .ofNat 1, .ofNat 0))), (6, .inl (false, (5, .ofNat 1, .ofNat 0))), (7, .inl (false, (6, .ofNat 1, .ofNat 0))), (8, .inl (false, (11, .ofNat 1, .ofNat 0)))], [.inl (false, (0, .ofNat 0, .ofNat 0)), .inl (false, (5, .ofNat 1, .ofNat 0)), .inl (false, (6, .ofNat 1, .ofNat 0)), .inl (false, (4, .ofNat 1, .ofNat 0))], [(2, 2, (4, .ofNat 1, .ofNat 0), (3, .ofNat 1, .ofNat 0), (0, .ofNat 0, .ofNat 0)), (3, 0, (9, .ofNat 1, .ofNat 0), (6, .ofNat 1, .ofNat 0), (10, .ofNat 1, .ofNat 0)), (0, 5, (2, .ofNat 1, .ofNat 0), (9, .ofNat 1, .ofNat 0), (0, .ofNat 0, .ofNat 0)), (3, 0, (7, .ofNat 1, .ofNat 0), (5, .ofNat 1, .ofNat 0), (8, .ofNat 1, .ofNat 0)), (0, 5, (1, .ofNat 1, .ofNat 0), (7, .ofNat 1, .ofNat 0), (0, .ofNat 0, .ofNat 0)), (2, 5, (6, .ofNat 1, .ofNat 0), (4, .ofNat 1, .ofNat 0), (0, .ofNat 0, .ofNat 0)), (2, 3, (6, .ofNat 1, .ofNat 0), (0, .ofNat 0, .ofNat 0), (0, .ofNat 0, .ofNat 0)), (2, 5, (6, .ofNat 1, .ofNat 0), (5, .ofNat 1, .ofNat 2), (0, .ofNat 0, .ofNat 0))], [(1, [(.ofNat 0, .ofNat 7)]), (2, [(.ofNat 0, .ofNat 7)]), (3, [(.ofNat 1, .ofNat 9)]), (4, [(.ofNat 0, .ofNat 8)]), (5, [(.negSucc 8, .ofNat 9)]), (6, [(.ofNat 0, .ofNat 9)]), (7, [(.negSucc 99, .ofNat 100)]), (8, [(.negSucc 899, .ofNat 900)]), (9, [(.negSucc 99, .ofNat 100)]), (10, [(.negSucc 899, .ofNat 900)]), (11, [(.negSucc 1799, .ofNat 1800)])], [((8, .ofNat 1, .ofNat 0), (10, .negSucc 0, .ofNat 0), (11, .ofNat 1, .ofNat 0))], []),
  (40, [(0, .inr (.inl [64])), (1, .inr (.inl [1])), (2, .inl (false, (1, .ofNat 1, .ofNat 0))), (3, .inl (false, (2, .ofNat 1, .ofNat 0))), (4, .inl (false, (3, .ofNat 1, .ofNat 0))), (5, .inl (false, (4, .ofNat 1, .ofNat 0))), (6, .inl (false, (5, .ofNat 1, .ofNat 0))), (7, .inl (false, (6, .ofNat 1, .ofNat 2)))], [], [(2, 4, (6, .negSucc 0, .ofNat 0), (4, .ofNat 1, .ofNat 0), (0, .ofNat 0, .ofNat 0)), (2, 2, (6, .ofNat 1, .ofNat 0), (0, .ofNat 0, .ofNat 0), (0, .ofNat 0, .ofNat 0)), (2, 5, (6, .ofNat 1, .ofNat 0), (5, .ofNat 1, .ofNat 2), (0, .ofNat 0, .ofNat 0))], [(1, [(.ofNat 0, .ofNat 7)]), (2, [(.ofNat 0, .ofNat 7)]), (3, [(.ofNat 0, .ofNat 9)]), (4, [(.ofNat 0, .ofNat 9)]), (5, [(.negSucc 8, .ofNat 9)]), (6, [(.negSucc 10, .negSucc 0)])], [], []),
  (118, [(0, .inr (.inl [64])), (1, .inr (.inl [1])), (2, .inl (false, (1, .ofNat 1, .ofNat 0))), (3, .inl (false, (2, .ofNat 1, .ofNat 0))), (4, .inl (false, (3, .ofNat 1, .ofNat 0))), (5, .inl (false, (4, .ofNat 1, .ofNat 0))), (6, .inl (false, (5, .ofNat 1, .ofNat 0))), (7, .inl (false, (6, .ofNat 1, .ofNat 0))), (8, .inl (false, (11, .ofNat 1, .ofNat 0)))], [.inl (false, (0, .ofNat 0, .ofNat 0)), .inl (false, (6, .ofNat 1, .ofNat 0)), .inl (false, (5, .ofNat 1, .ofNat 0)), .inl (false, (3, .ofNat 1, .ofNat 0))], [(2, 1, (4, .ofNat 1, .ofNat 0), (3, .ofNat 1, .ofNat 0), (0, .ofNat 0, .ofNat 0)), (2, 3, (4, .ofNat 1, .ofNat 0), (3, .ofNat 1, .ofNat 0), (0, .ofNat 0, .ofNat 0)), (3, 0, (9, .ofNat 1, .ofNat 0), (6, .ofNat 1, .ofNat 0), (10, .ofNat 1, .ofNat 0)), (0, 5, (2, .ofNat 1, .ofNat 0), (9, .ofNat 1, .ofNat 0), (0, .ofNat 0, .ofNat 0)), (3, 0, (7, .ofNat 1, .ofNat 0), (5, .ofNat 1, .ofNat 0), (8, .ofNat 1, .ofNat 0)), (0, 5, (1, .ofNat 1, .ofNat 0), (7, .ofNat 1, .ofNat 0), (0, .ofNat 0, .ofNat 0)), (2, 5, (6, .negSucc 0, .ofNat 0), (4, .ofNat 1, .ofNat 0), (0, .ofNat 0, .ofNat 0)), (2, 2, (6, .ofNat 1, .ofNat 0), (0, .ofNat 0, .ofNat 0), (0, .ofNat 0, .ofNat 0)), (2, 5, (6, .ofNat 1, .ofNat 0), (5, .ofNat 1, .ofNat 2), (0, .ofNat 0, .ofNat 0))], [(1, [(.ofNat 0, .ofNat 7)]), (2, [(.ofNat 0, .ofNat 7)]), (3, [(.ofNat 0, .ofNat 9)]), (4, [(.ofNat 1, .ofNat 9)]), (5, [(.negSucc 8, .ofNat 9)]), (6, [(.negSucc 8, .negSucc 0)]), (7, [(.negSucc 99, .ofNat 100)]), (8, [(.negSucc 899, .ofNat 900)]), (9, [(.negSucc 99, .ofNat 100)]), (10, [(.negSucc 899, .ofNat 900)]), (11, [(.negSucc 1799, .ofNat 1800)])], [((8, .ofNat 1, .ofNat 0), (10, .negSucc 0, .ofNat 0), (11, .ofNat 1, .ofNat 0))], []),
  (118, [(0, .inr (.inl [64])), (1, .inr (.inl [1])), (2, .inl (false, (1, .ofNat 1, .ofNat 0))), (3, .inl (false, (2, .ofNat 1, .ofNat 0))), (4, .inl (false, (3, .ofNat 1, .ofNat 0))), (5, .inl (false, (4, .ofNat 1, .ofNat 0))), (6, .inl (false, (5, .ofNat 1, .ofNat 0))), (7, .inl (false, (6, .ofNat 1, .ofNat 0))), (8, .inl (false, (11, .ofNat 1, .ofNat 0)))], [.inl (false, (0, .ofNat 0, .ofNat 1)), .inl (false, (6, .ofNat 1, .ofNat 0)), .inl (false, (5, .ofNat 1, .ofNat 0)), .inl (false, (3, .ofNat 1, .ofNat 0))], [(2, 0, (4, .ofNat 1, .ofNat 0), (3, .ofNat 1, .ofNat 0), (0, .ofNat 0, .ofNat 0)), (2, 3, (4, .ofNat 1, .ofNat 0), (3, .ofNat 1, .ofNat 0), (0, .ofNat 0, .ofNat 0)), (3, 0, (9, .ofNat 1, .ofNat 0), (6, .ofNat 1, .ofNat 0), (10, .ofNat 1, .ofNat 0)), (0, 5, (2, .ofNat 1, .ofNat 0), (9, .ofNat 1, .ofNat 0), (0, .ofNat 0, .ofNat 0)), (3, 0, (7, .ofNat 1, .ofNat 0), (5, .ofNat 1, .ofNat 0), (8, .ofNat 1, .ofNat 0)), (0, 5, (1, .ofNat 1, .ofNat 0), (7, .ofNat 1, .ofNat 0), (0, .ofNat 0, .ofNat 0)), (2, 5, (6, .negSucc 0, .ofNat 0), (4, .ofNat 1, .ofNat 0), (0, .ofNat 0, .ofNat 0)), (2, 2, (6, .ofNat 1, .ofNat 0), (0, .ofNat 0, .ofNat 0), (0, .ofNat 0, .ofNat 0)), (2, 5, (6, .ofNat 1, .ofNat 0), (5, .ofNat 1, .ofNat 2), (0, .ofNat 0, .ofNat 0))], [(1, [(.ofNat 0, .ofNat 7)]), (2, [(.ofNat 0, .ofNat 7)]), (3, [(.ofNat 1, .ofNat 9)]), (4, [(.ofNat 1, .ofNat 9)]), (5, [(.negSucc 8, .ofNat 9)]), (6, [(.negSucc 8, .negSucc 0)]), (7, [(.negSucc 99, .ofNat 100)]), (8, [(.negSucc 899, .ofNat 900)]), (9, [(.negSucc 99, .ofNat 100)]), (10, [(.negSucc 899, .ofNat 900)]), (11, [(.negSucc 1799, .ofNat 1800)])], [((8, .ofNat 1, .ofNat 0), (10, .negSucc 0, .ofNat 0), (11, .ofNat 1, .ofNat 0))], []),
  (94, [(0, .inr (.inl [64])), (1, .inr (.inl [1])), (2, .inl (false, (1, .ofNat 1, .ofNat 0))), (3, .inl (false, (2, .ofNat 1, .ofNat 0))), (4, .inl (false, (3, .ofNat 1, .ofNat 0))), (5, .inl (false, (4, .ofNat 1, .ofNat 0))), (6, .inl (false, (5, .ofNat 1, .ofNat 0))), (7, .inl (false, (6, .ofNat 1, .ofNat 0))), (8, .inl (false, (11, .ofNat 1, .ofNat 0)))], [.inl (false, (0, .ofNat 0, .ofNat 0)), .inl (false, (5, .ofNat 1, .ofNat 0)), .inl (false, (6, .ofNat 1, .ofNat 0)), .inl (false, (4, .ofNat 1, .ofNat 0))], [(2, 2, (4, .ofNat 1, .ofNat 0), (3, .ofNat 1, .ofNat 0), (0, .ofNat 0, .ofNat 0)), (3, 0, (9, .ofNat 1, .ofNat 0), (6, .ofNat 1, .ofNat 0), (10, .ofNat 1, .ofNat 0)), (0, 5, (2, .ofNat 1, .ofNat 0), (9, .ofNat 1, .ofNat 0), (0, .ofNat 0, .ofNat 0)), (3, 0, (7, .ofNat 1, .ofNat 0), (5, .ofNat 1, .ofNat 0), (8, .ofNat 1, .ofNat 0)), (0, 5, (1, .ofNat 1, .ofNat 0), (7, .ofNat 1, .ofNat 0), (0, .ofNat 0, .ofNat 0)), (2, 5, (6, .negSucc 0, .ofNat 0), (4, .ofNat 1, .ofNat 0), (0, .ofNat 0, .ofNat 0)), (2, 2, (6, .ofNat 1, .ofNat 0), (0, .ofNat 0, .ofNat 0), (0, .ofNat 0, .ofNat 0)), (2, 5, (6, .ofNat 1, .ofNat 0), (5, .ofNat 1, .ofNat 2), (0, .ofNat 0, .ofNat 0))], [(1, [(.ofNat 0, .ofNat 7)]), (2, [(.ofNat 0, .ofNat 7)]), (3, [(.ofNat 2, .ofNat 9)]), (4, [(.ofNat 1, .ofNat 8)]), (5, [(.negSucc 8, .ofNat 9)]), (6, [(.negSucc 8, .negSucc 0)]), (7, [(.negSucc 99, .ofNat 100)]), (8, [(.negSucc 899, .ofNat 900)]), (9, [(.negSucc 99, .ofNat 100)]), (10, [(.negSucc 899, .ofNat 900)]), (11, [(.negSucc 1799, .ofNat 1800)])], [((8, .ofNat 1, .ofNat 0), (10, .negSucc 0, .ofNat 0), (11, .ofNat 1, .ofNat 0))], [])]
set_option maxRecDepth 1000000 in
theorem sg_bd_c_g : sg_go [] [93, 117, 39, 26] 3000 5 39 1 7 [(0, [(.ofNat 0, .ofNat 0)]), (1, [(.ofNat 0, .ofNat 7)]), (2, [(.ofNat 0, .ofNat 7)]), (3, [(.ofNat 0, .ofNat 9)]), (4, [(.ofNat 0, .ofNat 9)]), (5, [(.negSucc 8, .ofNat 9)]), (6, [(.negSucc 10, .ofNat 13)])] [] [] [] [(0, .inr (.inl [64])), (1, .inr (.inl [1])), (2, .inl (false, (1, .ofNat 1, .ofNat 0))), (3, .inl (false, (2, .ofNat 1, .ofNat 0))), (4, .inl (false, (3, .ofNat 1, .ofNat 0))), (5, .inl (false, (4, .ofNat 1, .ofNat 0))), (6, .inl (false, (5, .ofNat 1, .ofNat 0))), (7, .inl (false, (6, .ofNat 1, .ofNat 0)))] [] [] sg_bd_c_Z = true := by decide +kernel
set_option maxRecDepth 100000 in
theorem sg_bd_c {Q : Option Value × am_S → Prop} {d : Nat} {S : am_S} {L : am_L} {x1 x2 x3 x4 x5 x6 : Int} (hd : 1 ≤ d) (hP : ax_P0 none S) (l0 : lc L 0 64) (l1 : lc L 1 1) (l2 : li L 2 x1) (l3 : li L 3 x2) (l4 : li L 4 x3) (l5 : li L 5 x4) (l6 : li L 6 x5) (l7 : li L 7 x6) (b1 : (0 ≤ x1 ∧ x1 ≤ 7)) (b2 : (0 ≤ x2 ∧ x2 ≤ 7)) (b3 : (0 ≤ x3 ∧ x3 ≤ 9)) (b4 : (0 ≤ x4 ∧ x4 ≤ 9)) (b5 : ((-9) ≤ x5 ∧ x5 ≤ 9)) (b6 : ((-11) ≤ x6 ∧ x6 ≤ 13))
    (k0 : ∀ (L' : am_L), x5 + 2 < x6 → (0 ≤ x1 ∧ x1 ≤ 7) → (0 ≤ x2 ∧ x2 ≤ 7) → (0 ≤ x3 ∧ x3 ≤ 9) → (0 ≤ x4 ∧ x4 ≤ 9) → ((-9) ≤ x5 ∧ x5 ≤ 9) → ((-6) ≤ x6 ∧ x6 ≤ 13) → lc L' 0 64 → lc L' 1 1 → li L' 2 x1 → li L' 3 x2 → li L' 4 x3 → li L' 5 x4 → li L' 6 (x5 + 2) → li L' 7 x6 → am_V none d 5 26 L' ([]) S Q)
    (k1 : ∀ (L' : am_L), x6 ≤ x5 + 2 → 0 ≤ x6 → x4 < x6 → (0 ≤ x1 ∧ x1 ≤ 7) → (0 ≤ x2 ∧ x2 ≤ 7) → (0 ≤ x3 ∧ x3 ≤ 9) → (0 ≤ x4 ∧ x4 ≤ 9) → ((-9) ≤ x5 ∧ x5 ≤ 9) → (1 ≤ x6 ∧ x6 ≤ 11) → lc L' 0 64 → lc L' 1 1 → li L' 2 x1 → li L' 3 x2 → li L' 4 x3 → li L' 5 x4 → li L' 6 x5 → li L' 7 (x6 + 2) → am_V none d 5 39 L' ([]) S Q)
    (k2 : ∀ (x7 x8 x9 x10 x11 : Int) (L' : am_L) (i1 : Int32) (i2 : Int32) (i3 : Int32) (i4 : Int32), x6 ≤ x5 + 2 → 0 ≤ x6 → x6 ≤ x4 → rd S 5 x1 = x7 → (∃ a b : Int32, a.toInt = x7 ∧ b.toInt = x5 ∧ (a * b).toInt = x8) → rd S 5 x2 = x9 → (∃ a b : Int32, a.toInt = x9 ∧ b.toInt = x6 ∧ (a * b).toInt = x10) → x3 ≤ x4 → x4 ≠ x3 → (0 ≤ x1 ∧ x1 ≤ 7) → (0 ≤ x2 ∧ x2 ≤ 7) → (0 ≤ x3 ∧ x3 ≤ 9) → (0 ≤ x4 ∧ x4 ≤ 9) → ((-9) ≤ x5 ∧ x5 ≤ 9) → (0 ≤ x6 ∧ x6 ≤ 9) → ((-100) ≤ x7 ∧ x7 ≤ 100) → ((-900) ≤ x8 ∧ x8 ≤ 900) → ((-100) ≤ x9 ∧ x9 ≤ 100) → ((-900) ≤ x10 ∧ x10 ≤ 900) → ((-1800) ≤ x11 ∧ x11 ≤ 1800) → x8 + ((-1) * x10 + 0) = x11 → lc L' 0 64 → lc L' 1 1 → li L' 2 x1 → li L' 3 x2 → li L' 4 x3 → li L' 5 x4 → li L' 6 x5 → li L' 7 x6 → li L' 8 x11 → i1.toInt = 0 → i2.toInt = x6 → i3.toInt = x5 → i4.toInt = x3 → am_V none d 5 117 L' ((.int i1) :: (.int i2) :: (.int i3) :: (.int i4) :: []) S Q)
    (k3 : ∀ (x7 x8 x9 x10 x11 : Int) (L' : am_L) (i1 : Int32) (i2 : Int32) (i3 : Int32) (i4 : Int32), x6 ≤ x5 + 2 → 0 ≤ x6 → x6 ≤ x4 → rd S 5 x1 = x7 → (∃ a b : Int32, a.toInt = x7 ∧ b.toInt = x5 ∧ (a * b).toInt = x8) → rd S 5 x2 = x9 → (∃ a b : Int32, a.toInt = x9 ∧ b.toInt = x6 ∧ (a * b).toInt = x10) → x3 ≤ x4 → x4 = x3 → (0 ≤ x1 ∧ x1 ≤ 7) → (0 ≤ x2 ∧ x2 ≤ 7) → (0 ≤ x3 ∧ x3 ≤ 9) → (0 ≤ x4 ∧ x4 ≤ 9) → ((-9) ≤ x5 ∧ x5 ≤ 9) → (0 ≤ x6 ∧ x6 ≤ 9) → ((-100) ≤ x7 ∧ x7 ≤ 100) → ((-900) ≤ x8 ∧ x8 ≤ 900) → ((-100) ≤ x9 ∧ x9 ≤ 100) → ((-900) ≤ x10 ∧ x10 ≤ 900) → ((-1800) ≤ x11 ∧ x11 ≤ 1800) → x8 + ((-1) * x10 + 0) = x11 → lc L' 0 64 → lc L' 1 1 → li L' 2 x1 → li L' 3 x2 → li L' 4 x3 → li L' 5 x4 → li L' 6 x5 → li L' 7 x6 → li L' 8 x11 → i1.toInt = 1 → i2.toInt = x6 → i3.toInt = x5 → i4.toInt = x3 → am_V none d 5 117 L' ((.int i1) :: (.int i2) :: (.int i3) :: (.int i4) :: []) S Q)
    (k4 : ∀ (x7 x8 x9 x10 x11 : Int) (L' : am_L) (i1 : Int32) (i2 : Int32) (i3 : Int32) (i4 : Int32), x6 ≤ x5 + 2 → 0 ≤ x6 → x6 ≤ x4 → rd S 5 x1 = x7 → (∃ a b : Int32, a.toInt = x7 ∧ b.toInt = x5 ∧ (a * b).toInt = x8) → rd S 5 x2 = x9 → (∃ a b : Int32, a.toInt = x9 ∧ b.toInt = x6 ∧ (a * b).toInt = x10) → x4 < x3 → (0 ≤ x1 ∧ x1 ≤ 7) → (0 ≤ x2 ∧ x2 ≤ 7) → (1 ≤ x3 ∧ x3 ≤ 9) → (0 ≤ x4 ∧ x4 ≤ 8) → ((-9) ≤ x5 ∧ x5 ≤ 9) → (0 ≤ x6 ∧ x6 ≤ 9) → ((-100) ≤ x7 ∧ x7 ≤ 100) → ((-900) ≤ x8 ∧ x8 ≤ 900) → ((-100) ≤ x9 ∧ x9 ≤ 100) → ((-900) ≤ x10 ∧ x10 ≤ 900) → ((-1800) ≤ x11 ∧ x11 ≤ 1800) → x8 + ((-1) * x10 + 0) = x11 → lc L' 0 64 → lc L' 1 1 → li L' 2 x1 → li L' 3 x2 → li L' 4 x3 → li L' 5 x4 → li L' 6 x5 → li L' 7 x6 → li L' 8 x11 → i1.toInt = 0 → i2.toInt = x5 → i3.toInt = x6 → i4.toInt = x4 → am_V none d 5 93 L' ((.int i1) :: (.int i2) :: (.int i3) :: (.int i4) :: []) S Q)
    (k5 : ∀ (L' : am_L), x6 ≤ x5 + 2 → x6 < 0 → x4 < (-1) * x6 + 0 → (0 ≤ x1 ∧ x1 ≤ 7) → (0 ≤ x2 ∧ x2 ≤ 7) → (0 ≤ x3 ∧ x3 ≤ 9) → (0 ≤ x4 ∧ x4 ≤ 9) → ((-9) ≤ x5 ∧ x5 ≤ 9) → ((-11) ≤ x6 ∧ x6 ≤ (-1)) → lc L' 0 64 → lc L' 1 1 → li L' 2 x1 → li L' 3 x2 → li L' 4 x3 → li L' 5 x4 → li L' 6 x5 → li L' 7 (x6 + 2) → am_V none d 5 39 L' ([]) S Q)
    (k6 : ∀ (x7 x8 x9 x10 x11 : Int) (L' : am_L) (i1 : Int32) (i2 : Int32) (i3 : Int32) (i4 : Int32), x6 ≤ x5 + 2 → x6 < 0 → (-1) * x6 + 0 ≤ x4 → rd S 5 x1 = x7 → (∃ a b : Int32, a.toInt = x7 ∧ b.toInt = x5 ∧ (a * b).toInt = x8) → rd S 5 x2 = x9 → (∃ a b : Int32, a.toInt = x9 ∧ b.toInt = x6 ∧ (a * b).toInt = x10) → x3 ≤ x4 → x4 ≠ x3 → (0 ≤ x1 ∧ x1 ≤ 7) → (0 ≤ x2 ∧ x2 ≤ 7) → (0 ≤ x3 ∧ x3 ≤ 9) → (1 ≤ x4 ∧ x4 ≤ 9) → ((-9) ≤ x5 ∧ x5 ≤ 9) → ((-9) ≤ x6 ∧ x6 ≤ (-1)) → ((-100) ≤ x7 ∧ x7 ≤ 100) → ((-900) ≤ x8 ∧ x8 ≤ 900) → ((-100) ≤ x9 ∧ x9 ≤ 100) → ((-900) ≤ x10 ∧ x10 ≤ 900) → ((-1800) ≤ x11 ∧ x11 ≤ 1800) → x8 + ((-1) * x10 + 0) = x11 → lc L' 0 64 → lc L' 1 1 → li L' 2 x1 → li L' 3 x2 → li L' 4 x3 → li L' 5 x4 → li L' 6 x5 → li L' 7 x6 → li L' 8 x11 → i1.toInt = 0 → i2.toInt = x6 → i3.toInt = x5 → i4.toInt = x3 → am_V none d 5 117 L' ((.int i1) :: (.int i2) :: (.int i3) :: (.int i4) :: []) S Q)
    (k7 : ∀ (x7 x8 x9 x10 x11 : Int) (L' : am_L) (i1 : Int32) (i2 : Int32) (i3 : Int32) (i4 : Int32), x6 ≤ x5 + 2 → x6 < 0 → (-1) * x6 + 0 ≤ x4 → rd S 5 x1 = x7 → (∃ a b : Int32, a.toInt = x7 ∧ b.toInt = x5 ∧ (a * b).toInt = x8) → rd S 5 x2 = x9 → (∃ a b : Int32, a.toInt = x9 ∧ b.toInt = x6 ∧ (a * b).toInt = x10) → x3 ≤ x4 → x4 = x3 → (0 ≤ x1 ∧ x1 ≤ 7) → (0 ≤ x2 ∧ x2 ≤ 7) → (1 ≤ x3 ∧ x3 ≤ 9) → (1 ≤ x4 ∧ x4 ≤ 9) → ((-9) ≤ x5 ∧ x5 ≤ 9) → ((-9) ≤ x6 ∧ x6 ≤ (-1)) → ((-100) ≤ x7 ∧ x7 ≤ 100) → ((-900) ≤ x8 ∧ x8 ≤ 900) → ((-100) ≤ x9 ∧ x9 ≤ 100) → ((-900) ≤ x10 ∧ x10 ≤ 900) → ((-1800) ≤ x11 ∧ x11 ≤ 1800) → x8 + ((-1) * x10 + 0) = x11 → lc L' 0 64 → lc L' 1 1 → li L' 2 x1 → li L' 3 x2 → li L' 4 x3 → li L' 5 x4 → li L' 6 x5 → li L' 7 x6 → li L' 8 x11 → i1.toInt = 1 → i2.toInt = x6 → i3.toInt = x5 → i4.toInt = x3 → am_V none d 5 117 L' ((.int i1) :: (.int i2) :: (.int i3) :: (.int i4) :: []) S Q)
    (k8 : ∀ (x7 x8 x9 x10 x11 : Int) (L' : am_L) (i1 : Int32) (i2 : Int32) (i3 : Int32) (i4 : Int32), x6 ≤ x5 + 2 → x6 < 0 → (-1) * x6 + 0 ≤ x4 → rd S 5 x1 = x7 → (∃ a b : Int32, a.toInt = x7 ∧ b.toInt = x5 ∧ (a * b).toInt = x8) → rd S 5 x2 = x9 → (∃ a b : Int32, a.toInt = x9 ∧ b.toInt = x6 ∧ (a * b).toInt = x10) → x4 < x3 → (0 ≤ x1 ∧ x1 ≤ 7) → (0 ≤ x2 ∧ x2 ≤ 7) → (2 ≤ x3 ∧ x3 ≤ 9) → (1 ≤ x4 ∧ x4 ≤ 8) → ((-9) ≤ x5 ∧ x5 ≤ 9) → ((-9) ≤ x6 ∧ x6 ≤ (-1)) → ((-100) ≤ x7 ∧ x7 ≤ 100) → ((-900) ≤ x8 ∧ x8 ≤ 900) → ((-100) ≤ x9 ∧ x9 ≤ 100) → ((-900) ≤ x10 ∧ x10 ≤ 900) → ((-1800) ≤ x11 ∧ x11 ≤ 1800) → x8 + ((-1) * x10 + 0) = x11 → lc L' 0 64 → lc L' 1 1 → li L' 2 x1 → li L' 3 x2 → li L' 4 x3 → li L' 5 x4 → li L' 6 x5 → li L' 7 x6 → li L' 8 x11 → i1.toInt = 0 → i2.toInt = x5 → i3.toInt = x6 → i4.toInt = x4 → am_V none d 5 93 L' ((.int i1) :: (.int i2) :: (.int i3) :: (.int i4) :: []) S Q) : am_V none d 5 39 L ([]) S Q := by
  refine sg_use sg_bd_c_g hd hP (sg_xs [0, x1, x2, x3, x4, x5, x6]) ⟨⟨Int.le_refl 0, Int.le_refl 0⟩, b1, b2, b3, b4, b5, b6, trivial⟩ trivial trivial trivial ⟨l0, l1, l2, l3, l4, l5, l6, l7, trivial⟩ trivial ?_
  intro z hz x' L' st' S' hx hP' hW hL' hs' hJ hE' hT' hD'
  have q1 : x' 1 = x1 := hx 1 (by decide)
  subst q1
  have q2 : x' 2 = x2 := hx 2 (by decide)
  subst q2
  have q3 : x' 3 = x3 := hx 3 (by decide)
  subst q3
  have q4 : x' 4 = x4 := hx 4 (by decide)
  subst q4
  have q5 : x' 5 = x5 := hx 5 (by decide)
  subst q5
  have q6 : x' 6 = x6 := hx 6 (by decide)
  subst q6
  have eS : S' = S := hW.1 rfl
  subst eS
  simp only [sg_bd_c_Z, List.mem_cons, List.not_mem_nil, or_false] at hz
  rcases hz with rfl | rfl | rfl | rfl | rfl | rfl | rfl | rfl | rfl
  · obtain ⟨f0, hσ⟩ := hJ
    obtain ⟨e0, e1, e2, e3, e4, e5, -⟩ := hE'
    obtain ⟨p0, p1, p2, p3, p4, p5, p6, p7, -⟩ := hL'
    obtain rfl := sg_tn hs'
    exact k0 L' f0 e0 e1 e2 e3 e4 e5 p0 p1 p2 p3 p4 p5 p6 p7
  · obtain ⟨f0, f1, f2, hσ⟩ := hJ
    obtain ⟨e0, e1, e2, e3, e4, e5, -⟩ := hE'
    obtain ⟨p0, p1, p2, p3, p4, p5, p6, p7, -⟩ := hL'
    obtain rfl := sg_tn hs'
    exact k1 L' f0 f1 f2 e0 e1 e2 e3 e4 e5 p0 p1 p2 p3 p4 p5 p6 p7
  · obtain ⟨f0, f1, f2, f3, f4, f5, f6, f7, f8, hσ⟩ := hJ
    obtain ⟨e0, e1, e2, e3, e4, e5, e6, e7, e8, e9, e10, -⟩ := hE'
    obtain ⟨t0, -⟩ := hT'
    obtain ⟨p0, p1, p2, p3, p4, p5, p6, p7, p8, -⟩ := hL'
    obtain ⟨v1, r1, rfl, ⟨i1, rfl, g1⟩, hs1⟩ := sg_tc hs'
    obtain ⟨v2, r2, rfl, ⟨i2, rfl, g2⟩, hs2⟩ := sg_tc hs1
    obtain ⟨v3, r3, rfl, ⟨i3, rfl, g3⟩, hs3⟩ := sg_tc hs2
    obtain ⟨v4, r4, rfl, ⟨i4, rfl, g4⟩, hs4⟩ := sg_tc hs3
    obtain rfl := sg_tn hs4
    exact k2 (x' 7) (x' 8) (x' 9) (x' 10) (x' 11) L' i1 i2 i3 i4 f0 f1 f2 f3 f4 f5 f6 f7 f8 e0 e1 e2 e3 e4 e5 e6 e7 e8 e9 e10 t0 p0 p1 p2 p3 p4 p5 p6 p7 p8 g1 g2 g3 g4
  · obtain ⟨f0, f1, f2, f3, f4, f5, f6, f7, f8, hσ⟩ := hJ
    obtain ⟨e0, e1, e2, e3, e4, e5, e6, e7, e8, e9, e10, -⟩ := hE'
    obtain ⟨t0, -⟩ := hT'
    obtain ⟨p0, p1, p2, p3, p4, p5, p6, p7, p8, -⟩ := hL'
    obtain ⟨v1, r1, rfl, ⟨i1, rfl, g1⟩, hs1⟩ := sg_tc hs'
    obtain ⟨v2, r2, rfl, ⟨i2, rfl, g2⟩, hs2⟩ := sg_tc hs1
    obtain ⟨v3, r3, rfl, ⟨i3, rfl, g3⟩, hs3⟩ := sg_tc hs2
    obtain ⟨v4, r4, rfl, ⟨i4, rfl, g4⟩, hs4⟩ := sg_tc hs3
    obtain rfl := sg_tn hs4
    exact k3 (x' 7) (x' 8) (x' 9) (x' 10) (x' 11) L' i1 i2 i3 i4 f0 f1 f2 f3 f4 f5 f6 f7 f8 e0 e1 e2 e3 e4 e5 e6 e7 e8 e9 e10 t0 p0 p1 p2 p3 p4 p5 p6 p7 p8 g1 g2 g3 g4
  · obtain ⟨f0, f1, f2, f3, f4, f5, f6, f7, hσ⟩ := hJ
    obtain ⟨e0, e1, e2, e3, e4, e5, e6, e7, e8, e9, e10, -⟩ := hE'
    obtain ⟨t0, -⟩ := hT'
    obtain ⟨p0, p1, p2, p3, p4, p5, p6, p7, p8, -⟩ := hL'
    obtain ⟨v1, r1, rfl, ⟨i1, rfl, g1⟩, hs1⟩ := sg_tc hs'
    obtain ⟨v2, r2, rfl, ⟨i2, rfl, g2⟩, hs2⟩ := sg_tc hs1
    obtain ⟨v3, r3, rfl, ⟨i3, rfl, g3⟩, hs3⟩ := sg_tc hs2
    obtain ⟨v4, r4, rfl, ⟨i4, rfl, g4⟩, hs4⟩ := sg_tc hs3
    obtain rfl := sg_tn hs4
    exact k4 (x' 7) (x' 8) (x' 9) (x' 10) (x' 11) L' i1 i2 i3 i4 f0 f1 f2 f3 f4 f5 f6 f7 e0 e1 e2 e3 e4 e5 e6 e7 e8 e9 e10 t0 p0 p1 p2 p3 p4 p5 p6 p7 p8 g1 g2 g3 g4
  · obtain ⟨f0, f1, f2, hσ⟩ := hJ
    obtain ⟨e0, e1, e2, e3, e4, e5, -⟩ := hE'
    obtain ⟨p0, p1, p2, p3, p4, p5, p6, p7, -⟩ := hL'
    obtain rfl := sg_tn hs'
    exact k5 L' f0 f1 f2 e0 e1 e2 e3 e4 e5 p0 p1 p2 p3 p4 p5 p6 p7
  · obtain ⟨f0, f1, f2, f3, f4, f5, f6, f7, f8, hσ⟩ := hJ
    obtain ⟨e0, e1, e2, e3, e4, e5, e6, e7, e8, e9, e10, -⟩ := hE'
    obtain ⟨t0, -⟩ := hT'
    obtain ⟨p0, p1, p2, p3, p4, p5, p6, p7, p8, -⟩ := hL'
    obtain ⟨v1, r1, rfl, ⟨i1, rfl, g1⟩, hs1⟩ := sg_tc hs'
    obtain ⟨v2, r2, rfl, ⟨i2, rfl, g2⟩, hs2⟩ := sg_tc hs1
    obtain ⟨v3, r3, rfl, ⟨i3, rfl, g3⟩, hs3⟩ := sg_tc hs2
    obtain ⟨v4, r4, rfl, ⟨i4, rfl, g4⟩, hs4⟩ := sg_tc hs3
    obtain rfl := sg_tn hs4
    exact k6 (x' 7) (x' 8) (x' 9) (x' 10) (x' 11) L' i1 i2 i3 i4 f0 f1 f2 f3 f4 f5 f6 f7 f8 e0 e1 e2 e3 e4 e5 e6 e7 e8 e9 e10 t0 p0 p1 p2 p3 p4 p5 p6 p7 p8 g1 g2 g3 g4
  · obtain ⟨f0, f1, f2, f3, f4, f5, f6, f7, f8, hσ⟩ := hJ
    obtain ⟨e0, e1, e2, e3, e4, e5, e6, e7, e8, e9, e10, -⟩ := hE'
    obtain ⟨t0, -⟩ := hT'
    obtain ⟨p0, p1, p2, p3, p4, p5, p6, p7, p8, -⟩ := hL'
    obtain ⟨v1, r1, rfl, ⟨i1, rfl, g1⟩, hs1⟩ := sg_tc hs'
    obtain ⟨v2, r2, rfl, ⟨i2, rfl, g2⟩, hs2⟩ := sg_tc hs1
    obtain ⟨v3, r3, rfl, ⟨i3, rfl, g3⟩, hs3⟩ := sg_tc hs2
    obtain ⟨v4, r4, rfl, ⟨i4, rfl, g4⟩, hs4⟩ := sg_tc hs3
    obtain rfl := sg_tn hs4
    exact k7 (x' 7) (x' 8) (x' 9) (x' 10) (x' 11) L' i1 i2 i3 i4 f0 f1 f2 f3 f4 f5 f6 f7 f8 e0 e1 e2 e3 e4 e5 e6 e7 e8 e9 e10 t0 p0 p1 p2 p3 p4 p5 p6 p7 p8 g1 g2 g3 g4
  · obtain ⟨f0, f1, f2, f3, f4, f5, f6, f7, hσ⟩ := hJ
    obtain ⟨e0, e1, e2, e3, e4, e5, e6, e7, e8, e9, e10, -⟩ := hE'
    obtain ⟨t0, -⟩ := hT'
    obtain ⟨p0, p1, p2, p3, p4, p5, p6, p7, p8, -⟩ := hL'
    obtain ⟨v1, r1, rfl, ⟨i1, rfl, g1⟩, hs1⟩ := sg_tc hs'
    obtain ⟨v2, r2, rfl, ⟨i2, rfl, g2⟩, hs2⟩ := sg_tc hs1
    obtain ⟨v3, r3, rfl, ⟨i3, rfl, g3⟩, hs3⟩ := sg_tc hs2
    obtain ⟨v4, r4, rfl, ⟨i4, rfl, g4⟩, hs4⟩ := sg_tc hs3
    obtain rfl := sg_tn hs4
    exact k8 (x' 7) (x' 8) (x' 9) (x' 10) (x' 11) L' i1 i2 i3 i4 f0 f1 f2 f3 f4 f5 f6 f7 e0 e1 e2 e3 e4 e5 e6 e7 e8 e9 e10 t0 p0 p1 p2 p3 p4 p5 p6 p7 p8 g1 g2 g3 g4
def sg_bd_d_Z : List sg_z := [(140, [(0, .inr (.inl [64])), (1, .inr (.inl [1])), (2, .inl (false, (1, .ofNat 1, .ofNat 0))), (3, .inl (false, (2, .ofNat 1, .ofNat 0))), (4, .inl (false, (3, .ofNat 1, .ofNat 0))), (5, .inl (false, (4, .ofNat 1, .ofNat 0))), (6, .inl (false, (5, .ofNat 1, .ofNat 0))), (7, .inl (false, (6, .ofNat 1, .ofNat 0))), (8, .inl (false, (7, .ofNat 1, .ofNat 0))), (9, .inl (false, (8, .ofNat 1, .ofNat 0)))], [.inl (false, (8, .ofNat 1, .ofNat 0)), .inl (false, (0, .ofNat 0, .ofNat 0)), .inl (false, (7, .ofNat 1, .ofNat 0)), .inr (.inl [64])], [(2, 1, (5, .ofNat 1, .ofNat 0), (6, .ofNat 1, .ofNat 0), (0, .ofNat 0, .ofNat 0))], [(1, [(.ofNat 0, .ofNat 7)]), (2, [(.ofNat 0, .ofNat 7)]), (3, [(.ofNat 0, .ofNat 9)]), (4, [(.ofNat 0, .ofNat 9)]), (5, [(.negSucc 8, .ofNat 9)]), (6, [(.negSucc 8, .ofNat 9)]), (8, [(.negSucc 399, .ofNat 400)])], [], []),
  (140, [(0, .inr (.inl [64])), (1, .inr (.inl [1])), (2, .inl (false, (1, .ofNat 1, .ofNat 0))), (3, .inl (false, (2, .ofNat 1, .ofNat 0))), (4, .inl (false, (3, .ofNat 1, .ofNat 0))), (5, .inl (false, (4, .ofNat 1, .ofNat 0))), (6, .inl (false, (5, .ofNat 1, .ofNat 0))), (7, .inl (false, (6, .ofNat 1, .ofNat 0))), (8, .inl (false, (7, .ofNat 1, .ofNat 0))), (9, .inl (false, (8, .ofNat 1, .ofNat 0)))], [.inl (false, (8, .ofNat 1, .ofNat 0)), .inl (false, (0, .ofNat 0, .ofNat 1)), .inl (false, (7, .ofNat 1, .ofNat 0)), .inr (.inl [64])], [(2, 0, (5, .ofNat 1, .ofNat 0), (6, .ofNat 1, .ofNat 0), (0, .ofNat 0, .ofNat 0))], [(1, [(.ofNat 0, .ofNat 7)]), (2, [(.ofNat 0, .ofNat 7)]), (3, [(.ofNat 0, .ofNat 9)]), (4, [(.ofNat 0, .ofNat 9)]), (5, [(.negSucc 8, .ofNat 9)]), (6, [(.negSucc 8, .ofNat 9)]), (8, [(.negSucc 399, .ofNat 400)])], [], [])]
set_option maxRecDepth 1000000 in
theorem sg_bd_d_g : sg_go [] [139] 3000 5 120 0 9 [(0, [(.ofNat 0, .ofNat 0)]), (1, [(.ofNat 0, .ofNat 7)]), (2, [(.ofNat 0, .ofNat 7)]), (3, [(.ofNat 0, .ofNat 9)]), (4, [(.ofNat 0, .ofNat 9)]), (5, [(.negSucc 8, .ofNat 9)]), (6, [(.negSucc 8, .ofNat 9)]), (7, [(.negSucc 2147483647, .ofNat 2147483647)]), (8, [(.negSucc 399, .ofNat 400)])] [] [] [] [(0, .inr (.inl [64])), (1, .inr (.inl [1])), (2, .inl (false, (1, .ofNat 1, .ofNat 0))), (3, .inl (false, (2, .ofNat 1, .ofNat 0))), (4, .inl (false, (3, .ofNat 1, .ofNat 0))), (5, .inl (false, (4, .ofNat 1, .ofNat 0))), (6, .inl (false, (5, .ofNat 1, .ofNat 0))), (7, .inl (false, (6, .ofNat 1, .ofNat 0))), (8, .inl (false, (7, .ofNat 1, .ofNat 0)))] [.inl (false, (8, .ofNat 1, .ofNat 0))] [] sg_bd_d_Z = true := by decide +kernel
set_option maxRecDepth 100000 in
theorem sg_bd_d {Q : Option Value × am_S → Prop} {d : Nat} {S : am_S} {L : am_L} {x1 x2 x3 x4 x5 x6 x7 x8 : Int} {i1 : Int32} (hd : 0 ≤ d) (hP : ax_P0 none S) (l0 : lc L 0 64) (l1 : lc L 1 1) (l2 : li L 2 x1) (l3 : li L 3 x2) (l4 : li L 4 x3) (l5 : li L 5 x4) (l6 : li L 6 x5) (l7 : li L 7 x6) (l8 : li L 8 x7) (b1 : (0 ≤ x1 ∧ x1 ≤ 7)) (b2 : (0 ≤ x2 ∧ x2 ≤ 7)) (b3 : (0 ≤ x3 ∧ x3 ≤ 9)) (b4 : (0 ≤ x4 ∧ x4 ≤ 9)) (b5 : ((-9) ≤ x5 ∧ x5 ≤ 9)) (b6 : ((-9) ≤ x6 ∧ x6 ≤ 9)) (b7 : ((-2147483648) ≤ x7 ∧ x7 ≤ 2147483647)) (b8 : ((-400) ≤ x8 ∧ x8 ≤ 400)) (s1 : i1.toInt = x8)
    (k0 : ∀ (L' : am_L) (i1 : Int32) (i2 : Int32) (i3 : Int32), x5 ≠ x6 → (0 ≤ x1 ∧ x1 ≤ 7) → (0 ≤ x2 ∧ x2 ≤ 7) → (0 ≤ x3 ∧ x3 ≤ 9) → (0 ≤ x4 ∧ x4 ≤ 9) → ((-9) ≤ x5 ∧ x5 ≤ 9) → ((-9) ≤ x6 ∧ x6 ≤ 9) → ((-400) ≤ x8 ∧ x8 ≤ 400) → lc L' 0 64 → lc L' 1 1 → li L' 2 x1 → li L' 3 x2 → li L' 4 x3 → li L' 5 x4 → li L' 6 x5 → li L' 7 x6 → li L' 8 x7 → li L' 9 x8 → i1.toInt = x8 → i2.toInt = 0 → i3.toInt = x7 → am_V none d 5 139 L' ((.int i1) :: (.int i2) :: (.int i3) :: (.ref 64) :: []) S Q)
    (k1 : ∀ (L' : am_L) (i1 : Int32) (i2 : Int32) (i3 : Int32), x5 = x6 → (0 ≤ x1 ∧ x1 ≤ 7) → (0 ≤ x2 ∧ x2 ≤ 7) → (0 ≤ x3 ∧ x3 ≤ 9) → (0 ≤ x4 ∧ x4 ≤ 9) → ((-9) ≤ x5 ∧ x5 ≤ 9) → ((-9) ≤ x6 ∧ x6 ≤ 9) → ((-400) ≤ x8 ∧ x8 ≤ 400) → lc L' 0 64 → lc L' 1 1 → li L' 2 x1 → li L' 3 x2 → li L' 4 x3 → li L' 5 x4 → li L' 6 x5 → li L' 7 x6 → li L' 8 x7 → li L' 9 x8 → i1.toInt = x8 → i2.toInt = 1 → i3.toInt = x7 → am_V none d 5 139 L' ((.int i1) :: (.int i2) :: (.int i3) :: (.ref 64) :: []) S Q) : am_V none d 5 120 L ((.int i1) :: []) S Q := by
  refine sg_use sg_bd_d_g hd hP (sg_xs [0, x1, x2, x3, x4, x5, x6, x7, x8]) ⟨⟨Int.le_refl 0, Int.le_refl 0⟩, b1, b2, b3, b4, b5, b6, b7, b8, trivial⟩ trivial trivial trivial ⟨l0, l1, l2, l3, l4, l5, l6, l7, l8, trivial⟩ ⟨⟨_, rfl, s1⟩, trivial⟩ ?_
  intro z hz x' L' st' S' hx hP' hW hL' hs' hJ hE' hT' hD'
  have q1 : x' 1 = x1 := hx 1 (by decide)
  subst q1
  have q2 : x' 2 = x2 := hx 2 (by decide)
  subst q2
  have q3 : x' 3 = x3 := hx 3 (by decide)
  subst q3
  have q4 : x' 4 = x4 := hx 4 (by decide)
  subst q4
  have q5 : x' 5 = x5 := hx 5 (by decide)
  subst q5
  have q6 : x' 6 = x6 := hx 6 (by decide)
  subst q6
  have q7 : x' 7 = x7 := hx 7 (by decide)
  subst q7
  have q8 : x' 8 = x8 := hx 8 (by decide)
  subst q8
  have eS : S' = S := hW.1 rfl
  subst eS
  simp only [sg_bd_d_Z, List.mem_cons, List.not_mem_nil, or_false] at hz
  rcases hz with rfl | rfl
  · obtain ⟨f0, hσ⟩ := hJ
    obtain ⟨e0, e1, e2, e3, e4, e5, e6, -⟩ := hE'
    obtain ⟨p0, p1, p2, p3, p4, p5, p6, p7, p8, p9, -⟩ := hL'
    obtain ⟨v1, r1, rfl, ⟨i1, rfl, g1⟩, hs1⟩ := sg_tc hs'
    obtain ⟨v2, r2, rfl, ⟨i2, rfl, g2⟩, hs2⟩ := sg_tc hs1
    obtain ⟨v3, r3, rfl, ⟨i3, rfl, g3⟩, hs3⟩ := sg_tc hs2
    obtain ⟨v4, r4, rfl, rfl, hs4⟩ := sg_tc hs3
    obtain rfl := sg_tn hs4
    exact k0 L' i1 i2 i3 f0 e0 e1 e2 e3 e4 e5 e6 p0 p1 p2 p3 p4 p5 p6 p7 p8 p9 g1 g2 g3
  · obtain ⟨f0, hσ⟩ := hJ
    obtain ⟨e0, e1, e2, e3, e4, e5, e6, -⟩ := hE'
    obtain ⟨p0, p1, p2, p3, p4, p5, p6, p7, p8, p9, -⟩ := hL'
    obtain ⟨v1, r1, rfl, ⟨i1, rfl, g1⟩, hs1⟩ := sg_tc hs'
    obtain ⟨v2, r2, rfl, ⟨i2, rfl, g2⟩, hs2⟩ := sg_tc hs1
    obtain ⟨v3, r3, rfl, ⟨i3, rfl, g3⟩, hs3⟩ := sg_tc hs2
    obtain ⟨v4, r4, rfl, rfl, hs4⟩ := sg_tc hs3
    obtain rfl := sg_tn hs4
    exact k1 L' i1 i2 i3 f0 e0 e1 e2 e3 e4 e5 e6 p0 p1 p2 p3 p4 p5 p6 p7 p8 p9 g1 g2 g3
def sg_bd_e_Z : List sg_z := [(40, [(0, .inr (.inl [64])), (1, .inr (.inl [1])), (2, .inl (false, (1, .ofNat 1, .ofNat 0))), (3, .inl (false, (2, .ofNat 1, .ofNat 0))), (4, .inl (false, (3, .ofNat 1, .ofNat 0))), (5, .inl (false, (4, .ofNat 1, .ofNat 0))), (6, .inl (false, (5, .ofNat 1, .ofNat 0))), (7, .inl (false, (6, .ofNat 1, .ofNat 2)))], [], [], [(1, [(.ofNat 0, .ofNat 7)]), (2, [(.ofNat 0, .ofNat 7)]), (3, [(.ofNat 0, .ofNat 9)]), (4, [(.ofNat 0, .ofNat 9)]), (5, [(.negSucc 8, .ofNat 9)]), (6, [(.negSucc 8, .ofNat 9)])], [], [])]
set_option maxRecDepth 1000000 in
theorem sg_bd_e_g : sg_go [] [39] 3000 5 142 0 7 [(0, [(.ofNat 0, .ofNat 0)]), (1, [(.ofNat 0, .ofNat 7)]), (2, [(.ofNat 0, .ofNat 7)]), (3, [(.ofNat 0, .ofNat 9)]), (4, [(.ofNat 0, .ofNat 9)]), (5, [(.negSucc 8, .ofNat 9)]), (6, [(.negSucc 8, .ofNat 9)])] [] [] [] [(0, .inr (.inl [64])), (1, .inr (.inl [1])), (2, .inl (false, (1, .ofNat 1, .ofNat 0))), (3, .inl (false, (2, .ofNat 1, .ofNat 0))), (4, .inl (false, (3, .ofNat 1, .ofNat 0))), (5, .inl (false, (4, .ofNat 1, .ofNat 0))), (6, .inl (false, (5, .ofNat 1, .ofNat 0))), (7, .inl (false, (6, .ofNat 1, .ofNat 0)))] [] [] sg_bd_e_Z = true := by decide +kernel
set_option maxRecDepth 100000 in
theorem sg_bd_e {Q : Option Value × am_S → Prop} {d : Nat} {S : am_S} {L : am_L} {x1 x2 x3 x4 x5 x6 : Int} (hd : 0 ≤ d) (hP : ax_P0 none S) (l0 : lc L 0 64) (l1 : lc L 1 1) (l2 : li L 2 x1) (l3 : li L 3 x2) (l4 : li L 4 x3) (l5 : li L 5 x4) (l6 : li L 6 x5) (l7 : li L 7 x6) (b1 : (0 ≤ x1 ∧ x1 ≤ 7)) (b2 : (0 ≤ x2 ∧ x2 ≤ 7)) (b3 : (0 ≤ x3 ∧ x3 ≤ 9)) (b4 : (0 ≤ x4 ∧ x4 ≤ 9)) (b5 : ((-9) ≤ x5 ∧ x5 ≤ 9)) (b6 : ((-9) ≤ x6 ∧ x6 ≤ 9))
    (k0 : ∀ (L' : am_L), (0 ≤ x1 ∧ x1 ≤ 7) → (0 ≤ x2 ∧ x2 ≤ 7) → (0 ≤ x3 ∧ x3 ≤ 9) → (0 ≤ x4 ∧ x4 ≤ 9) → ((-9) ≤ x5 ∧ x5 ≤ 9) → ((-9) ≤ x6 ∧ x6 ≤ 9) → lc L' 0 64 → lc L' 1 1 → li L' 2 x1 → li L' 3 x2 → li L' 4 x3 → li L' 5 x4 → li L' 6 x5 → li L' 7 (x6 + 2) → am_V none d 5 39 L' ([]) S Q) : am_V none d 5 142 L ([]) S Q := by
  refine sg_use sg_bd_e_g hd hP (sg_xs [0, x1, x2, x3, x4, x5, x6]) ⟨⟨Int.le_refl 0, Int.le_refl 0⟩, b1, b2, b3, b4, b5, b6, trivial⟩ trivial trivial trivial ⟨l0, l1, l2, l3, l4, l5, l6, l7, trivial⟩ trivial ?_
  intro z hz x' L' st' S' hx hP' hW hL' hs' hJ hE' hT' hD'
  have q1 : x' 1 = x1 := hx 1 (by decide)
  subst q1
  have q2 : x' 2 = x2 := hx 2 (by decide)
  subst q2
  have q3 : x' 3 = x3 := hx 3 (by decide)
  subst q3
  have q4 : x' 4 = x4 := hx 4 (by decide)
  subst q4
  have q5 : x' 5 = x5 := hx 5 (by decide)
  subst q5
  have q6 : x' 6 = x6 := hx 6 (by decide)
  subst q6
  have eS : S' = S := hW.1 rfl
  subst eS
  simp only [sg_bd_e_Z, List.mem_cons, List.not_mem_nil, or_false] at hz
  rcases hz with rfl
  · have hσ := hJ
    obtain ⟨e0, e1, e2, e3, e4, e5, -⟩ := hE'
    obtain ⟨p0, p1, p2, p3, p4, p5, p6, p7, -⟩ := hL'
    obtain rfl := sg_tn hs'
    exact k0 L' e0 e1 e2 e3 e4 e5 p0 p1 p2 p3 p4 p5 p6 p7
def sg_bd_g_Z : List sg_z := [(121, [(0, .inr (.inl [64])), (1, .inr (.inl [1])), (2, .inl (false, (1, .ofNat 1, .ofNat 0))), (3, .inl (false, (2, .ofNat 1, .ofNat 0))), (4, .inl (false, (3, .ofNat 1, .ofNat 0))), (5, .inl (false, (4, .ofNat 1, .ofNat 0))), (6, .inl (false, (5, .ofNat 1, .ofNat 0))), (7, .inl (false, (6, .ofNat 1, .ofNat 0))), (8, .inl (false, (7, .ofNat 1, .ofNat 0)))], [.inl (false, (8, .ofNat 1, .ofNat 0))], [], [(1, [(.ofNat 0, .ofNat 7)]), (2, [(.ofNat 0, .ofNat 7)]), (3, [(.ofNat 0, .ofNat 9)]), (4, [(.ofNat 0, .ofNat 9)]), (5, [(.negSucc 8, .ofNat 9)]), (6, [(.negSucc 8, .ofNat 9)]), (8, [(.negSucc 399, .ofNat 400)])], [], [])]
set_option maxRecDepth 1000000 in
theorem sg_bd_g_g : sg_go [] [120] 3000 5 96 0 9 [(0, [(.ofNat 0, .ofNat 0)]), (1, [(.ofNat 0, .ofNat 7)]), (2, [(.ofNat 0, .ofNat 7)]), (3, [(.ofNat 0, .ofNat 9)]), (4, [(.ofNat 0, .ofNat 9)]), (5, [(.negSucc 8, .ofNat 9)]), (6, [(.negSucc 8, .ofNat 9)]), (7, [(.negSucc 2147483647, .ofNat 2147483647)]), (8, [(.negSucc 399, .ofNat 400)])] [] [] [] [(0, .inr (.inl [64])), (1, .inr (.inl [1])), (2, .inl (false, (1, .ofNat 1, .ofNat 0))), (3, .inl (false, (2, .ofNat 1, .ofNat 0))), (4, .inl (false, (3, .ofNat 1, .ofNat 0))), (5, .inl (false, (4, .ofNat 1, .ofNat 0))), (6, .inl (false, (5, .ofNat 1, .ofNat 0))), (7, .inl (false, (6, .ofNat 1, .ofNat 0))), (8, .inl (false, (7, .ofNat 1, .ofNat 0)))] [.inl (false, (8, .ofNat 1, .ofNat 0))] [] sg_bd_g_Z = true := by decide +kernel
set_option maxRecDepth 100000 in
theorem sg_bd_g {Q : Option Value × am_S → Prop} {d : Nat} {S : am_S} {L : am_L} {x1 x2 x3 x4 x5 x6 x7 x8 : Int} {i1 : Int32} (hd : 0 ≤ d) (hP : ax_P0 none S) (l0 : lc L 0 64) (l1 : lc L 1 1) (l2 : li L 2 x1) (l3 : li L 3 x2) (l4 : li L 4 x3) (l5 : li L 5 x4) (l6 : li L 6 x5) (l7 : li L 7 x6) (l8 : li L 8 x7) (b1 : (0 ≤ x1 ∧ x1 ≤ 7)) (b2 : (0 ≤ x2 ∧ x2 ≤ 7)) (b3 : (0 ≤ x3 ∧ x3 ≤ 9)) (b4 : (0 ≤ x4 ∧ x4 ≤ 9)) (b5 : ((-9) ≤ x5 ∧ x5 ≤ 9)) (b6 : ((-9) ≤ x6 ∧ x6 ≤ 9)) (b7 : ((-2147483648) ≤ x7 ∧ x7 ≤ 2147483647)) (b8 : ((-400) ≤ x8 ∧ x8 ≤ 400)) (s1 : i1.toInt = x8)
    (k0 : ∀ (L' : am_L) (i1 : Int32), (0 ≤ x1 ∧ x1 ≤ 7) → (0 ≤ x2 ∧ x2 ≤ 7) → (0 ≤ x3 ∧ x3 ≤ 9) → (0 ≤ x4 ∧ x4 ≤ 9) → ((-9) ≤ x5 ∧ x5 ≤ 9) → ((-9) ≤ x6 ∧ x6 ≤ 9) → ((-400) ≤ x8 ∧ x8 ≤ 400) → lc L' 0 64 → lc L' 1 1 → li L' 2 x1 → li L' 3 x2 → li L' 4 x3 → li L' 5 x4 → li L' 6 x5 → li L' 7 x6 → li L' 8 x7 → i1.toInt = x8 → am_V none d 5 120 L' ((.int i1) :: []) S Q) : am_V none d 5 96 L ((.int i1) :: []) S Q := by
  refine sg_use sg_bd_g_g hd hP (sg_xs [0, x1, x2, x3, x4, x5, x6, x7, x8]) ⟨⟨Int.le_refl 0, Int.le_refl 0⟩, b1, b2, b3, b4, b5, b6, b7, b8, trivial⟩ trivial trivial trivial ⟨l0, l1, l2, l3, l4, l5, l6, l7, l8, trivial⟩ ⟨⟨_, rfl, s1⟩, trivial⟩ ?_
  intro z hz x' L' st' S' hx hP' hW hL' hs' hJ hE' hT' hD'
  have q1 : x' 1 = x1 := hx 1 (by decide)
  subst q1
  have q2 : x' 2 = x2 := hx 2 (by decide)
  subst q2
  have q3 : x' 3 = x3 := hx 3 (by decide)
  subst q3
  have q4 : x' 4 = x4 := hx 4 (by decide)
  subst q4
  have q5 : x' 5 = x5 := hx 5 (by decide)
  subst q5
  have q6 : x' 6 = x6 := hx 6 (by decide)
  subst q6
  have q7 : x' 7 = x7 := hx 7 (by decide)
  subst q7
  have q8 : x' 8 = x8 := hx 8 (by decide)
  subst q8
  have eS : S' = S := hW.1 rfl
  subst eS
  simp only [sg_bd_g_Z, List.mem_cons, List.not_mem_nil, or_false] at hz
  rcases hz with rfl
  · have hσ := hJ
    obtain ⟨e0, e1, e2, e3, e4, e5, e6, -⟩ := hE'
    obtain ⟨p0, p1, p2, p3, p4, p5, p6, p7, p8, -⟩ := hL'
    obtain ⟨v1, r1, rfl, ⟨i1, rfl, g1⟩, hs1⟩ := sg_tc hs'
    obtain rfl := sg_tn hs1
    exact k0 L' i1 e0 e1 e2 e3 e4 e5 e6 p0 p1 p2 p3 p4 p5 p6 p7 p8 g1
def sg_sf_x_Z : List sg_z := [(0, [], [.inl (false, (7, .ofNat 1, .ofNat 0))], [(3, 1, (6, .ofNat 1, .ofNat 0), (0, .ofNat 0, .ofNat 2), (7, .ofNat 1, .ofNat 0)), (3, 0, (5, .ofNat 1, .ofNat 2), (5, .ofNat 1, .ofNat 4), (6, .ofNat 1, .ofNat 0)), (2, 5, (3, .ofNat 1, .ofNat 0), (2, .ofNat 1, .ofNat 0), (0, .ofNat 0, .ofNat 0)), (2, 1, (2, .ofNat 1, .ofNat 0), (3, .ofNat 1, .ofNat 0), (0, .ofNat 0, .ofNat 0)), (2, 0, (4, .ofNat 1, .ofNat 0), (0, .ofNat 0, .ofNat 0), (0, .ofNat 0, .ofNat 0))], [(1, [(.ofNat 0, .ofNat 9)]), (2, [(.negSucc 8, .ofNat 9)]), (3, [(.negSucc 8, .ofNat 9)]), (4, [(.ofNat 0, .ofNat 0)]), (5, [(.negSucc 8, .ofNat 18)]), (6, [(.negSucc 153, .ofNat 440)])], [((1, .ofNat 1, .ofNat 0), (2, .negSucc 0, .ofNat 0), (5, .ofNat 1, .ofNat 0))], []),
  (0, [], [.inl (false, (7, .ofNat 1, .ofNat 0))], [(3, 1, (6, .ofNat 1, .ofNat 0), (0, .ofNat 0, .ofNat 2), (7, .ofNat 1, .ofNat 0)), (3, 0, (5, .ofNat 1, .ofNat 2), (5, .ofNat 1, .ofNat 4), (6, .ofNat 1, .ofNat 0)), (2, 4, (3, .ofNat 1, .ofNat 0), (2, .ofNat 1, .ofNat 0), (0, .ofNat 0, .ofNat 0)), (2, 1, (2, .ofNat 1, .ofNat 0), (3, .ofNat 1, .ofNat 0), (0, .ofNat 0, .ofNat 0)), (2, 0, (4, .ofNat 1, .ofNat 0), (0, .ofNat 0, .ofNat 0), (0, .ofNat 0, .ofNat 0))], [(1, [(.ofNat 0, .ofNat 9)]), (2, [(.negSucc 8, .ofNat 8)]), (3, [(.negSucc 7, .ofNat 9)]), (4, [(.ofNat 0, .ofNat 0)]), (5, [(.negSucc 8, .ofNat 17)]), (6, [(.negSucc 146, .ofNat 399)])], [((1, .ofNat 1, .ofNat 0), (2, .ofNat 1, .ofNat 0), (5, .ofNat 1, .ofNat 0))], []),
  (0, [], [.inl (false, (7, .ofNat 1, .ofNat 0))], [(3, 0, (2, .ofNat 1, .ofNat 0), (2, .ofNat 1, .ofNat 0), (6, .ofNat 1, .ofNat 0)), (3, 0, (1, .ofNat 1, .ofNat 2), (1, .ofNat 1, .ofNat 2), (5, .ofNat 1, .ofNat 0)), (2, 0, (2, .ofNat 1, .ofNat 0), (3, .ofNat 1, .ofNat 0), (0, .ofNat 0, .ofNat 0)), (2, 0, (4, .ofNat 1, .ofNat 0), (0, .ofNat 0, .ofNat 0), (0, .ofNat 0, .ofNat 0))], [(1, [(.ofNat 0, .ofNat 9)]), (2, [(.negSucc 8, .ofNat 9)]), (3, [(.negSucc 8, .ofNat 9)]), (4, [(.ofNat 0, .ofNat 0)]), (5, [(.ofNat 4, .ofNat 121)]), (6, [(.negSucc 80, .ofNat 81)]), (7, [(.negSucc 76, .ofNat 202)])], [((5, .ofNat 1, .ofNat 0), (6, .negSucc 0, .ofNat 0), (7, .ofNat 1, .ofNat 0))], []),
  (0, [], [.inl (false, (8, .ofNat 1, .ofNat 0))], [(3, 1, (7, .ofNat 1, .ofNat 0), (0, .ofNat 0, .ofNat 2), (8, .ofNat 1, .ofNat 0)), (3, 0, (5, .ofNat 1, .ofNat 0), (6, .ofNat 1, .ofNat 2), (7, .ofNat 1, .ofNat 0)), (2, 5, (3, .ofNat 1, .ofNat 0), (2, .ofNat 1, .ofNat 0), (0, .ofNat 0, .ofNat 0)), (2, 1, (2, .ofNat 1, .ofNat 0), (3, .ofNat 1, .ofNat 0), (0, .ofNat 0, .ofNat 0)), (2, 1, (4, .ofNat 1, .ofNat 0), (0, .ofNat 0, .ofNat 0), (0, .ofNat 0, .ofNat 0))], [(1, [(.ofNat 0, .ofNat 9)]), (2, [(.negSucc 8, .ofNat 9)]), (3, [(.negSucc 8, .ofNat 9)]), (4, [(.ofNat 1, .ofNat 1)]), (5, [(.negSucc 8, .ofNat 18)]), (6, [(.negSucc 8, .ofNat 18)]), (7, [(.negSucc 179, .ofNat 360)])], [((1, .ofNat 1, .ofNat 0), (2, .negSucc 0, .ofNat 0), (6, .ofNat 1, .ofNat 0)), ((1, .ofNat 1, .ofNat 0), (2, .ofNat 1, .ofNat 0), (5, .ofNat 1, .ofNat 0))], []),
  (0, [], [.inl (false, (8, .ofNat 1, .ofNat 0))], [(3, 1, (7, .ofNat 1, .ofNat 0), (0, .ofNat 0, .ofNat 2), (8, .ofNat 1, .ofNat 0)), (3, 0, (5, .ofNat 1, .ofNat 0), (6, .ofNat 1, .ofNat 2), (7, .ofNat 1, .ofNat 0)), (2, 4, (3, .ofNat 1, .ofNat 0), (2, .ofNat 1, .ofNat 0), (0, .ofNat 0, .ofNat 0)), (2, 1, (2, .ofNat 1, .ofNat 0), (3, .ofNat 1, .ofNat 0), (0, .ofNat 0, .ofNat 0)), (2, 1, (4, .ofNat 1, .ofNat 0), (0, .ofNat 0, .ofNat 0), (0, .ofNat 0, .ofNat 0))], [(1, [(.ofNat 0, .ofNat 9)]), (2, [(.negSucc 8, .ofNat 8)]), (3, [(.negSucc 7, .ofNat 9)]), (4, [(.ofNat 1, .ofNat 1)]), (5, [(.negSucc 7, .ofNat 18)]), (6, [(.negSucc 8, .ofNat 17)]), (7, [(.negSucc 151, .ofNat 342)])], [((1, .ofNat 1, .ofNat 0), (2, .ofNat 1, .ofNat 0), (6, .ofNat 1, .ofNat 0)), ((1, .ofNat 1, .ofNat 0), (2, .negSucc 0, .ofNat 0), (5, .ofNat 1, .ofNat 0))], []),
  (0, [], [.inl (false, (5, .ofNat 1, .ofNat 0))], [(3, 0, (2, .ofNat 1, .ofNat 0), (2, .ofNat 1, .ofNat 0), (5, .ofNat 1, .ofNat 0)), (2, 0, (2, .ofNat 1, .ofNat 0), (3, .ofNat 1, .ofNat 0), (0, .ofNat 0, .ofNat 0)), (2, 1, (4, .ofNat 1, .ofNat 0), (0, .ofNat 0, .ofNat 0), (0, .ofNat 0, .ofNat 0))], [(1, [(.ofNat 0, .ofNat 9)]), (2, [(.negSucc 8, .ofNat 9)]), (3, [(.negSucc 8, .ofNat 9)]), (4, [(.ofNat 1, .ofNat 1)]), (5, [(.negSucc 80, .ofNat 81)])], [], [])]
set_option maxRecDepth 1000000 in
theorem sg_sf_x_g : sg_go [] [] 3000 6 0 0 5 [(0, [(.ofNat 0, .ofNat 0)]), (1, [(.ofNat 0, .ofNat 9)]), (2, [(.negSucc 8, .ofNat 9)]), (3, [(.negSucc 8, .ofNat 9)]), (4, [(.ofNat 0, .ofNat 1)])] [] [] [] [(0, .inl (false, (1, .ofNat 1, .ofNat 0))), (1, .inl (false, (2, .ofNat 1, .ofNat 0))), (2, .inl (false, (3, .ofNat 1, .ofNat 0))), (3, .inl (false, (4, .ofNat 1, .ofNat 0)))] [] [] sg_sf_x_Z = true := by decide +kernel
set_option maxRecDepth 100000 in
theorem sg_sf_x {Q : Option Value × am_S → Prop} {d : Nat} {S : am_S} {L : am_L} {x1 x2 x3 x4 : Int} (hd : 0 ≤ d) (hP : ax_P0 none S) (l0 : li L 0 x1) (l1 : li L 1 x2) (l2 : li L 2 x3) (l3 : li L 3 x4) (b1 : (0 ≤ x1 ∧ x1 ≤ 9)) (b2 : ((-9) ≤ x2 ∧ x2 ≤ 9)) (b3 : ((-9) ≤ x3 ∧ x3 ≤ 9)) (b4 : (0 ≤ x4 ∧ x4 ≤ 1))
    (k0 : ∀ (x5 x6 x7 : Int) (i1 : Int32), x4 = 0 → x2 ≠ x3 → x3 ≤ x2 → (∃ a b : Int32, a.toInt = x5 + 2 ∧ b.toInt = x5 + 4 ∧ (a * b).toInt = x6) → (∃ a b : Int32, a.toInt = x6 ∧ b.toInt = 2 ∧ (a / b).toInt = x7) → (0 ≤ x1 ∧ x1 ≤ 9) → ((-9) ≤ x2 ∧ x2 ≤ 9) → ((-9) ≤ x3 ∧ x3 ≤ 9) → (0 ≤ x4 ∧ x4 ≤ 0) → ((-9) ≤ x5 ∧ x5 ≤ 18) → ((-154) ≤ x6 ∧ x6 ≤ 440) → x1 + ((-1) * x2 + 0) = x5 → i1.toInt = x7 → Q (some (.int i1), S))
    (k1 : ∀ (x5 x6 x7 : Int) (i1 : Int32), x4 = 0 → x2 ≠ x3 → x2 < x3 → (∃ a b : Int32, a.toInt = x5 + 2 ∧ b.toInt = x5 + 4 ∧ (a * b).toInt = x6) → (∃ a b : Int32, a.toInt = x6 ∧ b.toInt = 2 ∧ (a / b).toInt = x7) → (0 ≤ x1 ∧ x1 ≤ 9) → ((-9) ≤ x2 ∧ x2 ≤ 8) → ((-8) ≤ x3 ∧ x3 ≤ 9) → (0 ≤ x4 ∧ x4 ≤ 0) → ((-9) ≤ x5 ∧ x5 ≤ 17) → ((-147) ≤ x6 ∧ x6 ≤ 399) → x1 + x2 = x5 → i1.toInt = x7 → Q (some (.int i1), S))
    (k2 : ∀ (x5 x6 x7 : Int) (i1 : Int32), x4 = 0 → x2 = x3 → (∃ a b : Int32, a.toInt = x1 + 2 ∧ b.toInt = x1 + 2 ∧ (a * b).toInt = x5) → (∃ a b : Int32, a.toInt = x2 ∧ b.toInt = x2 ∧ (a * b).toInt = x6) → (0 ≤ x1 ∧ x1 ≤ 9) → ((-9) ≤ x2 ∧ x2 ≤ 9) → ((-9) ≤ x3 ∧ x3 ≤ 9) → (0 ≤ x4 ∧ x4 ≤ 0) → (4 ≤ x5 ∧ x5 ≤ 121) → ((-81) ≤ x6 ∧ x6 ≤ 81) → ((-77) ≤ x7 ∧ x7 ≤ 202) → x5 + ((-1) * x6 + 0) = x7 → i1.toInt = x7 → Q (some (.int i1), S))
    (k3 : ∀ (x5 x6 x7 x8 : Int) (i1 : Int32), x4 ≠ 0 → x2 ≠ x3 → x3 ≤ x2 → (∃ a b : Int32, a.toInt = x5 ∧ b.toInt = x6 + 2 ∧ (a * b).toInt = x7) → (∃ a b : Int32, a.toInt = x7 ∧ b.toInt = 2 ∧ (a / b).toInt = x8) → (0 ≤ x1 ∧ x1 ≤ 9) → ((-9) ≤ x2 ∧ x2 ≤ 9) → ((-9) ≤ x3 ∧ x3 ≤ 9) → (1 ≤ x4 ∧ x4 ≤ 1) → ((-9) ≤ x5 ∧ x5 ≤ 18) → ((-9) ≤ x6 ∧ x6 ≤ 18) → ((-180) ≤ x7 ∧ x7 ≤ 360) → x1 + ((-1) * x2 + 0) = x6 → x1 + x2 = x5 → i1.toInt = x8 → Q (some (.int i1), S))
    (k4 : ∀ (x5 x6 x7 x8 : Int) (i1 : Int32), x4 ≠ 0 → x2 ≠ x3 → x2 < x3 → (∃ a b : Int32, a.toInt = x5 ∧ b.toInt = x6 + 2 ∧ (a * b).toInt = x7) → (∃ a b : Int32, a.toInt = x7 ∧ b.toInt = 2 ∧ (a / b).toInt = x8) → (0 ≤ x1 ∧ x1 ≤ 9) → ((-9) ≤ x2 ∧ x2 ≤ 8) → ((-8) ≤ x3 ∧ x3 ≤ 9) → (1 ≤ x4 ∧ x4 ≤ 1) → ((-8) ≤ x5 ∧ x5 ≤ 18) → ((-9) ≤ x6 ∧ x6 ≤ 17) → ((-152) ≤ x7 ∧ x7 ≤ 342) → x1 + x2 = x6 → x1 + ((-1) * x2 + 0) = x5 → i1.toInt = x8 → Q (some (.int i1), S))
    (k5 : ∀ (x5 : Int) (i1 : Int32), x4 ≠ 0 → x2 = x3 → (∃ a b : Int32, a.toInt = x2 ∧ b.toInt = x2 ∧ (a * b).toInt = x5) → (0 ≤ x1 ∧ x1 ≤ 9) → ((-9) ≤ x2 ∧ x2 ≤ 9) → ((-9) ≤ x3 ∧ x3 ≤ 9) → (1 ≤ x4 ∧ x4 ≤ 1) → ((-81) ≤ x5 ∧ x5 ≤ 81) → i1.toInt = x5 → Q (some (.int i1), S)) : am_V none d 6 0 L ([]) S Q := by
  refine sg_use sg_sf_x_g hd hP (sg_xs [0, x1, x2, x3, x4]) ⟨⟨Int.le_refl 0, Int.le_refl 0⟩, b1, b2, b3, b4, trivial⟩ trivial trivial trivial ⟨l0, l1, l2, l3, trivial⟩ trivial ?_
  intro z hz x' L' st' S' hx hP' hW hL' hs' hJ hE' hT' hD'
  have q1 : x' 1 = x1 := hx 1 (by decide)
  subst q1
  have q2 : x' 2 = x2 := hx 2 (by decide)
  subst q2
  have q3 : x' 3 = x3 := hx 3 (by decide)
  subst q3
  have q4 : x' 4 = x4 := hx 4 (by decide)
  subst q4
  have eS : S' = S := hW.1 rfl
  subst eS
  simp only [sg_sf_x_Z, List.mem_cons, List.not_mem_nil, or_false] at hz
  rcases hz with rfl | rfl | rfl | rfl | rfl | rfl
  · obtain ⟨f0, f1, f2, f3, f4, hσ⟩ := hJ
    obtain ⟨e0, e1, e2, e3, e4, e5, -⟩ := hE'
    obtain ⟨t0, -⟩ := hT'
    intro v hv
    subst hv
    cases v with
    | none => exact hs'.elim
    | some v1 =>
      obtain ⟨⟨i1, rfl, g1⟩, -⟩ := hs'
      exact k0 (x' 5) (x' 6) (x' 7) i1 f0 f1 f2 f3 f4 e0 e1 e2 e3 e4 e5 t0 g1
  · obtain ⟨f0, f1, f2, f3, f4, hσ⟩ := hJ
    obtain ⟨e0, e1, e2, e3, e4, e5, -⟩ := hE'
    obtain ⟨t0, -⟩ := hT'
    intro v hv
    subst hv
    cases v with
    | none => exact hs'.elim
    | some v1 =>
      obtain ⟨⟨i1, rfl, g1⟩, -⟩ := hs'
      exact k1 (x' 5) (x' 6) (x' 7) i1 f0 f1 f2 f3 f4 e0 e1 e2 e3 e4 e5 t0 g1
  · obtain ⟨f0, f1, f2, f3, hσ⟩ := hJ
    obtain ⟨e0, e1, e2, e3, e4, e5, e6, -⟩ := hE'
    obtain ⟨t0, -⟩ := hT'
    intro v hv
    subst hv
    cases v with
    | none => exact hs'.elim
    | some v1 =>
      obtain ⟨⟨i1, rfl, g1⟩, -⟩ := hs'
      exact k2 (x' 5) (x' 6) (x' 7) i1 f0 f1 f2 f3 e0 e1 e2 e3 e4 e5 e6 t0 g1
  · obtain ⟨f0, f1, f2, f3, f4, hσ⟩ := hJ
    obtain ⟨e0, e1, e2, e3, e4, e5, e6, -⟩ := hE'
    obtain ⟨t0, t1, -⟩ := hT'
    intro v hv
    subst hv
    cases v with
    | none => exact hs'.elim
    | some v1 =>
      obtain ⟨⟨i1, rfl, g1⟩, -⟩ := hs'
      exact k3 (x' 5) (x' 6) (x' 7) (x' 8) i1 f0 f1 f2 f3 f4 e0 e1 e2 e3 e4 e5 e6 t0 t1 g1
  · obtain ⟨f0, f1, f2, f3, f4, hσ⟩ := hJ
    obtain ⟨e0, e1, e2, e3, e4, e5, e6, -⟩ := hE'
    obtain ⟨t0, t1, -⟩ := hT'
    intro v hv
    subst hv
    cases v with
    | none => exact hs'.elim
    | some v1 =>
      obtain ⟨⟨i1, rfl, g1⟩, -⟩ := hs'
      exact k4 (x' 5) (x' 6) (x' 7) (x' 8) i1 f0 f1 f2 f3 f4 e0 e1 e2 e3 e4 e5 e6 t0 t1 g1
  · obtain ⟨f0, f1, f2, hσ⟩ := hJ
    obtain ⟨e0, e1, e2, e3, e4, -⟩ := hE'
    intro v hv
    subst hv
    cases v with
    | none => exact hs'.elim
    | some v1 =>
      obtain ⟨⟨i1, rfl, g1⟩, -⟩ := hs'
      exact k5 (x' 5) i1 f0 f1 f2 e0 e1 e2 e3 e4 g1
def sg_mg_a_Z : List sg_z := [(9, [(0, .inr (.inl [64])), (1, .inl (false, (1, .ofNat 1, .ofNat 0))), (2, .inl (false, (2, .ofNat 1, .ofNat 0))), (3, .inl (false, (3, .ofNat 1, .ofNat 0))), (4, .inl (false, (0, .ofNat 0, .ofNat 0)))], [], [(2, 1, (3, .ofNat 1, .ofNat 0), (0, .ofNat 0, .ofNat 0), (0, .ofNat 0, .ofNat 0))], [(2, [(.ofNat 0, .ofNat 1)]), (3, [(.negSucc 2147483647, .negSucc 0), (.ofNat 1, .ofNat 2147483647)])], [], []),
  (0, [], [], [(2, 0, (3, .ofNat 1, .ofNat 0), (0, .ofNat 0, .ofNat 0), (0, .ofNat 0, .ofNat 0))], [(2, [(.ofNat 0, .ofNat 1)]), (3, [(.ofNat 0, .ofNat 0)])], [], [])]
set_option maxRecDepth 1000000 in
theorem sg_mg_a_g : sg_go [] [8] 3000 7 0 0 4 [(0, [(.ofNat 0, .ofNat 0)]), (1, [(.negSucc 2147483647, .ofNat 2147483647)]), (2, [(.ofNat 0, .ofNat 1)]), (3, [(.negSucc 2147483647, .ofNat 2147483647)])] [] [] [] [(0, .inr (.inl [64])), (1, .inl (false, (1, .ofNat 1, .ofNat 0))), (2, .inl (false, (2, .ofNat 1, .ofNat 0))), (3, .inl (false, (3, .ofNat 1, .ofNat 0)))] [] [] sg_mg_a_Z = true := by decide +kernel
set_option maxRecDepth 100000 in
theorem sg_mg_a {Q : Option Value × am_S → Prop} {d : Nat} {S : am_S} {L : am_L} {x1 x2 x3 : Int} (hd : 0 ≤ d) (hP : ax_P0 none S) (l0 : lc L 0 64) (l1 : li L 1 x1) (l2 : li L 2 x2) (l3 : li L 3 x3) (b1 : ((-2147483648) ≤ x1 ∧ x1 ≤ 2147483647)) (b2 : (0 ≤ x2 ∧ x2 ≤ 1)) (b3 : ((-2147483648) ≤ x3 ∧ x3 ≤ 2147483647))
    (k0 : ∀ (L' : am_L), x3 ≠ 0 → (0 ≤ x2 ∧ x2 ≤ 1) → ((-2147483648) ≤ x3 ∧ x3 ≤ (-1)) ∨ (1 ≤ x3 ∧ x3 ≤ 2147483647) → lc L' 0 64 → li L' 1 x1 → li L' 2 x2 → li L' 3 x3 → li L' 4 0 → am_V none d 7 8 L' ([]) S Q)
    (k1 : x3 = 0 → (0 ≤ x2 ∧ x2 ≤ 1) → (0 ≤ x3 ∧ x3 ≤ 0) → Q (none, S)) : am_V none d 7 0 L ([]) S Q := by
  refine sg_use sg_mg_a_g hd hP (sg_xs [0, x1, x2, x3]) ⟨⟨Int.le_refl 0, Int.le_refl 0⟩, b1, b2, b3, trivial⟩ trivial trivial trivial ⟨l0, l1, l2, l3, trivial⟩ trivial ?_
  intro z hz x' L' st' S' hx hP' hW hL' hs' hJ hE' hT' hD'
  have q1 : x' 1 = x1 := hx 1 (by decide)
  subst q1
  have q2 : x' 2 = x2 := hx 2 (by decide)
  subst q2
  have q3 : x' 3 = x3 := hx 3 (by decide)
  subst q3
  have eS : S' = S := hW.1 rfl
  subst eS
  simp only [sg_mg_a_Z, List.mem_cons, List.not_mem_nil, or_false] at hz
  rcases hz with rfl | rfl
  · obtain ⟨f0, hσ⟩ := hJ
    obtain ⟨e0, e1, -⟩ := hE'
    obtain ⟨p0, p1, p2, p3, p4, -⟩ := hL'
    obtain rfl := sg_tn hs'
    exact k0 L' f0 e0 e1 p0 p1 p2 p3 p4
  · obtain ⟨f0, hσ⟩ := hJ
    obtain ⟨e0, e1, -⟩ := hE'
    intro v hv
    subst hv
    cases v with
    | some _ => exact hs'.elim
    | none =>
      exact k1 f0 e0 e1
def sg_mg_b_Z : List sg_z := [(35, [(0, .inr (.inl [64])), (1, .inl (false, (1, .ofNat 1, .ofNat 0))), (2, .inl (false, (2, .ofNat 1, .ofNat 0))), (3, .inl (false, (3, .ofNat 1, .ofNat 0))), (4, .inl (false, (4, .ofNat 1, .ofNat 0)))], [], [(2, 3, (4, .ofNat 1, .ofNat 0), (5, .ofNat 1, .ofNat 0), (0, .ofNat 0, .ofNat 0)), (0, 64, (0, .ofNat 0, .ofNat 0), (5, .ofNat 1, .ofNat 0), (0, .ofNat 0, .ofNat 0))], [(2, [(.ofNat 0, .ofNat 1)]), (4, [(.ofNat 0, .ofNat 30)]), (5, [(.ofNat 0, .ofNat 30)])], [], []),
  (9, [(0, .inr (.inl [64])), (1, .inl (false, (1, .ofNat 1, .ofNat 0))), (2, .inl (false, (2, .ofNat 1, .ofNat 0))), (3, .inl (false, (3, .ofNat 1, .ofNat 0))), (4, .inl (false, (4, .ofNat 1, .ofNat 1)))], [], [(2, 1, (0, .ofNat 0, .ofNat 1), (0, .ofNat 0, .ofNat 0), (0, .ofNat 0, .ofNat 0)), (2, 2, (6, .ofNat 1, .ofNat 0), (1, .ofNat 1, .ofNat 0), (0, .ofNat 0, .ofNat 0)), (0, 65, (4, .ofNat 1, .ofNat 0), (6, .ofNat 1, .ofNat 0), (0, .ofNat 0, .ofNat 0)), (2, 2, (4, .ofNat 1, .ofNat 0), (5, .ofNat 1, .ofNat 0), (0, .ofNat 0, .ofNat 0)), (0, 64, (0, .ofNat 0, .ofNat 0), (5, .ofNat 1, .ofNat 0), (0, .ofNat 0, .ofNat 0))], [(1, [(.negSucc 2147483646, .ofNat 2147483647)]), (2, [(.ofNat 0, .ofNat 1)]), (4, [(.ofNat 0, .ofNat 29)]), (5, [(.ofNat 1, .ofNat 30)]), (6, [(.negSucc 2147483647, .ofNat 2147483646)])], [], []),
  (35, [(0, .inr (.inl [64])), (1, .inl (false, (1, .ofNat 1, .ofNat 0))), (2, .inl (false, (2, .ofNat 1, .ofNat 0))), (3, .inl (false, (3, .ofNat 1, .ofNat 0))), (4, .inl (false, (4, .ofNat 1, .ofNat 0)))], [], [(2, 0, (0, .ofNat 0, .ofNat 0), (0, .ofNat 0, .ofNat 0), (0, .ofNat 0, .ofNat 0)), (2, 1, (6, .ofNat 1, .ofNat 0), (1, .ofNat 1, .ofNat 0), (0, .ofNat 0, .ofNat 0)), (0, 65, (4, .ofNat 1, .ofNat 0), (6, .ofNat 1, .ofNat 0), (0, .ofNat 0, .ofNat 0)), (2, 3, (6, .ofNat 1, .ofNat 0), (1, .ofNat 1, .ofNat 0), (0, .ofNat 0, .ofNat 0)), (0, 65, (4, .ofNat 1, .ofNat 0), (6, .ofNat 1, .ofNat 0), (0, .ofNat 0, .ofNat 0)), (2, 2, (4, .ofNat 1, .ofNat 0), (5, .ofNat 1, .ofNat 0), (0, .ofNat 0, .ofNat 0)), (0, 64, (0, .ofNat 0, .ofNat 0), (5, .ofNat 1, .ofNat 0), (0, .ofNat 0, .ofNat 0))], [(2, [(.ofNat 0, .ofNat 1)]), (4, [(.ofNat 0, .ofNat 29)]), (5, [(.ofNat 1, .ofNat 30)])], [], []),
  (35, [(0, .inr (.inl [64])), (1, .inl (false, (1, .ofNat 1, .ofNat 0))), (2, .inl (false, (2, .ofNat 1, .ofNat 0))), (3, .inl (false, (3, .ofNat 1, .ofNat 0))), (4, .inl (false, (4, .ofNat 1, .ofNat 0)))], [], [(2, 0, (0, .ofNat 0, .ofNat 0), (0, .ofNat 0, .ofNat 0), (0, .ofNat 0, .ofNat 0)), (2, 5, (7, .ofNat 1, .ofNat 0), (2, .ofNat 1, .ofNat 0), (0, .ofNat 0, .ofNat 0)), (0, 66, (4, .ofNat 1, .ofNat 0), (7, .ofNat 1, .ofNat 0), (0, .ofNat 0, .ofNat 0)), (2, 0, (6, .ofNat 1, .ofNat 0), (1, .ofNat 1, .ofNat 0), (0, .ofNat 0, .ofNat 0)), (0, 65, (4, .ofNat 1, .ofNat 0), (6, .ofNat 1, .ofNat 0), (0, .ofNat 0, .ofNat 0)), (2, 3, (6, .ofNat 1, .ofNat 0), (1, .ofNat 1, .ofNat 0), (0, .ofNat 0, .ofNat 0)), (0, 65, (4, .ofNat 1, .ofNat 0), (6, .ofNat 1, .ofNat 0), (0, .ofNat 0, .ofNat 0)), (2, 2, (4, .ofNat 1, .ofNat 0), (5, .ofNat 1, .ofNat 0), (0, .ofNat 0, .ofNat 0)), (0, 64, (0, .ofNat 0, .ofNat 0), (5, .ofNat 1, .ofNat 0), (0, .ofNat 0, .ofNat 0))], [(2, [(.ofNat 0, .ofNat 1)]), (4, [(.ofNat 0, .ofNat 29)]), (5, [(.ofNat 1, .ofNat 30)]), (7, [(.ofNat 0, .ofNat 1)])], [], []),
  (9, [(0, .inr (.inl [64])), (1, .inl (false, (1, .ofNat 1, .ofNat 0))), (2, .inl (false, (0, .ofNat 0, .ofNat 0))), (3, .inl (false, (3, .ofNat 1, .ofNat 0))), (4, .inl (false, (4, .ofNat 1, .ofNat 1)))], [], [(2, 1, (0, .ofNat 0, .ofNat 1), (0, .ofNat 0, .ofNat 0), (0, .ofNat 0, .ofNat 0)), (2, 4, (7, .ofNat 1, .ofNat 0), (2, .ofNat 1, .ofNat 0), (0, .ofNat 0, .ofNat 0)), (0, 66, (4, .ofNat 1, .ofNat 0), (7, .ofNat 1, .ofNat 0), (0, .ofNat 0, .ofNat 0)), (2, 0, (6, .ofNat 1, .ofNat 0), (1, .ofNat 1, .ofNat 0), (0, .ofNat 0, .ofNat 0)), (0, 65, (4, .ofNat 1, .ofNat 0), (6, .ofNat 1, .ofNat 0), (0, .ofNat 0, .ofNat 0)), (2, 3, (6, .ofNat 1, .ofNat 0), (1, .ofNat 1, .ofNat 0), (0, .ofNat 0, .ofNat 0)), (0, 65, (4, .ofNat 1, .ofNat 0), (6, .ofNat 1, .ofNat 0), (0, .ofNat 0, .ofNat 0)), (2, 2, (4, .ofNat 1, .ofNat 0), (5, .ofNat 1, .ofNat 0), (0, .ofNat 0, .ofNat 0)), (0, 64, (0, .ofNat 0, .ofNat 0), (5, .ofNat 1, .ofNat 0), (0, .ofNat 0, .ofNat 0))], [(2, [(.ofNat 0, .ofNat 0)]), (4, [(.ofNat 0, .ofNat 29)]), (5, [(.ofNat 1, .ofNat 30)]), (7, [(.ofNat 1, .ofNat 1)])], [], [])]
set_option maxRecDepth 1000000 in
theorem sg_mg_b_g : sg_go [] [8, 34] 3000 7 8 1 5 [(0, [(.ofNat 0, .ofNat 0)]), (1, [(.negSucc 2147483647, .ofNat 2147483647)]), (2, [(.ofNat 0, .ofNat 1)]), (3, [(.negSucc 2147483647, .ofNat 2147483647)]), (4, [(.ofNat 0, .ofNat 30)])] [] [] [] [(0, .inr (.inl [64])), (1, .inl (false, (1, .ofNat 1, .ofNat 0))), (2, .inl (false, (2, .ofNat 1, .ofNat 0))), (3, .inl (false, (3, .ofNat 1, .ofNat 0))), (4, .inl (false, (4, .ofNat 1, .ofNat 0)))] [] [] sg_mg_b_Z = true := by decide +kernel
set_option maxRecDepth 100000 in
theorem sg_mg_b {Q : Option Value × am_S → Prop} {d : Nat} {S : am_S} {L : am_L} {x1 x2 x3 x4 : Int} (hd : 1 ≤ d) (hP : ax_P0 none S) (l0 : lc L 0 64) (l1 : li L 1 x1) (l2 : li L 2 x2) (l3 : li L 3 x3) (l4 : li L 4 x4) (b1 : ((-2147483648) ≤ x1 ∧ x1 ≤ 2147483647)) (b2 : (0 ≤ x2 ∧ x2 ≤ 1)) (b3 : ((-2147483648) ≤ x3 ∧ x3 ≤ 2147483647)) (b4 : (0 ≤ x4 ∧ x4 ≤ 30))
    (k0 : ∀ (x5 : Int) (L' : am_L), rd S 64 0 = x5 → x5 ≤ x4 → (0 ≤ x2 ∧ x2 ≤ 1) → (0 ≤ x4 ∧ x4 ≤ 30) → (0 ≤ x5 ∧ x5 ≤ 30) → lc L' 0 64 → li L' 1 x1 → li L' 2 x2 → li L' 3 x3 → li L' 4 x4 → am_V none d 7 34 L' ([]) S Q)
    (k1 : ∀ (x5 x6 : Int) (L' : am_L), rd S 64 0 = x5 → x4 < x5 → rd S 65 x4 = x6 → x6 < x1 → ((-2147483647) ≤ x1 ∧ x1 ≤ 2147483647) → (0 ≤ x2 ∧ x2 ≤ 1) → (0 ≤ x4 ∧ x4 ≤ 29) → (1 ≤ x5 ∧ x5 ≤ 30) → ((-2147483648) ≤ x6 ∧ x6 ≤ 2147483646) → lc L' 0 64 → li L' 1 x1 → li L' 2 x2 → li L' 3 x3 → li L' 4 (x4 + 1) → am_V none d 7 8 L' ([]) S Q)
    (k2 : ∀ (x5 x6 : Int) (L' : am_L), rd S 64 0 = x5 → x4 < x5 → rd S 65 x4 = x6 → x1 ≤ x6 → x6 ≠ x1 → (0 ≤ x2 ∧ x2 ≤ 1) → (0 ≤ x4 ∧ x4 ≤ 29) → (1 ≤ x5 ∧ x5 ≤ 30) → lc L' 0 64 → li L' 1 x1 → li L' 2 x2 → li L' 3 x3 → li L' 4 x4 → am_V none d 7 34 L' ([]) S Q)
    (k3 : ∀ (x5 x6 x7 : Int) (L' : am_L), rd S 64 0 = x5 → x4 < x5 → rd S 65 x4 = x6 → x1 ≤ x6 → x6 = x1 → rd S 66 x4 = x7 → x7 ≤ x2 → (0 ≤ x2 ∧ x2 ≤ 1) → (0 ≤ x4 ∧ x4 ≤ 29) → (1 ≤ x5 ∧ x5 ≤ 30) → (0 ≤ x7 ∧ x7 ≤ 1) → lc L' 0 64 → li L' 1 x1 → li L' 2 x2 → li L' 3 x3 → li L' 4 x4 → am_V none d 7 34 L' ([]) S Q)
    (k4 : ∀ (x5 x6 x7 : Int) (L' : am_L), rd S 64 0 = x5 → x4 < x5 → rd S 65 x4 = x6 → x1 ≤ x6 → x6 = x1 → rd S 66 x4 = x7 → x2 < x7 → (0 ≤ x2 ∧ x2 ≤ 0) → (0 ≤ x4 ∧ x4 ≤ 29) → (1 ≤ x5 ∧ x5 ≤ 30) → (1 ≤ x7 ∧ x7 ≤ 1) → lc L' 0 64 → li L' 1 x1 → li L' 2 0 → li L' 3 x3 → li L' 4 (x4 + 1) → am_V none d 7 8 L' ([]) S Q) : am_V none d 7 8 L ([]) S Q := by
  refine sg_use sg_mg_b_g hd hP (sg_xs [0, x1, x2, x3, x4]) ⟨⟨Int.le_refl 0, Int.le_refl 0⟩, b1, b2, b3, b4, trivial⟩ trivial trivial trivial ⟨l0, l1, l2, l3, l4, trivial⟩ trivial ?_
  intro z hz x' L' st' S' hx hP' hW hL' hs' hJ hE' hT' hD'
  have q1 : x' 1 = x1 := hx 1 (by decide)
  subst q1
  have q2 : x' 2 = x2 := hx 2 (by decide)
  subst q2
  have q3 : x' 3 = x3 := hx 3 (by decide)
  subst q3
  have q4 : x' 4 = x4 := hx 4 (by decide)
  subst q4
  have eS : S' = S := hW.1 rfl
  subst eS
  simp only [sg_mg_b_Z, List.mem_cons, List.not_mem_nil, or_false] at hz
  rcases hz with rfl | rfl | rfl | rfl | rfl
  · obtain ⟨f0, f1, hσ⟩ := hJ
    obtain ⟨e0, e1, e2, -⟩ := hE'
    obtain ⟨p0, p1, p2, p3, p4, -⟩ := hL'
    obtain rfl := sg_tn hs'
    exact k0 (x' 5) L' f0 f1 e0 e1 e2 p0 p1 p2 p3 p4
  · obtain ⟨f0, f1, f2, f3, -, hσ⟩ := hJ
    obtain ⟨e0, e1, e2, e3, e4, -⟩ := hE'
    obtain ⟨p0, p1, p2, p3, p4, -⟩ := hL'
    obtain rfl := sg_tn hs'
    exact k1 (x' 5) (x' 6) L' f0 f1 f2 f3 e0 e1 e2 e3 e4 p0 p1 p2 p3 p4
  · obtain ⟨f0, f1, f2, f3, -, f5, -, hσ⟩ := hJ
    obtain ⟨e0, e1, e2, -⟩ := hE'
    obtain ⟨p0, p1, p2, p3, p4, -⟩ := hL'
    obtain rfl := sg_tn hs'
    exact k2 (x' 5) (x' 6) L' f0 f1 f2 f3 f5 e0 e1 e2 p0 p1 p2 p3 p4
  · obtain ⟨f0, f1, f2, f3, -, f5, f6, f7, -, hσ⟩ := hJ
    obtain ⟨e0, e1, e2, e3, -⟩ := hE'
    obtain ⟨p0, p1, p2, p3, p4, -⟩ := hL'
    obtain rfl := sg_tn hs'
    exact k3 (x' 5) (x' 6) (x' 7) L' f0 f1 f2 f3 f5 f6 f7 e0 e1 e2 e3 p0 p1 p2 p3 p4
  · obtain ⟨f0, f1, f2, f3, -, f5, f6, f7, -, hσ⟩ := hJ
    obtain ⟨e0, e1, e2, e3, -⟩ := hE'
    obtain ⟨p0, p1, p2, p3, p4, -⟩ := hL'
    obtain rfl := sg_tn hs'
    exact k4 (x' 5) (x' 6) (x' 7) L' f0 f1 f2 f3 f5 f6 f7 e0 e1 e2 e3 p0 p1 p2 p3 p4
def sg_mg_c_Z : List sg_z := [(94, [(0, .inr (.inl [64])), (1, .inl (false, (1, .ofNat 1, .ofNat 0))), (2, .inl (false, (2, .ofNat 1, .ofNat 0))), (3, .inl (false, (3, .ofNat 1, .ofNat 0))), (4, .inl (false, (4, .ofNat 1, .ofNat 0))), (5, .inl (false, (5, .ofNat 1, .ofNat 0)))], [], [(0, 64, (0, .ofNat 0, .ofNat 0), (5, .ofNat 1, .ofNat 0), (0, .ofNat 0, .ofNat 0)), (2, 2, (5, .ofNat 1, .ofNat 0), (0, .ofNat 0, .ofNat 30), (0, .ofNat 0, .ofNat 0)), (0, 64, (0, .ofNat 0, .ofNat 0), (5, .ofNat 1, .ofNat 0), (0, .ofNat 0, .ofNat 0)), (2, 3, (4, .ofNat 1, .ofNat 0), (5, .ofNat 1, .ofNat 0), (0, .ofNat 0, .ofNat 0)), (0, 64, (0, .ofNat 0, .ofNat 0), (5, .ofNat 1, .ofNat 0), (0, .ofNat 0, .ofNat 0))], [(2, [(.ofNat 0, .ofNat 1)]), (4, [(.ofNat 0, .ofNat 30)]), (5, [(.ofNat 0, .ofNat 29)])], [], []),
  (0, [], [], [(2, 3, (5, .ofNat 1, .ofNat 0), (0, .ofNat 0, .ofNat 30), (0, .ofNat 0, .ofNat 0)), (0, 64, (0, .ofNat 0, .ofNat 0), (5, .ofNat 1, .ofNat 0), (0, .ofNat 0, .ofNat 0)), (2, 3, (4, .ofNat 1, .ofNat 0), (5, .ofNat 1, .ofNat 0), (0, .ofNat 0, .ofNat 0)), (0, 64, (0, .ofNat 0, .ofNat 0), (5, .ofNat 1, .ofNat 0), (0, .ofNat 0, .ofNat 0))], [(2, [(.ofNat 0, .ofNat 1)]), (4, [(.ofNat 0, .ofNat 30)]), (5, [(.ofNat 30, .ofNat 30)])], [], []),
  (94, [(0, .inr (.inl [64])), (1, .inl (false, (1, .ofNat 1, .ofNat 0))), (2, .inl (false, (2, .ofNat 1, .ofNat 0))), (3, .inl (false, (3, .ofNat 1, .ofNat 0))), (4, .inl (false, (4, .ofNat 1, .ofNat 0))), (5, .inl (false, (5, .ofNat 1, .ofNat 0)))], [], [(0, 64, (0, .ofNat 0, .ofNat 0), (5, .ofNat 1, .ofNat 0), (0, .ofNat 0, .ofNat 0)), (2, 2, (5, .ofNat 1, .ofNat 0), (0, .ofNat 0, .ofNat 30), (0, .ofNat 0, .ofNat 0)), (0, 64, (0, .ofNat 0, .ofNat 0), (5, .ofNat 1, .ofNat 0), (0, .ofNat 0, .ofNat 0)), (2, 1, (6, .ofNat 1, .ofNat 0), (1, .ofNat 1, .ofNat 0), (0, .ofNat 0, .ofNat 0)), (0, 65, (4, .ofNat 1, .ofNat 0), (6, .ofNat 1, .ofNat 0), (0, .ofNat 0, .ofNat 0)), (2, 2, (4, .ofNat 1, .ofNat 0), (5, .ofNat 1, .ofNat 0), (0, .ofNat 0, .ofNat 0)), (0, 64, (0, .ofNat 0, .ofNat 0), (5, .ofNat 1, .ofNat 0), (0, .ofNat 0, .ofNat 0))], [(2, [(.ofNat 0, .ofNat 1)]), (4, [(.ofNat 0, .ofNat 29)]), (5, [(.ofNat 1, .ofNat 29)])], [], []),
  (0, [], [], [(2, 3, (5, .ofNat 1, .ofNat 0), (0, .ofNat 0, .ofNat 30), (0, .ofNat 0, .ofNat 0)), (0, 64, (0, .ofNat 0, .ofNat 0), (5, .ofNat 1, .ofNat 0), (0, .ofNat 0, .ofNat 0)), (2, 1, (6, .ofNat 1, .ofNat 0), (1, .ofNat 1, .ofNat 0), (0, .ofNat 0, .ofNat 0)), (0, 65, (4, .ofNat 1, .ofNat 0), (6, .ofNat 1, .ofNat 0), (0, .ofNat 0, .ofNat 0)), (2, 2, (4, .ofNat 1, .ofNat 0), (5, .ofNat 1, .ofNat 0), (0, .ofNat 0, .ofNat 0)), (0, 64, (0, .ofNat 0, .ofNat 0), (5, .ofNat 1, .ofNat 0), (0, .ofNat 0, .ofNat 0))], [(2, [(.ofNat 0, .ofNat 1)]), (4, [(.ofNat 0, .ofNat 29)]), (5, [(.ofNat 30, .ofNat 30)])], [], []),
  (94, [(0, .inr (.inl [64])), (1, .inl (false, (1, .ofNat 1, .ofNat 0))), (2, .inl (false, (2, .ofNat 1, .ofNat 0))), (3, .inl (false, (3, .ofNat 1, .ofNat 0))), (4, .inl (false, (4, .ofNat 1, .ofNat 0))), (5, .inl (false, (5, .ofNat 1, .ofNat 0)))], [], [(0, 64, (0, .ofNat 0, .ofNat 0), (5, .ofNat 1, .ofNat 0), (0, .ofNat 0, .ofNat 0)), (2, 2, (5, .ofNat 1, .ofNat 0), (0, .ofNat 0, .ofNat 30), (0, .ofNat 0, .ofNat 0)), (0, 64, (0, .ofNat 0, .ofNat 0), (5, .ofNat 1, .ofNat 0), (0, .ofNat 0, .ofNat 0)), (2, 1, (7, .ofNat 1, .ofNat 0), (2, .ofNat 1, .ofNat 0), (0, .ofNat 0, .ofNat 0)), (0, 66, (4, .ofNat 1, .ofNat 0), (7, .ofNat 1, .ofNat 0), (0, .ofNat 0, .ofNat 0)), (2, 0, (6, .ofNat 1, .ofNat 0), (1, .ofNat 1, .ofNat 0), (0, .ofNat 0, .ofNat 0)), (0, 65, (4, .ofNat 1, .ofNat 0), (6, .ofNat 1, .ofNat 0), (0, .ofNat 0, .ofNat 0)), (2, 2, (4, .ofNat 1, .ofNat 0), (5, .ofNat 1, .ofNat 0), (0, .ofNat 0, .ofNat 0)), (0, 64, (0, .ofNat 0, .ofNat 0), (5, .ofNat 1, .ofNat 0), (0, .ofNat 0, .ofNat 0))], [(2, [(.ofNat 0, .ofNat 1)]), (4, [(.ofNat 0, .ofNat 29)]), (5, [(.ofNat 1, .ofNat 29)]), (7, [(.ofNat 0, .ofNat 1)])], [], []),
  (0, [], [], [(2, 3, (5, .ofNat 1, .ofNat 0), (0, .ofNat 0, .ofNat 30), (0, .ofNat 0, .ofNat 0)), (0, 64, (0, .ofNat 0, .ofNat 0), (5, .ofNat 1, .ofNat 0), (0, .ofNat 0, .ofNat 0)), (2, 1, (7, .ofNat 1, .ofNat 0), (2, .ofNat 1, .ofNat 0), (0, .ofNat 0, .ofNat 0)), (0, 66, (4, .ofNat 1, .ofNat 0), (7, .ofNat 1, .ofNat 0), (0, .ofNat 0, .ofNat 0)), (2, 0, (6, .ofNat 1, .ofNat 0), (1, .ofNat 1, .ofNat 0), (0, .ofNat 0, .ofNat 0)), (0, 65, (4, .ofNat 1, .ofNat 0), (6, .ofNat 1, .ofNat 0), (0, .ofNat 0, .ofNat 0)), (2, 2, (4, .ofNat 1, .ofNat 0), (5, .ofNat 1, .ofNat 0), (0, .ofNat 0, .ofNat 0)), (0, 64, (0, .ofNat 0, .ofNat 0), (5, .ofNat 1, .ofNat 0), (0, .ofNat 0, .ofNat 0))], [(2, [(.ofNat 0, .ofNat 1)]), (4, [(.ofNat 0, .ofNat 29)]), (5, [(.ofNat 30, .ofNat 30)]), (7, [(.ofNat 0, .ofNat 1)])], [], []),
  (0, [], [], [(1, 67, (4, .ofNat 1, .ofNat 0), (9, .ofNat 1, .ofNat 0), (0, .ofNat 0, .ofNat 0)), (3, 9, (8, .ofNat 1, .ofNat 0), (3, .ofNat 1, .ofNat 0), (9, .ofNat 1, .ofNat 0)), (0, 67, (4, .ofNat 1, .ofNat 0), (8, .ofNat 1, .ofNat 0), (0, .ofNat 0, .ofNat 0)), (2, 0, (7, .ofNat 1, .ofNat 0), (2, .ofNat 1, .ofNat 0), (0, .ofNat 0, .ofNat 0)), (0, 66, (4, .ofNat 1, .ofNat 0), (7, .ofNat 1, .ofNat 0), (0, .ofNat 0, .ofNat 0)), (2, 0, (6, .ofNat 1, .ofNat 0), (1, .ofNat 1, .ofNat 0), (0, .ofNat 0, .ofNat 0)), (0, 65, (4, .ofNat 1, .ofNat 0), (6, .ofNat 1, .ofNat 0), (0, .ofNat 0, .ofNat 0)), (2, 2, (4, .ofNat 1, .ofNat 0), (5, .ofNat 1, .ofNat 0), (0, .ofNat 0, .ofNat 0)), (0, 64, (0, .ofNat 0, .ofNat 0), (5, .ofNat 1, .ofNat 0), (0, .ofNat 0, .ofNat 0))], [(2, [(.ofNat 0, .ofNat 1)]), (4, [(.ofNat 0, .ofNat 29)]), (5, [(.ofNat 1, .ofNat 30)]), (7, [(.ofNat 0, .ofNat 1)])], [], [])]
set_option maxRecDepth 1000000 in
theorem sg_mg_c_g : sg_go [] [93] 3000 7 34 0 5 [(0, [(.ofNat 0, .ofNat 0)]), (1, [(.negSucc 2147483647, .ofNat 2147483647)]), (2, [(.ofNat 0, .ofNat 1)]), (3, [(.negSucc 2147483647, .ofNat 2147483647)]), (4, [(.ofNat 0, .ofNat 30)])] [] [] [] [(0, .inr (.inl [64])), (1, .inl (false, (1, .ofNat 1, .ofNat 0))), (2, .inl (false, (2, .ofNat 1, .ofNat 0))), (3, .inl (false, (3, .ofNat 1, .ofNat 0))), (4, .inl (false, (4, .ofNat 1, .ofNat 0)))] [] [(67, none)] sg_mg_c_Z = true := by decide +kernel
set_option maxRecDepth 100000 in
theorem sg_mg_c {Q : Option Value × am_S → Prop} {d : Nat} {S : am_S} {L : am_L} {x1 x2 x3 x4 : Int} (hd : 0 ≤ d) (hP : ax_P0 none S) (l0 : lc L 0 64) (l1 : li L 1 x1) (l2 : li L 2 x2) (l3 : li L 3 x3) (l4 : li L 4 x4) (b1 : ((-2147483648) ≤ x1 ∧ x1 ≤ 2147483647)) (b2 : (0 ≤ x2 ∧ x2 ≤ 1)) (b3 : ((-2147483648) ≤ x3 ∧ x3 ≤ 2147483647)) (b4 : (0 ≤ x4 ∧ x4 ≤ 30))
    (k0 : ∀ (x5 : Int) (L' : am_L) (S' : am_S), ax_P0 none S' → rd S' = rd S → rd S 64 0 = x5 → x5 ≤ x4 → x5 < 30 → (0 ≤ x2 ∧ x2 ≤ 1) → (0 ≤ x4 ∧ x4 ≤ 30) → (0 ≤ x5 ∧ x5 ≤ 29) → lc L' 0 64 → li L' 1 x1 → li L' 2 x2 → li L' 3 x3 → li L' 4 x4 → li L' 5 x5 → am_V none d 7 93 L' ([]) S' Q)
    (k1 : ∀ (x5 : Int) (S' : am_S), ax_P0 none S' → rd S' = rd S → rd S 64 0 = x5 → x5 ≤ x4 → 30 ≤ x5 → (0 ≤ x2 ∧ x2 ≤ 1) → (0 ≤ x4 ∧ x4 ≤ 30) → (30 ≤ x5 ∧ x5 ≤ 30) → Q (none, S'))
    (k2 : ∀ (x5 x6 : Int) (L' : am_L) (S' : am_S), ax_P0 none S' → rd S' = rd S → rd S 64 0 = x5 → x4 < x5 → rd S 65 x4 = x6 → x6 ≠ x1 → x5 < 30 → (0 ≤ x2 ∧ x2 ≤ 1) → (0 ≤ x4 ∧ x4 ≤ 29) → (1 ≤ x5 ∧ x5 ≤ 29) → lc L' 0 64 → li L' 1 x1 → li L' 2 x2 → li L' 3 x3 → li L' 4 x4 → li L' 5 x5 → am_V none d 7 93 L' ([]) S' Q)
    (k3 : ∀ (x5 x6 : Int) (S' : am_S), ax_P0 none S' → rd S' = rd S → rd S 64 0 = x5 → x4 < x5 → rd S 65 x4 = x6 → x6 ≠ x1 → 30 ≤ x5 → (0 ≤ x2 ∧ x2 ≤ 1) → (0 ≤ x4 ∧ x4 ≤ 29) → (30 ≤ x5 ∧ x5 ≤ 30) → Q (none, S'))
    (k4 : ∀ (x5 x6 x7 : Int) (L' : am_L) (S' : am_S), ax_P0 none S' → rd S' = rd S → rd S 64 0 = x5 → x4 < x5 → rd S 65 x4 = x6 → x6 = x1 → rd S 66 x4 = x7 → x7 ≠ x2 → x5 < 30 → (0 ≤ x2 ∧ x2 ≤ 1) → (0 ≤ x4 ∧ x4 ≤ 29) → (1 ≤ x5 ∧ x5 ≤ 29) → (0 ≤ x7 ∧ x7 ≤ 1) → lc L' 0 64 → li L' 1 x1 → li L' 2 x2 → li L' 3 x3 → li L' 4 x4 → li L' 5 x5 → am_V none d 7 93 L' ([]) S' Q)
    (k5 : ∀ (x5 x6 x7 : Int) (S' : am_S), ax_P0 none S' → rd S' = rd S → rd S 64 0 = x5 → x4 < x5 → rd S 65 x4 = x6 → x6 = x1 → rd S 66 x4 = x7 → x7 ≠ x2 → 30 ≤ x5 → (0 ≤ x2 ∧ x2 ≤ 1) → (0 ≤ x4 ∧ x4 ≤ 29) → (30 ≤ x5 ∧ x5 ≤ 30) → (0 ≤ x7 ∧ x7 ≤ 1) → Q (none, S'))
    (k6 : ∀ (x5 x6 x7 x8 x9 : Int) (S' : am_S), ax_P0 none S' → rd S' = sg_up (rd S) 67 x4 x9 → rd S 64 0 = x5 → x4 < x5 → rd S 65 x4 = x6 → x6 = x1 → rd S 66 x4 = x7 → x7 = x2 → rd S 67 x4 = x8 → (∃ a b : Int32, a.toInt = x8 ∧ b.toInt = x3 ∧ (a + b).toInt = x9) → (0 ≤ x2 ∧ x2 ≤ 1) → (0 ≤ x4 ∧ x4 ≤ 29) → (1 ≤ x5 ∧ x5 ≤ 30) → (0 ≤ x7 ∧ x7 ≤ 1) → Q (none, S')) : am_V none d 7 34 L ([]) S Q := by
  refine sg_use sg_mg_c_g hd hP (sg_xs [0, x1, x2, x3, x4]) ⟨⟨Int.le_refl 0, Int.le_refl 0⟩, b1, b2, b3, b4, trivial⟩ trivial trivial trivial ⟨l0, l1, l2, l3, l4, trivial⟩ trivial ?_
  intro z hz x' L' st' S' hx hP' hW hL' hs' hJ hE' hT' hD'
  have q1 : x' 1 = x1 := hx 1 (by decide)
  subst q1
  have q2 : x' 2 = x2 := hx 2 (by decide)
  subst q2
  have q3 : x' 3 = x3 := hx 3 (by decide)
  subst q3
  have q4 : x' 4 = x4 := hx 4 (by decide)
  subst q4
  simp only [sg_mg_c_Z, List.mem_cons, List.not_mem_nil, or_false] at hz
  rcases hz with rfl | rfl | rfl | rfl | rfl | rfl | rfl
  · obtain ⟨f0, f1, -, f3, -, hσ⟩ := hJ
    obtain ⟨e0, e1, e2, -⟩ := hE'
    obtain ⟨p0, p1, p2, p3, p4, p5, -⟩ := hL'
    obtain rfl := sg_tn hs'
    exact k0 (x' 5) L' S' hP' hσ f0 f1 f3 e0 e1 e2 p0 p1 p2 p3 p4 p5
  · obtain ⟨f0, f1, -, f3, hσ⟩ := hJ
    obtain ⟨e0, e1, e2, -⟩ := hE'
    intro v hv
    subst hv
    cases v with
    | some _ => exact hs'.elim
    | none =>
      exact k1 (x' 5) S' hP' hσ f0 f1 f3 e0 e1 e2
  · obtain ⟨f0, f1, f2, f3, -, f5, -, hσ⟩ := hJ
    obtain ⟨e0, e1, e2, -⟩ := hE'
    obtain ⟨p0, p1, p2, p3, p4, p5, -⟩ := hL'
    obtain rfl := sg_tn hs'
    exact k2 (x' 5) (x' 6) L' S' hP' hσ f0 f1 f2 f3 f5 e0 e1 e2 p0 p1 p2 p3 p4 p5
  · obtain ⟨f0, f1, f2, f3, -, f5, hσ⟩ := hJ
    obtain ⟨e0, e1, e2, -⟩ := hE'
    intro v hv
    subst hv
    cases v with
    | some _ => exact hs'.elim
    | none =>
      exact k3 (x' 5) (x' 6) S' hP' hσ f0 f1 f2 f3 f5 e0 e1 e2
  · obtain ⟨f0, f1, f2, f3, f4, f5, -, f7, -, hσ⟩ := hJ
    obtain ⟨e0, e1, e2, e3, -⟩ := hE'
    obtain ⟨p0, p1, p2, p3, p4, p5, -⟩ := hL'
    obtain rfl := sg_tn hs'
    exact k4 (x' 5) (x' 6) (x' 7) L' S' hP' hσ f0 f1 f2 f3 f4 f5 f7 e0 e1 e2 e3 p0 p1 p2 p3 p4 p5
  · obtain ⟨f0, f1, f2, f3, f4, f5, -, f7, hσ⟩ := hJ
    obtain ⟨e0, e1, e2, e3, -⟩ := hE'
    intro v hv
    subst hv
    cases v with
    | some _ => exact hs'.elim
    | none =>
      exact k5 (x' 5) (x' 6) (x' 7) S' hP' hσ f0 f1 f2 f3 f4 f5 f7 e0 e1 e2 e3
  · obtain ⟨f0, f1, f2, f3, f4, f5, f6, f7, hσ⟩ := hJ
    obtain ⟨e0, e1, e2, e3, -⟩ := hE'
    intro v hv
    subst hv
    cases v with
    | some _ => exact hs'.elim
    | none =>
      exact k6 (x' 5) (x' 6) (x' 7) (x' 8) (x' 9) S' hP' hσ f0 f1 f2 f3 f4 f5 f6 f7 e0 e1 e2 e3
def sg_mg_d_Z : List sg_z := [(0, [], [], [(1, 64, (0, .ofNat 0, .ofNat 0), (6, .ofNat 1, .ofNat 1), (0, .ofNat 0, .ofNat 0)), (0, 64, (0, .ofNat 0, .ofNat 0), (6, .ofNat 1, .ofNat 0), (0, .ofNat 0, .ofNat 0)), (1, 67, (4, .ofNat 1, .ofNat 0), (3, .ofNat 1, .ofNat 0), (0, .ofNat 0, .ofNat 0)), (1, 66, (4, .ofNat 1, .ofNat 0), (2, .ofNat 1, .ofNat 0), (0, .ofNat 0, .ofNat 0)), (1, 65, (4, .ofNat 1, .ofNat 0), (1, .ofNat 1, .ofNat 0), (0, .ofNat 0, .ofNat 0)), (2, 5, (5, .ofNat 1, .ofNat 0), (4, .ofNat 1, .ofNat 0), (0, .ofNat 0, .ofNat 0))], [(2, [(.ofNat 0, .ofNat 1)]), (4, [(.ofNat 0, .ofNat 29)]), (5, [(.ofNat 0, .ofNat 29)]), (6, [(.ofNat 0, .ofNat 29)])], [], []),
  (94, [(0, .inr (.inl [64])), (1, .inl (false, (1, .ofNat 1, .ofNat 0))), (2, .inl (false, (2, .ofNat 1, .ofNat 0))), (3, .inl (false, (3, .ofNat 1, .ofNat 0))), (4, .inl (false, (4, .ofNat 1, .ofNat 0))), (5, .inl (false, (5, .ofNat 1, .negSucc 0)))], [], [(1, 67, (5, .ofNat 1, .ofNat 0), (9, .ofNat 1, .ofNat 0), (0, .ofNat 0, .ofNat 0)), (0, 67, (5, .ofNat 1, .negSucc 0), (9, .ofNat 1, .ofNat 0), (0, .ofNat 0, .ofNat 0)), (1, 66, (5, .ofNat 1, .ofNat 0), (8, .ofNat 1, .ofNat 0), (0, .ofNat 0, .ofNat 0)), (0, 66, (5, .ofNat 1, .negSucc 0), (8, .ofNat 1, .ofNat 0), (0, .ofNat 0, .ofNat 0)), (1, 65, (5, .ofNat 1, .ofNat 0), (7, .ofNat 1, .ofNat 0), (0, .ofNat 0, .ofNat 0)), (0, 65, (5, .ofNat 1, .negSucc 0), (7, .ofNat 1, .ofNat 0), (0, .ofNat 0, .ofNat 0)), (2, 4, (5, .ofNat 1, .ofNat 0), (4, .ofNat 1, .ofNat 0), (0, .ofNat 0, .ofNat 0))], [(2, [(.ofNat 0, .ofNat 1)]), (4, [(.ofNat 0, .ofNat 28)]), (5, [(.ofNat 1, .ofNat 29)]), (6, [(.ofNat 0, .ofNat 29)]), (8, [(.ofNat 0, .ofNat 1)])], [], [])]
set_option maxRecDepth 1000000 in
theorem sg_mg_d_g : sg_go [] [93] 3000 7 93 0 7 [(0, [(.ofNat 0, .ofNat 0)]), (1, [(.negSucc 2147483647, .ofNat 2147483647)]), (2, [(.ofNat 0, .ofNat 1)]), (3, [(.negSucc 2147483647, .ofNat 2147483647)]), (4, [(.ofNat 0, .ofNat 29)]), (5, [(.ofNat 0, .ofNat 29)]), (6, [(.ofNat 0, .ofNat 29)])] [(64, (0, .ofNat 0, .ofNat 0), (6, .ofNat 1, .ofNat 0))] [] [] [(0, .inr (.inl [64])), (1, .inl (false, (1, .ofNat 1, .ofNat 0))), (2, .inl (false, (2, .ofNat 1, .ofNat 0))), (3, .inl (false, (3, .ofNat 1, .ofNat 0))), (4, .inl (false, (4, .ofNat 1, .ofNat 0))), (5, .inl (false, (5, .ofNat 1, .ofNat 0)))] [] [(64, some 0), (65, none), (66, none), (67, none)] sg_mg_d_Z = true := by decide +kernel
set_option maxRecDepth 100000 in
theorem sg_mg_d {Q : Option Value × am_S → Prop} {d : Nat} {S : am_S} {L : am_L} {x1 x2 x3 x4 x5 x6 : Int} (hd : 0 ≤ d) (hP : ax_P0 none S) (l0 : lc L 0 64) (l1 : li L 1 x1) (l2 : li L 2 x2) (l3 : li L 3 x3) (l4 : li L 4 x4) (l5 : li L 5 x5) (b1 : ((-2147483648) ≤ x1 ∧ x1 ≤ 2147483647)) (b2 : (0 ≤ x2 ∧ x2 ≤ 1)) (b3 : ((-2147483648) ≤ x3 ∧ x3 ≤ 2147483647)) (b4 : (0 ≤ x4 ∧ x4 ≤ 29)) (b5 : (0 ≤ x5 ∧ x5 ≤ 29)) (b6 : (0 ≤ x6 ∧ x6 ≤ 29)) (m64_0 : rd S 64 0 = x6)
    (k0 : ∀ (S' : am_S), ax_P0 none S' → rd S' = sg_up (sg_up (sg_up (sg_up (rd S) 65 x4 x1) 66 x4 x2) 67 x4 x3) 64 0 (x6 + 1) → x5 ≤ x4 → (sg_up (sg_up (sg_up (rd S) 65 x4 x1) 66 x4 x2) 67 x4 x3) 64 0 = x6 → (0 ≤ x2 ∧ x2 ≤ 1) → (0 ≤ x4 ∧ x4 ≤ 29) → (0 ≤ x5 ∧ x5 ≤ 29) → (0 ≤ x6 ∧ x6 ≤ 29) → Q (none, S'))
    (k1 : ∀ (x7 x8 x9 : Int) (L' : am_L) (S' : am_S), ax_P0 none S' → rd S' = sg_up (sg_up (sg_up (rd S) 65 x5 x7) 66 x5 x8) 67 x5 x9 → x4 < x5 → rd S 65 (x5 + (-1)) = x7 → (sg_up (rd S) 65 x5 x7) 66 (x5 + (-1)) = x8 → (sg_up (sg_up (rd S) 65 x5 x7) 66 x5 x8) 67 (x5 + (-1)) = x9 → (0 ≤ x2 ∧ x2 ≤ 1) → (0 ≤ x4 ∧ x4 ≤ 28) → (1 ≤ x5 ∧ x5 ≤ 29) → (0 ≤ x6 ∧ x6 ≤ 29) → (0 ≤ x8 ∧ x8 ≤ 1) → lc L' 0 64 → li L' 1 x1 → li L' 2 x2 → li L' 3 x3 → li L' 4 x4 → li L' 5 (x5 + (-1)) → am_V none d 7 93 L' ([]) S' Q) : am_V none d 7 93 L ([]) S Q := by
  refine sg_use sg_mg_d_g hd hP (sg_xs [0, x1, x2, x3, x4, x5, x6]) ⟨⟨Int.le_refl 0, Int.le_refl 0⟩, b1, b2, b3, b4, b5, b6, trivial⟩ ⟨sg_fs hP rfl m64_0, trivial⟩ trivial trivial ⟨l0, l1, l2, l3, l4, l5, trivial⟩ trivial ?_
  intro z hz x' L' st' S' hx hP' hW hL' hs' hJ hE' hT' hD'
  have q1 : x' 1 = x1 := hx 1 (by decide)
  subst q1
  have q2 : x' 2 = x2 := hx 2 (by decide)
  subst q2
  have q3 : x' 3 = x3 := hx 3 (by decide)
  subst q3
  have q4 : x' 4 = x4 := hx 4 (by decide)
  subst q4
  have q5 : x' 5 = x5 := hx 5 (by decide)
  subst q5
  have q6 : x' 6 = x6 := hx 6 (by decide)
  subst q6
  simp only [sg_mg_d_Z, List.mem_cons, List.not_mem_nil, or_false] at hz
  rcases hz with rfl | rfl
  · obtain ⟨f0, f1, hσ⟩ := hJ
    obtain ⟨e0, e1, e2, e3, -⟩ := hE'
    intro v hv
    subst hv
    cases v with
    | some _ => exact hs'.elim
    | none =>
      exact k0 S' hP' hσ f0 f1 e0 e1 e2 e3
  · obtain ⟨f0, f1, f2, f3, hσ⟩ := hJ
    obtain ⟨e0, e1, e2, e3, e4, -⟩ := hE'
    obtain ⟨p0, p1, p2, p3, p4, p5, -⟩ := hL'
    obtain rfl := sg_tn hs'
    exact k1 (x' 7) (x' 8) (x' 9) L' S' hP' hσ f0 f1 f2 f3 e0 e1 e2 e3 e4 p0 p1 p2 p3 p4 p5
def sg_sf_m_Z : List sg_z := [(0, [], [.inl (false, (7, .ofNat 1, .ofNat 0))], [(3, 1, (6, .ofNat 1, .ofNat 0), (0, .ofNat 0, .ofNat 2), (7, .ofNat 1, .ofNat 0)), (3, 0, (5, .ofNat 1, .ofNat 2), (5, .ofNat 1, .ofNat 4), (6, .ofNat 1, .ofNat 0)), (2, 5, (4, .ofNat 1, .ofNat 0), (3, .ofNat 1, .ofNat 0), (0, .ofNat 0, .ofNat 0)), (2, 0, (2, .ofNat 1, .ofNat 0), (0, .ofNat 0, .ofNat 0), (0, .ofNat 0, .ofNat 0)), (2, 1, (3, .ofNat 1, .ofNat 0), (4, .ofNat 1, .ofNat 0), (0, .ofNat 0, .ofNat 0))], [(1, [(.ofNat 0, .ofNat 9)]), (2, [(.ofNat 0, .ofNat 0)]), (3, [(.negSucc 8, .ofNat 9)]), (4, [(.negSucc 8, .ofNat 9)]), (5, [(.negSucc 8, .ofNat 18)]), (6, [(.negSucc 153, .ofNat 440)])], [((1, .ofNat 1, .ofNat 0), (3, .negSucc 0, .ofNat 0), (5, .ofNat 1, .ofNat 0))], []),
  (0, [], [.inl (false, (7, .ofNat 1, .ofNat 0))], [(3, 1, (6, .ofNat 1, .ofNat 0), (0, .ofNat 0, .ofNat 2), (7, .ofNat 1, .ofNat 0)), (3, 0, (5, .ofNat 1, .ofNat 2), (5, .ofNat 1, .ofNat 4), (6, .ofNat 1, .ofNat 0)), (2, 4, (4, .ofNat 1, .ofNat 0), (3, .ofNat 1, .ofNat 0), (0, .ofNat 0, .ofNat 0)), (2, 0, (2, .ofNat 1, .ofNat 0), (0, .ofNat 0, .ofNat 0), (0, .ofNat 0, .ofNat 0)), (2, 1, (3, .ofNat 1, .ofNat 0), (4, .ofNat 1, .ofNat 0), (0, .ofNat 0, .ofNat 0))], [(1, [(.ofNat 0, .ofNat 9)]), (2, [(.ofNat 0, .ofNat 0)]), (3, [(.negSucc 8, .ofNat 8)]), (4, [(.negSucc 7, .ofNat 9)]), (5, [(.negSucc 8, .ofNat 17)]), (6, [(.negSucc 146, .ofNat 399)])], [((1, .ofNat 1, .ofNat 0), (3, .ofNat 1, .ofNat 0), (5, .ofNat 1, .ofNat 0))], []),
  (0, [], [.inl (false, (8, .ofNat 1, .ofNat 0))], [(3, 1, (7, .ofNat 1, .ofNat 0), (0, .ofNat 0, .ofNat 2), (8, .ofNat 1, .ofNat 0)), (3, 0, (5, .ofNat 1, .ofNat 0), (6, .ofNat 1, .ofNat 2), (7, .ofNat 1, .ofNat 0)), (2, 5, (4, .ofNat 1, .ofNat 0), (3, .ofNat 1, .ofNat 0), (0, .ofNat 0, .ofNat 0)), (2, 1, (2, .ofNat 1, .ofNat 0), (0, .ofNat 0, .ofNat 0), (0, .ofNat 0, .ofNat 0)), (2, 1, (3, .ofNat 1, .ofNat 0), (4, .ofNat 1, .ofNat 0), (0, .ofNat 0, .ofNat 0))], [(1, [(.ofNat 0, .ofNat 9)]), (2, [(.ofNat 1, .ofNat 1)]), (3, [(.negSucc 8, .ofNat 9)]), (4, [(.negSucc 8, .ofNat 9)]), (5, [(.negSucc 8, .ofNat 18)]), (6, [(.negSucc 8, .ofNat 18)]), (7, [(.negSucc 179, .ofNat 360)])], [((1, .ofNat 1, .ofNat 0), (3, .negSucc 0, .ofNat 0), (6, .ofNat 1, .ofNat 0)), ((1, .ofNat 1, .ofNat 0), (3, .ofNat 1, .ofNat 0), (5, .ofNat 1, .ofNat 0))], []),
  (0, [], [.inl (false, (8, .ofNat 1, .ofNat 0))], [(3, 1, (7, .ofNat 1, .ofNat 0), (0, .ofNat 0, .ofNat 2), (8, .ofNat 1, .ofNat 0)), (3, 0, (5, .ofNat 1, .ofNat 0), (6, .ofNat 1, .ofNat 2), (7, .ofNat 1, .ofNat 0)), (2, 4, (4, .ofNat 1, .ofNat 0), (3, .ofNat 1, .ofNat 0), (0, .ofNat 0, .ofNat 0)), (2, 1, (2, .ofNat 1, .ofNat 0), (0, .ofNat 0, .ofNat 0), (0, .ofNat 0, .ofNat 0)), (2, 1, (3, .ofNat 1, .ofNat 0), (4, .ofNat 1, .ofNat 0), (0, .ofNat 0, .ofNat 0))], [(1, [(.ofNat 0, .ofNat 9)]), (2, [(.ofNat 1, .ofNat 1)]), (3, [(.negSucc 8, .ofNat 8)]), (4, [(.negSucc 7, .ofNat 9)]), (5, [(.negSucc 7, .ofNat 18)]), (6, [(.negSucc 8, .ofNat 17)]), (7, [(.negSucc 151, .ofNat 342)])], [((1, .ofNat 1, .ofNat 0), (3, .ofNat 1, .ofNat 0), (6, .ofNat 1, .ofNat 0)), ((1, .ofNat 1, .ofNat 0), (3, .negSucc 0, .ofNat 0), (5, .ofNat 1, .ofNat 0))], []),
  (0, [], [.inl (false, (7, .ofNat 1, .ofNat 0))], [(3, 0, (3, .ofNat 1, .ofNat 0), (3, .ofNat 1, .ofNat 0), (6, .ofNat 1, .ofNat 0)), (3, 0, (1, .ofNat 1, .ofNat 2), (1, .ofNat 1, .ofNat 2), (5, .ofNat 1, .ofNat 0)), (2, 0, (2, .ofNat 1, .ofNat 0), (0, .ofNat 0, .ofNat 0), (0, .ofNat 0, .ofNat 0)), (2, 0, (3, .ofNat 1, .ofNat 0), (4, .ofNat 1, .ofNat 0), (0, .ofNat 0, .ofNat 0))], [(1, [(.ofNat 0, .ofNat 9)]), (2, [(.ofNat 0, .ofNat 0)]), (3, [(.negSucc 8, .ofNat 9)]), (4, [(.negSucc 8, .ofNat 9)]), (5, [(.ofNat 4, .ofNat 121)]), (6, [(.negSucc 80, .ofNat 81)]), (7, [(.negSucc 76, .ofNat 202)])], [((5, .ofNat 1, .ofNat 0), (6, .negSucc 0, .ofNat 0), (7, .ofNat 1, .ofNat 0))], []),
  (0, [], [.inl (false, (5, .ofNat 1, .ofNat 0))], [(3, 0, (3, .ofNat 1, .ofNat 0), (3, .ofNat 1, .ofNat 0), (5, .ofNat 1, .ofNat 0)), (2, 1, (2, .ofNat 1, .ofNat 0), (0, .ofNat 0, .ofNat 0), (0, .ofNat 0, .ofNat 0)), (2, 0, (3, .ofNat 1, .ofNat 0), (4, .ofNat 1, .ofNat 0), (0, .ofNat 0, .ofNat 0))], [(1, [(.ofNat 0, .ofNat 9)]), (2, [(.ofNat 1, .ofNat 1)]), (3, [(.negSucc 8, .ofNat 9)]), (4, [(.negSucc 8, .ofNat 9)]), (5, [(.negSucc 80, .ofNat 81)])], [], [])]
set_option maxRecDepth 1000000 in
theorem sg_sf_m_g : sg_go [] [] 3000 229 0 0 5 [(0, [(.ofNat 0, .ofNat 0)]), (1, [(.ofNat 0, .ofNat 9)]), (2, [(.ofNat 0, .ofNat 1)]), (3, [(.negSucc 8, .ofNat 9)]), (4, [(.negSucc 8, .ofNat 9)])] [] [] [] [(0, .inl (false, (1, .ofNat 1, .ofNat 0))), (1, .inl (false, (2, .ofNat 1, .ofNat 0))), (2, .inl (false, (3, .ofNat 1, .ofNat 0))), (3, .inl (false, (4, .ofNat 1, .ofNat 0)))] [] [] sg_sf_m_Z = true := by decide +kernel
set_option maxRecDepth 100000 in
theorem sg_sf_m {Q : Option Value × am_S → Prop} {d : Nat} {S : am_S} {L : am_L} {x1 x2 x3 x4 : Int} (hd : 0 ≤ d) (hP : ax_P0 none S) (l0 : li L 0 x1) (l1 : li L 1 x2) (l2 : li L 2 x3) (l3 : li L 3 x4) (b1 : (0 ≤ x1 ∧ x1 ≤ 9)) (b2 : (0 ≤ x2 ∧ x2 ≤ 1)) (b3 : ((-9) ≤ x3 ∧ x3 ≤ 9)) (b4 : ((-9) ≤ x4 ∧ x4 ≤ 9))
    (k0 : ∀ (x5 x6 x7 : Int) (i1 : Int32), x3 ≠ x4 → x2 = 0 → x4 ≤ x3 → (∃ a b : Int32, a.toInt = x5 + 2 ∧ b.toInt = x5 + 4 ∧ (a * b).toInt = x6) → (∃ a b : Int32, a.toInt = x6 ∧ b.toInt = 2 ∧ (a / b).toInt = x7) → (0 ≤ x1 ∧ x1 ≤ 9) → (0 ≤ x2 ∧ x2 ≤ 0) → ((-9) ≤ x3 ∧ x3 ≤ 9) → ((-9) ≤ x4 ∧ x4 ≤ 9) → ((-9) ≤ x5 ∧ x5 ≤ 18) → ((-154) ≤ x6 ∧ x6 ≤ 440) → x1 + ((-1) * x3 + 0) = x5 → i1.toInt = x7 → Q (some (.int i1), S))
    (k1 : ∀ (x5 x6 x7 : Int) (i1 : Int32), x3 ≠ x4 → x2 = 0 → x3 < x4 → (∃ a b : Int32, a.toInt = x5 + 2 ∧ b.toInt = x5 + 4 ∧ (a * b).toInt = x6) → (∃ a b : Int32, a.toInt = x6 ∧ b.toInt = 2 ∧ (a / b).toInt = x7) → (0 ≤ x1 ∧ x1 ≤ 9) → (0 ≤ x2 ∧ x2 ≤ 0) → ((-9) ≤ x3 ∧ x3 ≤ 8) → ((-8) ≤ x4 ∧ x4 ≤ 9) → ((-9) ≤ x5 ∧ x5 ≤ 17) → ((-147) ≤ x6 ∧ x6 ≤ 399) → x1 + x3 = x5 → i1.toInt = x7 → Q (some (.int i1), S))
    (k2 : ∀ (x5 x6 x7 x8 : Int) (i1 : Int32), x3 ≠ x4 → x2 ≠ 0 → x4 ≤ x3 → (∃ a b : Int32, a.toInt = x5 ∧ b.toInt = x6 + 2 ∧ (a * b).toInt = x7) → (∃ a b : Int32, a.toInt = x7 ∧ b.toInt = 2 ∧ (a / b).toInt = x8) → (0 ≤ x1 ∧ x1 ≤ 9) → (1 ≤ x2 ∧ x2 ≤ 1) → ((-9) ≤ x3 ∧ x3 ≤ 9) → ((-9) ≤ x4 ∧ x4 ≤ 9) → ((-9) ≤ x5 ∧ x5 ≤ 18) → ((-9) ≤ x6 ∧ x6 ≤ 18) → ((-180) ≤ x7 ∧ x7 ≤ 360) → x1 + ((-1) * x3 + 0) = x6 → x1 + x3 = x5 → i1.toInt = x8 → Q (some (.int i1), S))
    (k3 : ∀ (x5 x6 x7 x8 : Int) (i1 : Int32), x3 ≠ x4 → x2 ≠ 0 → x3 < x4 → (∃ a b : Int32, a.toInt = x5 ∧ b.toInt = x6 + 2 ∧ (a * b).toInt = x7) → (∃ a b : Int32, a.toInt = x7 ∧ b.toInt = 2 ∧ (a / b).toInt = x8) → (0 ≤ x1 ∧ x1 ≤ 9) → (1 ≤ x2 ∧ x2 ≤ 1) → ((-9) ≤ x3 ∧ x3 ≤ 8) → ((-8) ≤ x4 ∧ x4 ≤ 9) → ((-8) ≤ x5 ∧ x5 ≤ 18) → ((-9) ≤ x6 ∧ x6 ≤ 17) → ((-152) ≤ x7 ∧ x7 ≤ 342) → x1 + x3 = x6 → x1 + ((-1) * x3 + 0) = x5 → i1.toInt = x8 → Q (some (.int i1), S))
    (k4 : ∀ (x5 x6 x7 : Int) (i1 : Int32), x3 = x4 → x2 = 0 → (∃ a b : Int32, a.toInt = x1 + 2 ∧ b.toInt = x1 + 2 ∧ (a * b).toInt = x5) → (∃ a b : Int32, a.toInt = x3 ∧ b.toInt = x3 ∧ (a * b).toInt = x6) → (0 ≤ x1 ∧ x1 ≤ 9) → (0 ≤ x2 ∧ x2 ≤ 0) → ((-9) ≤ x3 ∧ x3 ≤ 9) → ((-9) ≤ x4 ∧ x4 ≤ 9) → (4 ≤ x5 ∧ x5 ≤ 121) → ((-81) ≤ x6 ∧ x6 ≤ 81) → ((-77) ≤ x7 ∧ x7 ≤ 202) → x5 + ((-1) * x6 + 0) = x7 → i1.toInt = x7 → Q (some (.int i1), S))
    (k5 : ∀ (x5 : Int) (i1 : Int32), x3 = x4 → x2 ≠ 0 → (∃ a b : Int32, a.toInt = x3 ∧ b.toInt = x3 ∧ (a * b).toInt = x5) → (0 ≤ x1 ∧ x1 ≤ 9) → (1 ≤ x2 ∧ x2 ≤ 1) → ((-9) ≤ x3 ∧ x3 ≤ 9) → ((-9) ≤ x4 ∧ x4 ≤ 9) → ((-81) ≤ x5 ∧ x5 ≤ 81) → i1.toInt = x5 → Q (some (.int i1), S)) : am_V none d 229 0 L ([]) S Q := by
  refine sg_use sg_sf_m_g hd hP (sg_xs [0, x1, x2, x3, x4]) ⟨⟨Int.le_refl 0, Int.le_refl 0⟩, b1, b2, b3, b4, trivial⟩ trivial trivial trivial ⟨l0, l1, l2, l3, trivial⟩ trivial ?_
  intro z hz x' L' st' S' hx hP' hW hL' hs' hJ hE' hT' hD'
  have q1 : x' 1 = x1 := hx 1 (by decide)
  subst q1
  have q2 : x' 2 = x2 := hx 2 (by decide)
  subst q2
  have q3 : x' 3 = x3 := hx 3 (by decide)
  subst q3
  have q4 : x' 4 = x4 := hx 4 (by decide)
  subst q4
  have eS : S' = S := hW.1 rfl
  subst eS
  simp only [sg_sf_m_Z, List.mem_cons, List.not_mem_nil, or_false] at hz
  rcases hz with rfl | rfl | rfl | rfl | rfl | rfl
  · obtain ⟨f0, f1, f2, f3, f4, hσ⟩ := hJ
    obtain ⟨e0, e1, e2, e3, e4, e5, -⟩ := hE'
    obtain ⟨t0, -⟩ := hT'
    intro v hv
    subst hv
    cases v with
    | none => exact hs'.elim
    | some v1 =>
      obtain ⟨⟨i1, rfl, g1⟩, -⟩ := hs'
      exact k0 (x' 5) (x' 6) (x' 7) i1 f0 f1 f2 f3 f4 e0 e1 e2 e3 e4 e5 t0 g1
  · obtain ⟨f0, f1, f2, f3, f4, hσ⟩ := hJ
    obtain ⟨e0, e1, e2, e3, e4, e5, -⟩ := hE'
    obtain ⟨t0, -⟩ := hT'
    intro v hv
    subst hv
    cases v with
    | none => exact hs'.elim
    | some v1 =>
      obtain ⟨⟨i1, rfl, g1⟩, -⟩ := hs'
      exact k1 (x' 5) (x' 6) (x' 7) i1 f0 f1 f2 f3 f4 e0 e1 e2 e3 e4 e5 t0 g1
  · obtain ⟨f0, f1, f2, f3, f4, hσ⟩ := hJ
    obtain ⟨e0, e1, e2, e3, e4, e5, e6, -⟩ := hE'
    obtain ⟨t0, t1, -⟩ := hT'
    intro v hv
    subst hv
    cases v with
    | none => exact hs'.elim
    | some v1 =>
      obtain ⟨⟨i1, rfl, g1⟩, -⟩ := hs'
      exact k2 (x' 5) (x' 6) (x' 7) (x' 8) i1 f0 f1 f2 f3 f4 e0 e1 e2 e3 e4 e5 e6 t0 t1 g1
  · obtain ⟨f0, f1, f2, f3, f4, hσ⟩ := hJ
    obtain ⟨e0, e1, e2, e3, e4, e5, e6, -⟩ := hE'
    obtain ⟨t0, t1, -⟩ := hT'
    intro v hv
    subst hv
    cases v with
    | none => exact hs'.elim
    | some v1 =>
      obtain ⟨⟨i1, rfl, g1⟩, -⟩ := hs'
      exact k3 (x' 5) (x' 6) (x' 7) (x' 8) i1 f0 f1 f2 f3 f4 e0 e1 e2 e3 e4 e5 e6 t0 t1 g1
  · obtain ⟨f0, f1, f2, f3, hσ⟩ := hJ
    obtain ⟨e0, e1, e2, e3, e4, e5, e6, -⟩ := hE'
    obtain ⟨t0, -⟩ := hT'
    intro v hv
    subst hv
    cases v with
    | none => exact hs'.elim
    | some v1 =>
      obtain ⟨⟨i1, rfl, g1⟩, -⟩ := hs'
      exact k4 (x' 5) (x' 6) (x' 7) i1 f0 f1 f2 f3 e0 e1 e2 e3 e4 e5 e6 t0 g1
  · obtain ⟨f0, f1, f2, hσ⟩ := hJ
    obtain ⟨e0, e1, e2, e3, e4, -⟩ := hE'
    intro v hv
    subst hv
    cases v with
    | none => exact hs'.elim
    | some v1 =>
      obtain ⟨⟨i1, rfl, g1⟩, -⟩ := hs'
      exact k5 (x' 5) i1 f0 f1 f2 e0 e1 e2 e3 e4 g1
def sg_cm_a_Z : List sg_z := [(4, [(0, .inr (.inl [122])), (1, .inl (false, (1, .ofNat 1, .ofNat 0))), (2, .inl (false, (2, .ofNat 1, .ofNat 0))), (3, .inl (false, (3, .ofNat 1, .ofNat 0))), (4, .inl (false, (0, .ofNat 0, .ofNat 0)))], [], [], [(2, [(.ofNat 0, .ofNat 1)])], [], [])]
set_option maxRecDepth 1000000 in
theorem sg_cm_a_g : sg_go [] [3] 3000 230 0 0 4 [(0, [(.ofNat 0, .ofNat 0)]), (1, [(.negSucc 2147483647, .ofNat 2147483647)]), (2, [(.ofNat 0, .ofNat 1)]), (3, [(.negSucc 2147483647, .ofNat 2147483647)])] [] [] [] [(0, .inr (.inl [122])), (1, .inl (false, (1, .ofNat 1, .ofNat 0))), (2, .inl (false, (2, .ofNat 1, .ofNat 0))), (3, .inl (false, (3, .ofNat 1, .ofNat 0)))] [] [] sg_cm_a_Z = true := by decide +kernel
set_option maxRecDepth 100000 in
theorem sg_cm_a {Q : Option Value × am_S → Prop} {d : Nat} {S : am_S} {L : am_L} {x1 x2 x3 : Int} (hd : 0 ≤ d) (hP : ax_P0 none S) (l0 : lc L 0 122) (l1 : li L 1 x1) (l2 : li L 2 x2) (l3 : li L 3 x3) (b1 : ((-2147483648) ≤ x1 ∧ x1 ≤ 2147483647)) (b2 : (0 ≤ x2 ∧ x2 ≤ 1)) (b3 : ((-2147483648) ≤ x3 ∧ x3 ≤ 2147483647))
    (k0 : ∀ (L' : am_L), (0 ≤ x2 ∧ x2 ≤ 1) → lc L' 0 122 → li L' 1 x1 → li L' 2 x2 → li L' 3 x3 → li L' 4 0 → am_V none d 230 3 L' ([]) S Q) : am_V none d 230 0 L ([]) S Q := by
  refine sg_use sg_cm_a_g hd hP (sg_xs [0, x1, x2, x3]) ⟨⟨Int.le_refl 0, Int.le_refl 0⟩, b1, b2, b3, trivial⟩ trivial trivial trivial ⟨l0, l1, l2, l3, trivial⟩ trivial ?_
  intro z hz x' L' st' S' hx hP' hW hL' hs' hJ hE' hT' hD'
  have q1 : x' 1 = x1 := hx 1 (by decide)
  subst q1
  have q2 : x' 2 = x2 := hx 2 (by decide)
  subst q2
  have q3 : x' 3 = x3 := hx 3 (by decide)
  subst q3
  have eS : S' = S := hW.1 rfl
  subst eS
  simp only [sg_cm_a_Z, List.mem_cons, List.not_mem_nil, or_false] at hz
  rcases hz with rfl
  · have hσ := hJ
    obtain ⟨e0, -⟩ := hE'
    obtain ⟨p0, p1, p2, p3, p4, -⟩ := hL'
    obtain rfl := sg_tn hs'
    exact k0 L' e0 p0 p1 p2 p3 p4
def sg_cm_b_Z : List sg_z := [(52, [(0, .inr (.inl [122])), (1, .inl (false, (1, .ofNat 1, .ofNat 0))), (2, .inl (false, (2, .ofNat 1, .ofNat 0))), (3, .inl (false, (3, .ofNat 1, .ofNat 0))), (4, .inl (false, (4, .ofNat 1, .ofNat 0)))], [], [(2, 3, (4, .ofNat 1, .ofNat 0), (5, .ofNat 1, .ofNat 0), (0, .ofNat 0, .ofNat 0)), (0, 122, (0, .ofNat 0, .ofNat 43), (5, .ofNat 1, .ofNat 0), (0, .ofNat 0, .ofNat 0))], [(2, [(.ofNat 0, .ofNat 1)]), (4, [(.ofNat 0, .ofNat 30)]), (5, [(.ofNat 0, .ofNat 30)])], [], []),
  (4, [(0, .inr (.inl [122])), (1, .inl (false, (1, .ofNat 1, .ofNat 0))), (2, .inl (false, (2, .ofNat 1, .ofNat 0))), (3, .inl (false, (3, .ofNat 1, .ofNat 0))), (4, .inl (false, (4, .ofNat 1, .ofNat 1)))], [], [(2, 2, (6, .ofNat 1, .ofNat 0), (1, .ofNat 1, .ofNat 0), (0, .ofNat 0, .ofNat 0)), (0, 149, (4, .ofNat 1, .ofNat 0), (6, .ofNat 1, .ofNat 0), (0, .ofNat 0, .ofNat 0)), (2, 2, (4, .ofNat 1, .ofNat 0), (5, .ofNat 1, .ofNat 0), (0, .ofNat 0, .ofNat 0)), (0, 122, (0, .ofNat 0, .ofNat 43), (5, .ofNat 1, .ofNat 0), (0, .ofNat 0, .ofNat 0))], [(1, [(.negSucc 2147483646, .ofNat 2147483647)]), (2, [(.ofNat 0, .ofNat 1)]), (4, [(.ofNat 0, .ofNat 30)]), (5, [(.ofNat 1, .ofNat 40)]), (6, [(.negSucc 2147483647, .ofNat 2147483646)])], [], []),
  (52, [(0, .inr (.inl [122])), (1, .inl (false, (1, .ofNat 1, .ofNat 0))), (2, .inl (false, (2, .ofNat 1, .ofNat 0))), (3, .inl (false, (3, .ofNat 1, .ofNat 0))), (4, .inl (false, (4, .ofNat 1, .ofNat 0)))], [], [(2, 1, (6, .ofNat 1, .ofNat 0), (1, .ofNat 1, .ofNat 0), (0, .ofNat 0, .ofNat 0)), (0, 149, (4, .ofNat 1, .ofNat 0), (6, .ofNat 1, .ofNat 0), (0, .ofNat 0, .ofNat 0)), (2, 3, (6, .ofNat 1, .ofNat 0), (1, .ofNat 1, .ofNat 0), (0, .ofNat 0, .ofNat 0)), (0, 149, (4, .ofNat 1, .ofNat 0), (6, .ofNat 1, .ofNat 0), (0, .ofNat 0, .ofNat 0)), (2, 2, (4, .ofNat 1, .ofNat 0), (5, .ofNat 1, .ofNat 0), (0, .ofNat 0, .ofNat 0)), (0, 122, (0, .ofNat 0, .ofNat 43), (5, .ofNat 1, .ofNat 0), (0, .ofNat 0, .ofNat 0))], [(2, [(.ofNat 0, .ofNat 1)]), (4, [(.ofNat 0, .ofNat 30)]), (5, [(.ofNat 1, .ofNat 40)])], [], []),
  (52, [(0, .inr (.inl [122])), (1, .inl (false, (1, .ofNat 1, .ofNat 0))), (2, .inl (false, (2, .ofNat 1, .ofNat 0))), (3, .inl (false, (3, .ofNat 1, .ofNat 0))), (4, .inl (false, (4, .ofNat 1, .ofNat 0)))], [], [(2, 3, (7, .ofNat 1, .ofNat 0), (2, .ofNat 1, .ofNat 0), (0, .ofNat 0, .ofNat 0)), (0, 150, (4, .ofNat 1, .ofNat 0), (7, .ofNat 1, .ofNat 0), (0, .ofNat 0, .ofNat 0)), (2, 0, (6, .ofNat 1, .ofNat 0), (1, .ofNat 1, .ofNat 0), (0, .ofNat 0, .ofNat 0)), (0, 149, (4, .ofNat 1, .ofNat 0), (6, .ofNat 1, .ofNat 0), (0, .ofNat 0, .ofNat 0)), (2, 3, (6, .ofNat 1, .ofNat 0), (1, .ofNat 1, .ofNat 0), (0, .ofNat 0, .ofNat 0)), (0, 149, (4, .ofNat 1, .ofNat 0), (6, .ofNat 1, .ofNat 0), (0, .ofNat 0, .ofNat 0)), (2, 2, (4, .ofNat 1, .ofNat 0), (5, .ofNat 1, .ofNat 0), (0, .ofNat 0, .ofNat 0)), (0, 122, (0, .ofNat 0, .ofNat 43), (5, .ofNat 1, .ofNat 0), (0, .ofNat 0, .ofNat 0))], [(2, [(.ofNat 0, .ofNat 1)]), (4, [(.ofNat 0, .ofNat 30)]), (5, [(.ofNat 1, .ofNat 40)]), (7, [(.ofNat 0, .ofNat 2147483647)])], [], []),
  (4, [(0, .inr (.inl [122])), (1, .inl (false, (1, .ofNat 1, .ofNat 0))), (2, .inl (false, (2, .ofNat 1, .ofNat 0))), (3, .inl (false, (3, .ofNat 1, .ofNat 0))), (4, .inl (false, (4, .ofNat 1, .ofNat 1)))], [], [(2, 2, (7, .ofNat 1, .ofNat 0), (2, .ofNat 1, .ofNat 0), (0, .ofNat 0, .ofNat 0)), (0, 150, (4, .ofNat 1, .ofNat 0), (7, .ofNat 1, .ofNat 0), (0, .ofNat 0, .ofNat 0)), (2, 0, (6, .ofNat 1, .ofNat 0), (1, .ofNat 1, .ofNat 0), (0, .ofNat 0, .ofNat 0)), (0, 149, (4, .ofNat 1, .ofNat 0), (6, .ofNat 1, .ofNat 0), (0, .ofNat 0, .ofNat 0)), (2, 3, (6, .ofNat 1, .ofNat 0), (1, .ofNat 1, .ofNat 0), (0, .ofNat 0, .ofNat 0)), (0, 149, (4, .ofNat 1, .ofNat 0), (6, .ofNat 1, .ofNat 0), (0, .ofNat 0, .ofNat 0)), (2, 2, (4, .ofNat 1, .ofNat 0), (5, .ofNat 1, .ofNat 0), (0, .ofNat 0, .ofNat 0)), (0, 122, (0, .ofNat 0, .ofNat 43), (5, .ofNat 1, .ofNat 0), (0, .ofNat 0, .ofNat 0))], [(2, [(.ofNat 0, .ofNat 1)]), (4, [(.ofNat 0, .ofNat 30)]), (5, [(.ofNat 1, .ofNat 40)]), (7, [(.negSucc 2147483647, .ofNat 0)])], [], [])]
set_option maxRecDepth 1000000 in
theorem sg_cm_b_g : sg_go [] [3, 51] 3000 230 3 0 5 [(0, [(.ofNat 0, .ofNat 0)]), (1, [(.negSucc 2147483647, .ofNat 2147483647)]), (2, [(.ofNat 0, .ofNat 1)]), (3, [(.negSucc 2147483647, .ofNat 2147483647)]), (4, [(.ofNat 0, .ofNat 30)])] [] [] [] [(0, .inr (.inl [122])), (1, .inl (false, (1, .ofNat 1, .ofNat 0))), (2, .inl (false, (2, .ofNat 1, .ofNat 0))), (3, .inl (false, (3, .ofNat 1, .ofNat 0))), (4, .inl (false, (4, .ofNat 1, .ofNat 0)))] [] [] sg_cm_b_Z = true := by decide +kernel
set_option maxRecDepth 100000 in
theorem sg_cm_b {Q : Option Value × am_S → Prop} {d : Nat} {S : am_S} {L : am_L} {x1 x2 x3 x4 : Int} (hd : 0 ≤ d) (hP : ax_P0 none S) (l0 : lc L 0 122) (l1 : li L 1 x1) (l2 : li L 2 x2) (l3 : li L 3 x3) (l4 : li L 4 x4) (b1 : ((-2147483648) ≤ x1 ∧ x1 ≤ 2147483647)) (b2 : (0 ≤ x2 ∧ x2 ≤ 1)) (b3 : ((-2147483648) ≤ x3 ∧ x3 ≤ 2147483647)) (b4 : (0 ≤ x4 ∧ x4 ≤ 30))
    (k0 : ∀ (x5 : Int) (L' : am_L), rd S 122 43 = x5 → x5 ≤ x4 → (0 ≤ x2 ∧ x2 ≤ 1) → (0 ≤ x4 ∧ x4 ≤ 30) → (0 ≤ x5 ∧ x5 ≤ 30) → lc L' 0 122 → li L' 1 x1 → li L' 2 x2 → li L' 3 x3 → li L' 4 x4 → am_V none d 230 51 L' ([]) S Q)
    (k1 : ∀ (x5 x6 : Int) (L' : am_L), rd S 122 43 = x5 → x4 < x5 → rd S 149 x4 = x6 → x6 < x1 → ((-2147483647) ≤ x1 ∧ x1 ≤ 2147483647) → (0 ≤ x2 ∧ x2 ≤ 1) → (0 ≤ x4 ∧ x4 ≤ 30) → (1 ≤ x5 ∧ x5 ≤ 40) → ((-2147483648) ≤ x6 ∧ x6 ≤ 2147483646) → lc L' 0 122 → li L' 1 x1 → li L' 2 x2 → li L' 3 x3 → li L' 4 (x4 + 1) → am_V none d 230 3 L' ([]) S Q)
    (k2 : ∀ (x5 x6 : Int) (L' : am_L), rd S 122 43 = x5 → x4 < x5 → rd S 149 x4 = x6 → x1 ≤ x6 → x6 ≠ x1 → (0 ≤ x2 ∧ x2 ≤ 1) → (0 ≤ x4 ∧ x4 ≤ 30) → (1 ≤ x5 ∧ x5 ≤ 40) → lc L' 0 122 → li L' 1 x1 → li L' 2 x2 → li L' 3 x3 → li L' 4 x4 → am_V none d 230 51 L' ([]) S Q)
    (k3 : ∀ (x5 x6 x7 : Int) (L' : am_L), rd S 122 43 = x5 → x4 < x5 → rd S 149 x4 = x6 → x1 ≤ x6 → x6 = x1 → rd S 150 x4 = x7 → x2 ≤ x7 → (0 ≤ x2 ∧ x2 ≤ 1) → (0 ≤ x4 ∧ x4 ≤ 30) → (1 ≤ x5 ∧ x5 ≤ 40) → (0 ≤ x7 ∧ x7 ≤ 2147483647) → lc L' 0 122 → li L' 1 x1 → li L' 2 x2 → li L' 3 x3 → li L' 4 x4 → am_V none d 230 51 L' ([]) S Q)
    (k4 : ∀ (x5 x6 x7 : Int) (L' : am_L), rd S 122 43 = x5 → x4 < x5 → rd S 149 x4 = x6 → x1 ≤ x6 → x6 = x1 → rd S 150 x4 = x7 → x7 < x2 → (0 ≤ x2 ∧ x2 ≤ 1) → (0 ≤ x4 ∧ x4 ≤ 30) → (1 ≤ x5 ∧ x5 ≤ 40) → ((-2147483648) ≤ x7 ∧ x7 ≤ 0) → lc L' 0 122 → li L' 1 x1 → li L' 2 x2 → li L' 3 x3 → li L' 4 (x4 + 1) → am_V none d 230 3 L' ([]) S Q) : am_V none d 230 3 L ([]) S Q := by
  refine sg_use sg_cm_b_g hd hP (sg_xs [0, x1, x2, x3, x4]) ⟨⟨Int.le_refl 0, Int.le_refl 0⟩, b1, b2, b3, b4, trivial⟩ trivial trivial trivial ⟨l0, l1, l2, l3, l4, trivial⟩ trivial ?_
  intro z hz x' L' st' S' hx hP' hW hL' hs' hJ hE' hT' hD'
  have q1 : x' 1 = x1 := hx 1 (by decide)
  subst q1
  have q2 : x' 2 = x2 := hx 2 (by decide)
  subst q2
  have q3 : x' 3 = x3 := hx 3 (by decide)
  subst q3
  have q4 : x' 4 = x4 := hx 4 (by decide)
  subst q4
  have eS : S' = S := hW.1 rfl
  subst eS
  simp only [sg_cm_b_Z, List.mem_cons, List.not_mem_nil, or_false] at hz
  rcases hz with rfl | rfl | rfl | rfl | rfl
  · obtain ⟨f0, f1, hσ⟩ := hJ
    obtain ⟨e0, e1, e2, -⟩ := hE'
    obtain ⟨p0, p1, p2, p3, p4, -⟩ := hL'
    obtain rfl := sg_tn hs'
    exact k0 (x' 5) L' f0 f1 e0 e1 e2 p0 p1 p2 p3 p4
  · obtain ⟨f0, f1, f2, f3, hσ⟩ := hJ
    obtain ⟨e0, e1, e2, e3, e4, -⟩ := hE'
    obtain ⟨p0, p1, p2, p3, p4, -⟩ := hL'
    obtain rfl := sg_tn hs'
    exact k1 (x' 5) (x' 6) L' f0 f1 f2 f3 e0 e1 e2 e3 e4 p0 p1 p2 p3 p4
  · obtain ⟨f0, f1, f2, f3, -, f5, hσ⟩ := hJ
    obtain ⟨e0, e1, e2, -⟩ := hE'
    obtain ⟨p0, p1, p2, p3, p4, -⟩ := hL'
    obtain rfl := sg_tn hs'
    exact k2 (x' 5) (x' 6) L' f0 f1 f2 f3 f5 e0 e1 e2 p0 p1 p2 p3 p4
  · obtain ⟨f0, f1, f2, f3, -, f5, f6, f7, hσ⟩ := hJ
    obtain ⟨e0, e1, e2, e3, -⟩ := hE'
    obtain ⟨p0, p1, p2, p3, p4, -⟩ := hL'
    obtain rfl := sg_tn hs'
    exact k3 (x' 5) (x' 6) (x' 7) L' f0 f1 f2 f3 f5 f6 f7 e0 e1 e2 e3 p0 p1 p2 p3 p4
  · obtain ⟨f0, f1, f2, f3, -, f5, f6, f7, hσ⟩ := hJ
    obtain ⟨e0, e1, e2, e3, -⟩ := hE'
    obtain ⟨p0, p1, p2, p3, p4, -⟩ := hL'
    obtain rfl := sg_tn hs'
    exact k4 (x' 5) (x' 6) (x' 7) L' f0 f1 f2 f3 f5 f6 f7 e0 e1 e2 e3 p0 p1 p2 p3 p4
def sg_cm_c_Z : List sg_z := [(101, [(0, .inr (.inl [122])), (1, .inl (false, (1, .ofNat 1, .ofNat 0))), (2, .inl (false, (2, .ofNat 1, .ofNat 0))), (3, .inl (false, (3, .ofNat 1, .ofNat 0))), (4, .inl (false, (4, .ofNat 1, .ofNat 0))), (5, .inl (false, (5, .ofNat 1, .ofNat 0)))], [], [(0, 122, (0, .ofNat 0, .ofNat 43), (5, .ofNat 1, .ofNat 0), (0, .ofNat 0, .ofNat 0)), (2, 3, (4, .ofNat 1, .ofNat 0), (5, .ofNat 1, .ofNat 0), (0, .ofNat 0, .ofNat 0)), (0, 122, (0, .ofNat 0, .ofNat 43), (5, .ofNat 1, .ofNat 0), (0, .ofNat 0, .ofNat 0))], [(2, [(.ofNat 0, .ofNat 1)]), (4, [(.ofNat 0, .ofNat 30)]), (5, [(.ofNat 0, .ofNat 30)])], [], []),
  (101, [(0, .inr (.inl [122])), (1, .inl (false, (1, .ofNat 1, .ofNat 0))), (2, .inl (false, (2, .ofNat 1, .ofNat 0))), (3, .inl (false, (3, .ofNat 1, .ofNat 0))), (4, .inl (false, (4, .ofNat 1, .ofNat 0))), (5, .inl (false, (5, .ofNat 1, .ofNat 0)))], [], [(0, 122, (0, .ofNat 0, .ofNat 43), (5, .ofNat 1, .ofNat 0), (0, .ofNat 0, .ofNat 0)), (2, 1, (6, .ofNat 1, .ofNat 0), (1, .ofNat 1, .ofNat 0), (0, .ofNat 0, .ofNat 0)), (0, 149, (4, .ofNat 1, .ofNat 0), (6, .ofNat 1, .ofNat 0), (0, .ofNat 0, .ofNat 0)), (2, 2, (4, .ofNat 1, .ofNat 0), (5, .ofNat 1, .ofNat 0), (0, .ofNat 0, .ofNat 0)), (0, 122, (0, .ofNat 0, .ofNat 43), (5, .ofNat 1, .ofNat 0), (0, .ofNat 0, .ofNat 0))], [(2, [(.ofNat 0, .ofNat 1)]), (4, [(.ofNat 0, .ofNat 30)]), (5, [(.ofNat 1, .ofNat 40)])], [], []),
  (101, [(0, .inr (.inl [122])), (1, .inl (false, (1, .ofNat 1, .ofNat 0))), (2, .inl (false, (2, .ofNat 1, .ofNat 0))), (3, .inl (false, (3, .ofNat 1, .ofNat 0))), (4, .inl (false, (4, .ofNat 1, .ofNat 0))), (5, .inl (false, (5, .ofNat 1, .ofNat 0)))], [], [(0, 122, (0, .ofNat 0, .ofNat 43), (5, .ofNat 1, .ofNat 0), (0, .ofNat 0, .ofNat 0)), (2, 1, (7, .ofNat 1, .ofNat 0), (2, .ofNat 1, .ofNat 0), (0, .ofNat 0, .ofNat 0)), (0, 150, (4, .ofNat 1, .ofNat 0), (7, .ofNat 1, .ofNat 0), (0, .ofNat 0, .ofNat 0)), (2, 0, (6, .ofNat 1, .ofNat 0), (1, .ofNat 1, .ofNat 0), (0, .ofNat 0, .ofNat 0)), (0, 149, (4, .ofNat 1, .ofNat 0), (6, .ofNat 1, .ofNat 0), (0, .ofNat 0, .ofNat 0)), (2, 2, (4, .ofNat 1, .ofNat 0), (5, .ofNat 1, .ofNat 0), (0, .ofNat 0, .ofNat 0)), (0, 122, (0, .ofNat 0, .ofNat 43), (5, .ofNat 1, .ofNat 0), (0, .ofNat 0, .ofNat 0))], [(2, [(.ofNat 0, .ofNat 1)]), (4, [(.ofNat 0, .ofNat 30)]), (5, [(.ofNat 1, .ofNat 40)])], [], []),
  (0, [], [], [(1, 151, (4, .ofNat 1, .ofNat 0), (9, .ofNat 1, .ofNat 0), (0, .ofNat 0, .ofNat 0)), (3, 9, (8, .ofNat 1, .ofNat 0), (3, .ofNat 1, .ofNat 0), (9, .ofNat 1, .ofNat 0)), (0, 151, (4, .ofNat 1, .ofNat 0), (8, .ofNat 1, .ofNat 0), (0, .ofNat 0, .ofNat 0)), (2, 0, (7, .ofNat 1, .ofNat 0), (2, .ofNat 1, .ofNat 0), (0, .ofNat 0, .ofNat 0)), (0, 150, (4, .ofNat 1, .ofNat 0), (7, .ofNat 1, .ofNat 0), (0, .ofNat 0, .ofNat 0)), (2, 0, (6, .ofNat 1, .ofNat 0), (1, .ofNat 1, .ofNat 0), (0, .ofNat 0, .ofNat 0)), (0, 149, (4, .ofNat 1, .ofNat 0), (6, .ofNat 1, .ofNat 0), (0, .ofNat 0, .ofNat 0)), (2, 2, (4, .ofNat 1, .ofNat 0), (5, .ofNat 1, .ofNat 0), (0, .ofNat 0, .ofNat 0)), (0, 122, (0, .ofNat 0, .ofNat 43), (5, .ofNat 1, .ofNat 0), (0, .ofNat 0, .ofNat 0))], [(2, [(.ofNat 0, .ofNat 1)]), (4, [(.ofNat 0, .ofNat 30)]), (5, [(.ofNat 1, .ofNat 40)]), (7, [(.ofNat 0, .ofNat 1)])], [], [])]
set_option maxRecDepth 1000000 in
theorem sg_cm_c_g : sg_go [] [100] 3000 230 51 0 5 [(0, [(.ofNat 0, .ofNat 0)]), (1, [(.negSucc 2147483647, .ofNat 2147483647)]), (2, [(.ofNat 0, .ofNat 1)]), (3, [(.negSucc 2147483647, .ofNat 2147483647)]), (4, [(.ofNat 0, .ofNat 30)])] [] [] [] [(0, .inr (.inl [122])), (1, .inl (false, (1, .ofNat 1, .ofNat 0))), (2, .inl (false, (2, .ofNat 1, .ofNat 0))), (3, .inl (false, (3, .ofNat 1, .ofNat 0))), (4, .inl (false, (4, .ofNat 1, .ofNat 0)))] [] [(151, none)] sg_cm_c_Z = true := by decide +kernel
set_option maxRecDepth 100000 in
theorem sg_cm_c {Q : Option Value × am_S → Prop} {d : Nat} {S : am_S} {L : am_L} {x1 x2 x3 x4 : Int} (hd : 0 ≤ d) (hP : ax_P0 none S) (l0 : lc L 0 122) (l1 : li L 1 x1) (l2 : li L 2 x2) (l3 : li L 3 x3) (l4 : li L 4 x4) (b1 : ((-2147483648) ≤ x1 ∧ x1 ≤ 2147483647)) (b2 : (0 ≤ x2 ∧ x2 ≤ 1)) (b3 : ((-2147483648) ≤ x3 ∧ x3 ≤ 2147483647)) (b4 : (0 ≤ x4 ∧ x4 ≤ 30))
    (k0 : ∀ (x5 : Int) (L' : am_L) (S' : am_S), ax_P0 none S' → rd S' = rd S → rd S 122 43 = x5 → x5 ≤ x4 → (0 ≤ x2 ∧ x2 ≤ 1) → (0 ≤ x4 ∧ x4 ≤ 30) → (0 ≤ x5 ∧ x5 ≤ 30) → lc L' 0 122 → li L' 1 x1 → li L' 2 x2 → li L' 3 x3 → li L' 4 x4 → li L' 5 x5 → am_V none d 230 100 L' ([]) S' Q)
    (k1 : ∀ (x5 x6 : Int) (L' : am_L) (S' : am_S), ax_P0 none S' → rd S' = rd S → rd S 122 43 = x5 → x4 < x5 → rd S 149 x4 = x6 → x6 ≠ x1 → (0 ≤ x2 ∧ x2 ≤ 1) → (0 ≤ x4 ∧ x4 ≤ 30) → (1 ≤ x5 ∧ x5 ≤ 40) → lc L' 0 122 → li L' 1 x1 → li L' 2 x2 → li L' 3 x3 → li L' 4 x4 → li L' 5 x5 → am_V none d 230 100 L' ([]) S' Q)
    (k2 : ∀ (x5 x6 x7 : Int) (L' : am_L) (S' : am_S), ax_P0 none S' → rd S' = rd S → rd S 122 43 = x5 → x4 < x5 → rd S 149 x4 = x6 → x6 = x1 → rd S 150 x4 = x7 → x7 ≠ x2 → (0 ≤ x2 ∧ x2 ≤ 1) → (0 ≤ x4 ∧ x4 ≤ 30) → (1 ≤ x5 ∧ x5 ≤ 40) → lc L' 0 122 → li L' 1 x1 → li L' 2 x2 → li L' 3 x3 → li L' 4 x4 → li L' 5 x5 → am_V none d 230 100 L' ([]) S' Q)
    (k3 : ∀ (x5 x6 x7 x8 x9 : Int) (S' : am_S), ax_P0 none S' → rd S' = sg_up (rd S) 151 x4 x9 → rd S 122 43 = x5 → x4 < x5 → rd S 149 x4 = x6 → x6 = x1 → rd S 150 x4 = x7 → x7 = x2 → rd S 151 x4 = x8 → (∃ a b : Int32, a.toInt = x8 ∧ b.toInt = x3 ∧ (a + b).toInt = x9) → (0 ≤ x2 ∧ x2 ≤ 1) → (0 ≤ x4 ∧ x4 ≤ 30) → (1 ≤ x5 ∧ x5 ≤ 40) → (0 ≤ x7 ∧ x7 ≤ 1) → Q (none, S')) : am_V none d 230 51 L ([]) S Q := by
  refine sg_use sg_cm_c_g hd hP (sg_xs [0, x1, x2, x3, x4]) ⟨⟨Int.le_refl 0, Int.le_refl 0⟩, b1, b2, b3, b4, trivial⟩ trivial trivial trivial ⟨l0, l1, l2, l3, l4, trivial⟩ trivial ?_
  intro z hz x' L' st' S' hx hP' hW hL' hs' hJ hE' hT' hD'
  have q1 : x' 1 = x1 := hx 1 (by decide)
  subst q1
  have q2 : x' 2 = x2 := hx 2 (by decide)
  subst q2
  have q3 : x' 3 = x3 := hx 3 (by decide)
  subst q3
  have q4 : x' 4 = x4 := hx 4 (by decide)
  subst q4
  simp only [sg_cm_c_Z, List.mem_cons, List.not_mem_nil, or_false] at hz
  rcases hz with rfl | rfl | rfl | rfl
  · obtain ⟨f0, f1, -, hσ⟩ := hJ
    obtain ⟨e0, e1, e2, -⟩ := hE'
    obtain ⟨p0, p1, p2, p3, p4, p5, -⟩ := hL'
    obtain rfl := sg_tn hs'
    exact k0 (x' 5) L' S' hP' hσ f0 f1 e0 e1 e2 p0 p1 p2 p3 p4 p5
  · obtain ⟨f0, f1, f2, f3, -, hσ⟩ := hJ
    obtain ⟨e0, e1, e2, -⟩ := hE'
    obtain ⟨p0, p1, p2, p3, p4, p5, -⟩ := hL'
    obtain rfl := sg_tn hs'
    exact k1 (x' 5) (x' 6) L' S' hP' hσ f0 f1 f2 f3 e0 e1 e2 p0 p1 p2 p3 p4 p5
  · obtain ⟨f0, f1, f2, f3, f4, f5, -, hσ⟩ := hJ
    obtain ⟨e0, e1, e2, -⟩ := hE'
    obtain ⟨p0, p1, p2, p3, p4, p5, -⟩ := hL'
    obtain rfl := sg_tn hs'
    exact k2 (x' 5) (x' 6) (x' 7) L' S' hP' hσ f0 f1 f2 f3 f4 f5 e0 e1 e2 p0 p1 p2 p3 p4 p5
  · obtain ⟨f0, f1, f2, f3, f4, f5, f6, f7, hσ⟩ := hJ
    obtain ⟨e0, e1, e2, e3, -⟩ := hE'
    intro v hv
    subst hv
    cases v with
    | some _ => exact hs'.elim
    | none =>
      exact k3 (x' 5) (x' 6) (x' 7) (x' 8) (x' 9) S' hP' hσ f0 f1 f2 f3 f4 f5 f6 f7 e0 e1 e2 e3
def sg_cm_d_Z : List sg_z := [(0, [], [], [(1, 122, (0, .ofNat 0, .ofNat 43), (6, .ofNat 1, .ofNat 1), (0, .ofNat 0, .ofNat 0)), (0, 122, (0, .ofNat 0, .ofNat 43), (6, .ofNat 1, .ofNat 0), (0, .ofNat 0, .ofNat 0)), (1, 151, (4, .ofNat 1, .ofNat 0), (3, .ofNat 1, .ofNat 0), (0, .ofNat 0, .ofNat 0)), (1, 150, (4, .ofNat 1, .ofNat 0), (2, .ofNat 1, .ofNat 0), (0, .ofNat 0, .ofNat 0)), (1, 149, (4, .ofNat 1, .ofNat 0), (1, .ofNat 1, .ofNat 0), (0, .ofNat 0, .ofNat 0)), (2, 5, (5, .ofNat 1, .ofNat 0), (4, .ofNat 1, .ofNat 0), (0, .ofNat 0, .ofNat 0))], [(2, [(.ofNat 0, .ofNat 1)]), (4, [(.ofNat 0, .ofNat 29)]), (5, [(.ofNat 0, .ofNat 29)]), (6, [(.ofNat 0, .ofNat 29)])], [], []),
  (101, [(0, .inr (.inl [122])), (1, .inl (false, (1, .ofNat 1, .ofNat 0))), (2, .inl (false, (2, .ofNat 1, .ofNat 0))), (3, .inl (false, (3, .ofNat 1, .ofNat 0))), (4, .inl (false, (4, .ofNat 1, .ofNat 0))), (5, .inl (false, (5, .ofNat 1, .negSucc 0)))], [], [(1, 151, (5, .ofNat 1, .ofNat 0), (9, .ofNat 1, .ofNat 0), (0, .ofNat 0, .ofNat 0)), (0, 151, (5, .ofNat 1, .negSucc 0), (9, .ofNat 1, .ofNat 0), (0, .ofNat 0, .ofNat 0)), (1, 150, (5, .ofNat 1, .ofNat 0), (8, .ofNat 1, .ofNat 0), (0, .ofNat 0, .ofNat 0)), (0, 150, (5, .ofNat 1, .negSucc 0), (8, .ofNat 1, .ofNat 0), (0, .ofNat 0, .ofNat 0)), (1, 149, (5, .ofNat 1, .ofNat 0), (7, .ofNat 1, .ofNat 0), (0, .ofNat 0, .ofNat 0)), (0, 149, (5, .ofNat 1, .negSucc 0), (7, .ofNat 1, .ofNat 0), (0, .ofNat 0, .ofNat 0)), (2, 4, (5, .ofNat 1, .ofNat 0), (4, .ofNat 1, .ofNat 0), (0, .ofNat 0, .ofNat 0))], [(2, [(.ofNat 0, .ofNat 1)]), (4, [(.ofNat 0, .ofNat 28)]), (5, [(.ofNat 1, .ofNat 29)]), (6, [(.ofNat 0, .ofNat 29)])], [], [])]
set_option maxRecDepth 1000000 in
theorem sg_cm_d_g : sg_go [] [100] 3000 230 100 0 7 [(0, [(.ofNat 0, .ofNat 0)]), (1, [(.negSucc 2147483647, .ofNat 2147483647)]), (2, [(.ofNat 0, .ofNat 1)]), (3, [(.negSucc 2147483647, .ofNat 2147483647)]), (4, [(.ofNat 0, .ofNat 29)]), (5, [(.ofNat 0, .ofNat 29)]), (6, [(.ofNat 0, .ofNat 29)])] [(122, (0, .ofNat 0, .ofNat 43), (6, .ofNat 1, .ofNat 0))] [] [] [(0, .inr (.inl [122])), (1, .inl (false, (1, .ofNat 1, .ofNat 0))), (2, .inl (false, (2, .ofNat 1, .ofNat 0))), (3, .inl (false, (3, .ofNat 1, .ofNat 0))), (4, .inl (false, (4, .ofNat 1, .ofNat 0))), (5, .inl (false, (5, .ofNat 1, .ofNat 0)))] [] [(122, some 43), (149, none), (150, none), (151, none)] sg_cm_d_Z = true := by decide +kernel
set_option maxRecDepth 100000 in
theorem sg_cm_d {Q : Option Value × am_S → Prop} {d : Nat} {S : am_S} {L : am_L} {x1 x2 x3 x4 x5 x6 : Int} (hd : 0 ≤ d) (hP : ax_P0 none S) (l0 : lc L 0 122) (l1 : li L 1 x1) (l2 : li L 2 x2) (l3 : li L 3 x3) (l4 : li L 4 x4) (l5 : li L 5 x5) (b1 : ((-2147483648) ≤ x1 ∧ x1 ≤ 2147483647)) (b2 : (0 ≤ x2 ∧ x2 ≤ 1)) (b3 : ((-2147483648) ≤ x3 ∧ x3 ≤ 2147483647)) (b4 : (0 ≤ x4 ∧ x4 ≤ 29)) (b5 : (0 ≤ x5 ∧ x5 ≤ 29)) (b6 : (0 ≤ x6 ∧ x6 ≤ 29)) (m122_43 : rd S 122 43 = x6)
    (k0 : ∀ (S' : am_S), ax_P0 none S' → rd S' = sg_up (sg_up (sg_up (sg_up (rd S) 149 x4 x1) 150 x4 x2) 151 x4 x3) 122 43 (x6 + 1) → x5 ≤ x4 → (sg_up (sg_up (sg_up (rd S) 149 x4 x1) 150 x4 x2) 151 x4 x3) 122 43 = x6 → (0 ≤ x2 ∧ x2 ≤ 1) → (0 ≤ x4 ∧ x4 ≤ 29) → (0 ≤ x5 ∧ x5 ≤ 29) → (0 ≤ x6 ∧ x6 ≤ 29) → Q (none, S'))
    (k1 : ∀ (x7 x8 x9 : Int) (L' : am_L) (S' : am_S), ax_P0 none S' → rd S' = sg_up (sg_up (sg_up (rd S) 149 x5 x7) 150 x5 x8) 151 x5 x9 → x4 < x5 → rd S 149 (x5 + (-1)) = x7 → (sg_up (rd S) 149 x5 x7) 150 (x5 + (-1)) = x8 → (sg_up (sg_up (rd S) 149 x5 x7) 150 x5 x8) 151 (x5 + (-1)) = x9 → (0 ≤ x2 ∧ x2 ≤ 1) → (0 ≤ x4 ∧ x4 ≤ 28) → (1 ≤ x5 ∧ x5 ≤ 29) → (0 ≤ x6 ∧ x6 ≤ 29) → lc L' 0 122 → li L' 1 x1 → li L' 2 x2 → li L' 3 x3 → li L' 4 x4 → li L' 5 (x5 + (-1)) → am_V none d 230 100 L' ([]) S' Q) : am_V none d 230 100 L ([]) S Q := by
  refine sg_use sg_cm_d_g hd hP (sg_xs [0, x1, x2, x3, x4, x5, x6]) ⟨⟨Int.le_refl 0, Int.le_refl 0⟩, b1, b2, b3, b4, b5, b6, trivial⟩ ⟨sg_fs hP rfl m122_43, trivial⟩ trivial trivial ⟨l0, l1, l2, l3, l4, l5, trivial⟩ trivial ?_
  intro z hz x' L' st' S' hx hP' hW hL' hs' hJ hE' hT' hD'
  have q1 : x' 1 = x1 := hx 1 (by decide)
  subst q1
  have q2 : x' 2 = x2 := hx 2 (by decide)
  subst q2
  have q3 : x' 3 = x3 := hx 3 (by decide)
  subst q3
  have q4 : x' 4 = x4 := hx 4 (by decide)
  subst q4
  have q5 : x' 5 = x5 := hx 5 (by decide)
  subst q5
  have q6 : x' 6 = x6 := hx 6 (by decide)
  subst q6
  simp only [sg_cm_d_Z, List.mem_cons, List.not_mem_nil, or_false] at hz
  rcases hz with rfl | rfl
  · obtain ⟨f0, f1, hσ⟩ := hJ
    obtain ⟨e0, e1, e2, e3, -⟩ := hE'
    intro v hv
    subst hv
    cases v with
    | some _ => exact hs'.elim
    | none =>
      exact k0 S' hP' hσ f0 f1 e0 e1 e2 e3
  · obtain ⟨f0, f1, f2, f3, hσ⟩ := hJ
    obtain ⟨e0, e1, e2, e3, -⟩ := hE'
    obtain ⟨p0, p1, p2, p3, p4, p5, -⟩ := hL'
    obtain rfl := sg_tn hs'
    exact k1 (x' 7) (x' 8) (x' 9) L' S' hP' hσ f0 f1 f2 f3 e0 e1 e2 e3 p0 p1 p2 p3 p4 p5
def sg_lq_a_Z : List sg_z := [(80, [(0, .inr (.inl [122])), (1, .inl (false, (1, .ofNat 1, .ofNat 0))), (2, .inl (false, (2, .ofNat 1, .ofNat 0))), (3, .inl (false, (0, .ofNat 0, .ofNat 0))), (4, .inl (false, (0, .ofNat 0, .ofNat 0))), (5, .inl (false, (4, .ofNat 1, .ofNat 0))), (6, .inl (false, (3, .negSucc 0, .ofNat 0)))], [], [(0, 125, (1, .ofNat 1, .ofNat 0), (3, .ofNat 1, .ofNat 0), (0, .ofNat 0, .ofNat 0)), (0, 125, (2, .ofNat 1, .ofNat 0), (4, .ofNat 1, .ofNat 0), (0, .ofNat 0, .ofNat 0)), (2, 0, (0, .ofNat 0, .ofNat 0), (0, .ofNat 0, .ofNat 0), (0, .ofNat 0, .ofNat 0)), (2, 4, (3, .ofNat 1, .ofNat 0), (4, .ofNat 1, .ofNat 0), (0, .ofNat 0, .ofNat 0)), (0, 125, (2, .ofNat 1, .ofNat 0), (4, .ofNat 1, .ofNat 0), (0, .ofNat 0, .ofNat 0)), (0, 125, (1, .ofNat 1, .ofNat 0), (3, .ofNat 1, .ofNat 0), (0, .ofNat 0, .ofNat 0)), (2, 1, (3, .ofNat 1, .ofNat 0), (4, .ofNat 1, .ofNat 0), (0, .ofNat 0, .ofNat 0)), (0, 125, (2, .ofNat 1, .ofNat 0), (4, .ofNat 1, .ofNat 0), (0, .ofNat 0, .ofNat 0)), (0, 125, (1, .ofNat 1, .ofNat 0), (3, .ofNat 1, .ofNat 0), (0, .ofNat 0, .ofNat 0)), (1, 122, (0, .ofNat 0, .ofNat 43), (0, .ofNat 0, .ofNat 0), (0, .ofNat 0, .ofNat 0))], [(1, [(.ofNat 0, .ofNat 7)]), (2, [(.ofNat 0, .ofNat 7)]), (3, [(.ofNat 1, .ofNat 9)]), (4, [(.ofNat 0, .ofNat 8)])], [], []),
  (80, [(0, .inr (.inl [122])), (1, .inl (false, (1, .ofNat 1, .ofNat 0))), (2, .inl (false, (2, .ofNat 1, .ofNat 0))), (3, .inl (false, (0, .ofNat 0, .ofNat 0))), (4, .inl (false, (0, .ofNat 0, .ofNat 1))), (5, .inl (false, (3, .ofNat 1, .ofNat 0))), (6, .inl (false, (3, .negSucc 0, .ofNat 0)))], [], [(0, 125, (1, .ofNat 1, .ofNat 0), (3, .ofNat 1, .ofNat 0), (0, .ofNat 0, .ofNat 0)), (0, 125, (1, .ofNat 1, .ofNat 0), (3, .ofNat 1, .ofNat 0), (0, .ofNat 0, .ofNat 0)), (2, 1, (0, .ofNat 0, .ofNat 1), (0, .ofNat 0, .ofNat 0), (0, .ofNat 0, .ofNat 0)), (2, 5, (3, .ofNat 1, .ofNat 0), (4, .ofNat 1, .ofNat 0), (0, .ofNat 0, .ofNat 0)), (0, 125, (2, .ofNat 1, .ofNat 0), (4, .ofNat 1, .ofNat 0), (0, .ofNat 0, .ofNat 0)), (0, 125, (1, .ofNat 1, .ofNat 0), (3, .ofNat 1, .ofNat 0), (0, .ofNat 0, .ofNat 0)), (2, 1, (3, .ofNat 1, .ofNat 0), (4, .ofNat 1, .ofNat 0), (0, .ofNat 0, .ofNat 0)), (0, 125, (2, .ofNat 1, .ofNat 0), (4, .ofNat 1, .ofNat 0), (0, .ofNat 0, .ofNat 0)), (0, 125, (1, .ofNat 1, .ofNat 0), (3, .ofNat 1, .ofNat 0), (0, .ofNat 0, .ofNat 0)), (1, 122, (0, .ofNat 0, .ofNat 43), (0, .ofNat 0, .ofNat 0), (0, .ofNat 0, .ofNat 0))], [(1, [(.ofNat 0, .ofNat 7)]), (2, [(.ofNat 0, .ofNat 7)]), (3, [(.ofNat 0, .ofNat 9)]), (4, [(.ofNat 0, .ofNat 9)])], [], []),
  (80, [(0, .inr (.inl [122])), (1, .inl (false, (1, .ofNat 1, .ofNat 0))), (2, .inl (false, (2, .ofNat 1, .ofNat 0))), (3, .inl (false, (0, .ofNat 0, .ofNat 1))), (4, .inl (false, (0, .ofNat 0, .ofNat 0))), (5, .inl (false, (4, .ofNat 1, .ofNat 0))), (6, .inl (false, (3, .negSucc 0, .ofNat 0)))], [], [(0, 125, (1, .ofNat 1, .ofNat 0), (3, .ofNat 1, .ofNat 0), (0, .ofNat 0, .ofNat 0)), (0, 125, (2, .ofNat 1, .ofNat 0), (4, .ofNat 1, .ofNat 0), (0, .ofNat 0, .ofNat 0)), (2, 0, (0, .ofNat 0, .ofNat 0), (0, .ofNat 0, .ofNat 0), (0, .ofNat 0, .ofNat 0)), (2, 4, (3, .ofNat 1, .ofNat 0), (4, .ofNat 1, .ofNat 0), (0, .ofNat 0, .ofNat 0)), (0, 125, (2, .ofNat 1, .ofNat 0), (4, .ofNat 1, .ofNat 0), (0, .ofNat 0, .ofNat 0)), (0, 125, (1, .ofNat 1, .ofNat 0), (3, .ofNat 1, .ofNat 0), (0, .ofNat 0, .ofNat 0)), (2, 0, (3, .ofNat 1, .ofNat 0), (4, .ofNat 1, .ofNat 0), (0, .ofNat 0, .ofNat 0)), (0, 125, (2, .ofNat 1, .ofNat 0), (4, .ofNat 1, .ofNat 0), (0, .ofNat 0, .ofNat 0)), (0, 125, (1, .ofNat 1, .ofNat 0), (3, .ofNat 1, .ofNat 0), (0, .ofNat 0, .ofNat 0)), (1, 122, (0, .ofNat 0, .ofNat 43), (0, .ofNat 0, .ofNat 0), (0, .ofNat 0, .ofNat 0))], [(1, [(.ofNat 0, .ofNat 7)]), (2, [(.ofNat 0, .ofNat 7)]), (3, [(.ofNat 1, .ofNat 9)]), (4, [(.ofNat 0, .ofNat 8)])], [], []),
  (80, [(0, .inr (.inl [122])), (1, .inl (false, (1, .ofNat 1, .ofNat 0))), (2, .inl (false, (2, .ofNat 1, .ofNat 0))), (3, .inl (false, (0, .ofNat 0, .ofNat 1))), (4, .inl (false, (0, .ofNat 0, .ofNat 1))), (5, .inl (false, (3, .ofNat 1, .ofNat 0))), (6, .inl (false, (3, .negSucc 0, .ofNat 0)))], [], [(0, 125, (1, .ofNat 1, .ofNat 0), (3, .ofNat 1, .ofNat 0), (0, .ofNat 0, .ofNat 0)), (0, 125, (1, .ofNat 1, .ofNat 0), (3, .ofNat 1, .ofNat 0), (0, .ofNat 0, .ofNat 0)), (2, 1, (0, .ofNat 0, .ofNat 1), (0, .ofNat 0, .ofNat 0), (0, .ofNat 0, .ofNat 0)), (2, 5, (3, .ofNat 1, .ofNat 0), (4, .ofNat 1, .ofNat 0), (0, .ofNat 0, .ofNat 0)), (0, 125, (2, .ofNat 1, .ofNat 0), (4, .ofNat 1, .ofNat 0), (0, .ofNat 0, .ofNat 0)), (0, 125, (1, .ofNat 1, .ofNat 0), (3, .ofNat 1, .ofNat 0), (0, .ofNat 0, .ofNat 0)), (2, 0, (3, .ofNat 1, .ofNat 0), (4, .ofNat 1, .ofNat 0), (0, .ofNat 0, .ofNat 0)), (0, 125, (2, .ofNat 1, .ofNat 0), (4, .ofNat 1, .ofNat 0), (0, .ofNat 0, .ofNat 0)), (0, 125, (1, .ofNat 1, .ofNat 0), (3, .ofNat 1, .ofNat 0), (0, .ofNat 0, .ofNat 0)), (1, 122, (0, .ofNat 0, .ofNat 43), (0, .ofNat 0, .ofNat 0), (0, .ofNat 0, .ofNat 0))], [(1, [(.ofNat 0, .ofNat 7)]), (2, [(.ofNat 0, .ofNat 7)]), (3, [(.ofNat 0, .ofNat 9)]), (4, [(.ofNat 0, .ofNat 9)])], [], [])]
set_option maxRecDepth 1000000 in
theorem sg_lq_a_g : sg_go [] [79] 3000 231 0 0 3 [(0, [(.ofNat 0, .ofNat 0)]), (1, [(.ofNat 0, .ofNat 7)]), (2, [(.ofNat 0, .ofNat 7)])] [] [] [] [(0, .inr (.inl [122])), (1, .inl (false, (1, .ofNat 1, .ofNat 0))), (2, .inl (false, (2, .ofNat 1, .ofNat 0)))] [] [(122, some 43)] sg_lq_a_Z = true := by decide +kernel
set_option maxRecDepth 100000 in
theorem sg_lq_a {Q : Option Value × am_S → Prop} {d : Nat} {S : am_S} {L : am_L} {x1 x2 : Int} (hd : 0 ≤ d) (hP : ax_P0 none S) (l0 : lc L 0 122) (l1 : li L 1 x1) (l2 : li L 2 x2) (b1 : (0 ≤ x1 ∧ x1 ≤ 7)) (b2 : (0 ≤ x2 ∧ x2 ≤ 7))
    (k0 : ∀ (x3 x4 : Int) (L' : am_L) (S' : am_S), ax_P0 none S' → rd S' = sg_up (rd S) 122 43 0 → (sg_up (rd S) 122 43 0) 125 x1 = x3 → (sg_up (rd S) 122 43 0) 125 x2 = x4 → x3 ≠ x4 → x4 < x3 → (0 ≤ x1 ∧ x1 ≤ 7) → (0 ≤ x2 ∧ x2 ≤ 7) → (1 ≤ x3 ∧ x3 ≤ 9) → (0 ≤ x4 ∧ x4 ≤ 8) → lc L' 0 122 → li L' 1 x1 → li L' 2 x2 → li L' 3 0 → li L' 4 0 → li L' 5 x4 → li L' 6 ((-1) * x3 + 0) → am_V none d 231 79 L' ([]) S' Q)
    (k1 : ∀ (x3 x4 : Int) (L' : am_L) (S' : am_S), ax_P0 none S' → rd S' = sg_up (rd S) 122 43 0 → (sg_up (rd S) 122 43 0) 125 x1 = x3 → (sg_up (rd S) 122 43 0) 125 x2 = x4 → x3 ≠ x4 → x3 ≤ x4 → (0 ≤ x1 ∧ x1 ≤ 7) → (0 ≤ x2 ∧ x2 ≤ 7) → (0 ≤ x3 ∧ x3 ≤ 9) → (0 ≤ x4 ∧ x4 ≤ 9) → lc L' 0 122 → li L' 1 x1 → li L' 2 x2 → li L' 3 0 → li L' 4 1 → li L' 5 x3 → li L' 6 ((-1) * x3 + 0) → am_V none d 231 79 L' ([]) S' Q)
    (k2 : ∀ (x3 x4 : Int) (L' : am_L) (S' : am_S), ax_P0 none S' → rd S' = sg_up (rd S) 122 43 0 → (sg_up (rd S) 122 43 0) 125 x1 = x3 → (sg_up (rd S) 122 43 0) 125 x2 = x4 → x3 = x4 → x4 < x3 → (0 ≤ x1 ∧ x1 ≤ 7) → (0 ≤ x2 ∧ x2 ≤ 7) → (1 ≤ x3 ∧ x3 ≤ 9) → (0 ≤ x4 ∧ x4 ≤ 8) → lc L' 0 122 → li L' 1 x1 → li L' 2 x2 → li L' 3 1 → li L' 4 0 → li L' 5 x4 → li L' 6 ((-1) * x3 + 0) → am_V none d 231 79 L' ([]) S' Q)
    (k3 : ∀ (x3 x4 : Int) (L' : am_L) (S' : am_S), ax_P0 none S' → rd S' = sg_up (rd S) 122 43 0 → (sg_up (rd S) 122 43 0) 125 x1 = x3 → (sg_up (rd S) 122 43 0) 125 x2 = x4 → x3 = x4 → x3 ≤ x4 → (0 ≤ x1 ∧ x1 ≤ 7) → (0 ≤ x2 ∧ x2 ≤ 7) → (0 ≤ x3 ∧ x3 ≤ 9) → (0 ≤ x4 ∧ x4 ≤ 9) → lc L' 0 122 → li L' 1 x1 → li L' 2 x2 → li L' 3 1 → li L' 4 1 → li L' 5 x3 → li L' 6 ((-1) * x3 + 0) → am_V none d 231 79 L' ([]) S' Q) : am_V none d 231 0 L ([]) S Q := by
  refine sg_use sg_lq_a_g hd hP (sg_xs [0, x1, x2]) ⟨⟨Int.le_refl 0, Int.le_refl 0⟩, b1, b2, trivial⟩ trivial trivial trivial ⟨l0, l1, l2, trivial⟩ trivial ?_
  intro z hz x' L' st' S' hx hP' hW hL' hs' hJ hE' hT' hD'
  have q1 : x' 1 = x1 := hx 1 (by decide)
  subst q1
  have q2 : x' 2 = x2 := hx 2 (by decide)
  subst q2
  simp only [sg_lq_a_Z, List.mem_cons, List.not_mem_nil, or_false] at hz
  rcases hz with rfl | rfl | rfl | rfl
  · obtain ⟨f0, f1, f2, -, -, f5, -, -, -, hσ⟩ := hJ
    obtain ⟨e0, e1, e2, e3, -⟩ := hE'
    obtain ⟨p0, p1, p2, p3, p4, p5, p6, -⟩ := hL'
    obtain rfl := sg_tn hs'
    exact k0 (x' 3) (x' 4) L' S' hP' hσ f0 f1 f2 f5 e0 e1 e2 e3 p0 p1 p2 p3 p4 p5 p6
  · obtain ⟨f0, f1, f2, -, -, f5, -, -, -, hσ⟩ := hJ
    obtain ⟨e0, e1, e2, e3, -⟩ := hE'
    obtain ⟨p0, p1, p2, p3, p4, p5, p6, -⟩ := hL'
    obtain rfl := sg_tn hs'
    exact k1 (x' 3) (x' 4) L' S' hP' hσ f0 f1 f2 f5 e0 e1 e2 e3 p0 p1 p2 p3 p4 p5 p6
  · obtain ⟨f0, f1, f2, -, -, f5, -, -, -, hσ⟩ := hJ
    obtain ⟨e0, e1, e2, e3, -⟩ := hE'
    obtain ⟨p0, p1, p2, p3, p4, p5, p6, -⟩ := hL'
    obtain rfl := sg_tn hs'
    exact k2 (x' 3) (x' 4) L' S' hP' hσ f0 f1 f2 f5 e0 e1 e2 e3 p0 p1 p2 p3 p4 p5 p6
  · obtain ⟨f0, f1, f2, -, -, f5, -, -, -, hσ⟩ := hJ
    obtain ⟨e0, e1, e2, e3, -⟩ := hE'
    obtain ⟨p0, p1, p2, p3, p4, p5, p6, -⟩ := hL'
    obtain rfl := sg_tn hs'
    exact k3 (x' 3) (x' 4) L' S' hP' hσ f0 f1 f2 f5 e0 e1 e2 e3 p0 p1 p2 p3 p4 p5 p6
def sg_lq_b_Z : List sg_z := [(0, [], [], [(2, 4, (6, .ofNat 1, .ofNat 0), (7, .ofNat 1, .ofNat 0), (0, .ofNat 0, .ofNat 0)), (0, 125, (1, .ofNat 1, .ofNat 0), (7, .ofNat 1, .ofNat 0), (0, .ofNat 0, .ofNat 0))], [(1, [(.ofNat 0, .ofNat 7)]), (2, [(.ofNat 0, .ofNat 7)]), (3, [(.ofNat 0, .ofNat 1)]), (4, [(.ofNat 0, .ofNat 1)]), (5, [(.ofNat 0, .ofNat 9)]), (6, [(.ofNat 1, .ofNat 11)]), (7, [(.ofNat 0, .ofNat 9)])], [], []),
  (100, [(0, .inr (.inl [122])), (1, .inl (false, (1, .ofNat 1, .ofNat 0))), (2, .inl (false, (2, .ofNat 1, .ofNat 0))), (3, .inl (false, (3, .ofNat 1, .ofNat 0))), (4, .inl (false, (4, .ofNat 1, .ofNat 0))), (5, .inl (false, (5, .ofNat 1, .ofNat 0))), (6, .inl (false, (6, .ofNat 1, .ofNat 0))), (7, .inl (false, (8, .negSucc 0, .ofNat 0)))], [], [(0, 125, (2, .ofNat 1, .ofNat 0), (8, .ofNat 1, .ofNat 0), (0, .ofNat 0, .ofNat 0)), (2, 5, (6, .ofNat 1, .ofNat 0), (7, .ofNat 1, .ofNat 0), (0, .ofNat 0, .ofNat 0)), (0, 125, (1, .ofNat 1, .ofNat 0), (7, .ofNat 1, .ofNat 0), (0, .ofNat 0, .ofNat 0))], [(1, [(.ofNat 0, .ofNat 7)]), (2, [(.ofNat 0, .ofNat 7)]), (3, [(.ofNat 0, .ofNat 1)]), (4, [(.ofNat 0, .ofNat 1)]), (5, [(.ofNat 0, .ofNat 9)]), (6, [(.negSucc 8, .ofNat 9)]), (7, [(.ofNat 0, .ofNat 9)]), (8, [(.ofNat 0, .ofNat 9)])], [], [])]
set_option maxRecDepth 1000000 in
theorem sg_lq_b_g : sg_go [] [99] 3000 231 79 0 7 [(0, [(.ofNat 0, .ofNat 0)]), (1, [(.ofNat 0, .ofNat 7)]), (2, [(.ofNat 0, .ofNat 7)]), (3, [(.ofNat 0, .ofNat 1)]), (4, [(.ofNat 0, .ofNat 1)]), (5, [(.ofNat 0, .ofNat 9)]), (6, [(.negSucc 8, .ofNat 11)])] [] [] [] [(0, .inr (.inl [122])), (1, .inl (false, (1, .ofNat 1, .ofNat 0))), (2, .inl (false, (2, .ofNat 1, .ofNat 0))), (3, .inl (false, (3, .ofNat 1, .ofNat 0))), (4, .inl (false, (4, .ofNat 1, .ofNat 0))), (5, .inl (false, (5, .ofNat 1, .ofNat 0))), (6, .inl (false, (6, .ofNat 1, .ofNat 0)))] [] [] sg_lq_b_Z = true := by decide +kernel
set_option maxRecDepth 100000 in
theorem sg_lq_b {Q : Option Value × am_S → Prop} {d : Nat} {S : am_S} {L : am_L} {x1 x2 x3 x4 x5 x6 : Int} (hd : 0 ≤ d) (hP : ax_P0 none S) (l0 : lc L 0 122) (l1 : li L 1 x1) (l2 : li L 2 x2) (l3 : li L 3 x3) (l4 : li L 4 x4) (l5 : li L 5 x5) (l6 : li L 6 x6) (b1 : (0 ≤ x1 ∧ x1 ≤ 7)) (b2 : (0 ≤ x2 ∧ x2 ≤ 7)) (b3 : (0 ≤ x3 ∧ x3 ≤ 1)) (b4 : (0 ≤ x4 ∧ x4 ≤ 1)) (b5 : (0 ≤ x5 ∧ x5 ≤ 9)) (b6 : ((-9) ≤ x6 ∧ x6 ≤ 11))
    (k0 : ∀ (x7 : Int), rd S 125 x1 = x7 → x7 < x6 → (0 ≤ x1 ∧ x1 ≤ 7) → (0 ≤ x2 ∧ x2 ≤ 7) → (0 ≤ x3 ∧ x3 ≤ 1) → (0 ≤ x4 ∧ x4 ≤ 1) → (0 ≤ x5 ∧ x5 ≤ 9) → (1 ≤ x6 ∧ x6 ≤ 11) → (0 ≤ x7 ∧ x7 ≤ 9) → Q (none, S))
    (k1 : ∀ (x7 x8 : Int) (L' : am_L), rd S 125 x1 = x7 → x6 ≤ x7 → rd S 125 x2 = x8 → (0 ≤ x1 ∧ x1 ≤ 7) → (0 ≤ x2 ∧ x2 ≤ 7) → (0 ≤ x3 ∧ x3 ≤ 1) → (0 ≤ x4 ∧ x4 ≤ 1) → (0 ≤ x5 ∧ x5 ≤ 9) → ((-9) ≤ x6 ∧ x6 ≤ 9) → (0 ≤ x7 ∧ x7 ≤ 9) → (0 ≤ x8 ∧ x8 ≤ 9) → lc L' 0 122 → li L' 1 x1 → li L' 2 x2 → li L' 3 x3 → li L' 4 x4 → li L' 5 x5 → li L' 6 x6 → li L' 7 ((-1) * x8 + 0) → am_V none d 231 99 L' ([]) S Q) : am_V none d 231 79 L ([]) S Q := by
  refine sg_use sg_lq_b_g hd hP (sg_xs [0, x1, x2, x3, x4, x5, x6]) ⟨⟨Int.le_refl 0, Int.le_refl 0⟩, b1, b2, b3, b4, b5, b6, trivial⟩ trivial trivial trivial ⟨l0, l1, l2, l3, l4, l5, l6, trivial⟩ trivial ?_
  intro z hz x' L' st' S' hx hP' hW hL' hs' hJ hE' hT' hD'
  have q1 : x' 1 = x1 := hx 1 (by decide)
  subst q1
  have q2 : x' 2 = x2 := hx 2 (by decide)
  subst q2
  have q3 : x' 3 = x3 := hx 3 (by decide)
  subst q3
  have q4 : x' 4 = x4 := hx 4 (by decide)
  subst q4
  have q5 : x' 5 = x5 := hx 5 (by decide)
  subst q5
  have q6 : x' 6 = x6 := hx 6 (by decide)
  subst q6
  have eS : S' = S := hW.1 rfl
  subst eS
  simp only [sg_lq_b_Z, List.mem_cons, List.not_mem_nil, or_false] at hz
  rcases hz with rfl | rfl
  · obtain ⟨f0, f1, hσ⟩ := hJ
    obtain ⟨e0, e1, e2, e3, e4, e5, e6, -⟩ := hE'
    intro v hv
    subst hv
    cases v with
    | some _ => exact hs'.elim
    | none =>
      exact k0 (x' 7) f0 f1 e0 e1 e2 e3 e4 e5 e6
  · obtain ⟨f0, f1, f2, hσ⟩ := hJ
    obtain ⟨e0, e1, e2, e3, e4, e5, e6, e7, -⟩ := hE'
    obtain ⟨p0, p1, p2, p3, p4, p5, p6, p7, -⟩ := hL'
    obtain rfl := sg_tn hs'
    exact k1 (x' 7) (x' 8) L' f0 f1 f2 e0 e1 e2 e3 e4 e5 e6 e7 p0 p1 p2 p3 p4 p5 p6 p7
def sg_lq_c_Z : List sg_z := [(80, [(0, .inr (.inl [122])), (1, .inl (false, (1, .ofNat 1, .ofNat 0))), (2, .inl (false, (2, .ofNat 1, .ofNat 0))), (3, .inl (false, (3, .ofNat 1, .ofNat 0))), (4, .inl (false, (4, .ofNat 1, .ofNat 0))), (5, .inl (false, (5, .ofNat 1, .ofNat 0))), (6, .inl (false, (6, .ofNat 1, .ofNat 2))), (7, .inl (false, (7, .ofNat 1, .ofNat 0)))], [], [(2, 4, (7, .ofNat 1, .ofNat 0), (8, .ofNat 1, .ofNat 0), (0, .ofNat 0, .ofNat 0)), (0, 125, (2, .ofNat 1, .ofNat 0), (8, .ofNat 1, .ofNat 0), (0, .ofNat 0, .ofNat 0))], [(1, [(.ofNat 0, .ofNat 7)]), (2, [(.ofNat 0, .ofNat 7)]), (3, [(.ofNat 0, .ofNat 1)]), (4, [(.ofNat 0, .ofNat 1)]), (5, [(.ofNat 0, .ofNat 9)]), (6, [(.negSucc 8, .ofNat 9)]), (7, [(.ofNat 1, .ofNat 11)]), (8, [(.ofNat 0, .ofNat 9)])], [], []),
  (100, [(0, .inr (.inl [122])), (1, .inl (false, (1, .ofNat 1, .ofNat 0))), (2, .inl (false, (2, .ofNat 1, .ofNat 0))), (3, .inl (false, (3, .ofNat 1, .ofNat 0))), (4, .inl (false, (4, .ofNat 1, .ofNat 0))), (5, .inl (false, (5, .ofNat 1, .ofNat 0))), (6, .inl (false, (6, .ofNat 1, .ofNat 0))), (7, .inl (false, (7, .ofNat 1, .ofNat 2)))], [], [(2, 0, (0, .ofNat 0, .ofNat 0), (0, .ofNat 0, .ofNat 0), (0, .ofNat 0, .ofNat 0)), (2, 2, (9, .ofNat 1, .ofNat 0), (0, .ofNat 0, .negSucc 1), (0, .ofNat 0, .ofNat 0)), (2, 5, (7, .ofNat 1, .ofNat 0), (8, .ofNat 1, .ofNat 0), (0, .ofNat 0, .ofNat 0)), (0, 125, (2, .ofNat 1, .ofNat 0), (8, .ofNat 1, .ofNat 0), (0, .ofNat 0, .ofNat 0))], [(1, [(.ofNat 0, .ofNat 7)]), (2, [(.ofNat 0, .ofNat 7)]), (3, [(.ofNat 0, .ofNat 1)]), (4, [(.ofNat 0, .ofNat 1)]), (5, [(.ofNat 0, .ofNat 9)]), (6, [(.negSucc 8, .ofNat 9)]), (7, [(.negSucc 8, .ofNat 9)]), (8, [(.ofNat 0, .ofNat 9)]), (9, [(.negSucc 17, .negSucc 2)])], [((6, .ofNat 1, .ofNat 0), (7, .negSucc 0, .ofNat 0), (9, .ofNat 1, .ofNat 0))], []),
  (100, [(0, .inr (.inl [122])), (1, .inl (false, (1, .ofNat 1, .ofNat 0))), (2, .inl (false, (2, .ofNat 1, .ofNat 0))), (3, .inl (false, (3, .ofNat 1, .ofNat 0))), (4, .inl (false, (4, .ofNat 1, .ofNat 0))), (5, .inl (false, (5, .ofNat 1, .ofNat 0))), (6, .inl (false, (6, .ofNat 1, .ofNat 0))), (7, .inl (false, (7, .ofNat 1, .ofNat 2)))], [], [(2, 0, (0, .ofNat 0, .ofNat 0), (0, .ofNat 0, .ofNat 0), (0, .ofNat 0, .ofNat 0)), (2, 4, (9, .ofNat 1, .ofNat 0), (0, .ofNat 0, .ofNat 2), (0, .ofNat 0, .ofNat 0)), (2, 3, (9, .ofNat 1, .ofNat 0), (0, .ofNat 0, .negSucc 1), (0, .ofNat 0, .ofNat 0)), (2, 5, (7, .ofNat 1, .ofNat 0), (8, .ofNat 1, .ofNat 0), (0, .ofNat 0, .ofNat 0)), (0, 125, (2, .ofNat 1, .ofNat 0), (8, .ofNat 1, .ofNat 0), (0, .ofNat 0, .ofNat 0))], [(1, [(.ofNat 0, .ofNat 7)]), (2, [(.ofNat 0, .ofNat 7)]), (3, [(.ofNat 0, .ofNat 1)]), (4, [(.ofNat 0, .ofNat 1)]), (5, [(.ofNat 0, .ofNat 9)]), (6, [(.negSucc 8, .ofNat 9)]), (7, [(.negSucc 8, .ofNat 9)]), (8, [(.ofNat 0, .ofNat 9)]), (9, [(.ofNat 3, .ofNat 18)])], [((6, .ofNat 1, .ofNat 0), (7, .negSucc 0, .ofNat 0), (9, .ofNat 1, .ofNat 0))], []),
  (156, [(0, .inr (.inl [122])), (1, .inl (false, (1, .ofNat 1, .ofNat 0))), (2, .inl (false, (2, .ofNat 1, .ofNat 0))), (3, .inl (false, (3, .ofNat 1, .ofNat 0))), (4, .inl (false, (0, .ofNat 0, .ofNat 0))), (5, .inl (false, (5, .ofNat 1, .ofNat 0))), (6, .inl (false, (6, .ofNat 1, .ofNat 0))), (7, .inl (false, (7, .ofNat 1, .ofNat 0)))], [.inl (false, (6, .ofNat 1, .ofNat 0)), .inl (false, (7, .ofNat 1, .ofNat 0)), .inl (false, (3, .ofNat 1, .ofNat 0)), .inl (false, (5, .ofNat 1, .ofNat 0))], [(2, 0, (0, .ofNat 0, .ofNat 0), (0, .ofNat 0, .ofNat 0), (0, .ofNat 0, .ofNat 0)), (2, 0, (4, .ofNat 1, .ofNat 0), (0, .ofNat 0, .ofNat 0), (0, .ofNat 0, .ofNat 0)), (2, 1, (0, .ofNat 0, .ofNat 1), (0, .ofNat 0, .ofNat 0), (0, .ofNat 0, .ofNat 0)), (2, 5, (9, .ofNat 1, .ofNat 0), (0, .ofNat 0, .ofNat 2), (0, .ofNat 0, .ofNat 0)), (2, 3, (9, .ofNat 1, .ofNat 0), (0, .ofNat 0, .negSucc 1), (0, .ofNat 0, .ofNat 0)), (2, 5, (7, .ofNat 1, .ofNat 0), (8, .ofNat 1, .ofNat 0), (0, .ofNat 0, .ofNat 0)), (0, 125, (2, .ofNat 1, .ofNat 0), (8, .ofNat 1, .ofNat 0), (0, .ofNat 0, .ofNat 0))], [(1, [(.ofNat 0, .ofNat 7)]), (2, [(.ofNat 0, .ofNat 7)]), (3, [(.ofNat 0, .ofNat 1)]), (4, [(.ofNat 0, .ofNat 0)]), (5, [(.ofNat 0, .ofNat 9)]), (6, [(.negSucc 8, .ofNat 9)]), (7, [(.negSucc 8, .ofNat 9)]), (8, [(.ofNat 0, .ofNat 9)]), (9, [(.negSucc 1, .ofNat 2)])], [((6, .ofNat 1, .ofNat 0), (7, .negSucc 0, .ofNat 0), (9, .ofNat 1, .ofNat 0))], []),
  (156, [(0, .inr (.inl [122])), (1, .inl (false, (1, .ofNat 1, .ofNat 0))), (2, .inl (false, (2, .ofNat 1, .ofNat 0))), (3, .inl (false, (3, .ofNat 1, .ofNat 0))), (4, .inl (false, (0, .ofNat 0, .ofNat 1))), (5, .inl (false, (5, .ofNat 1, .ofNat 0))), (6, .inl (false, (6, .ofNat 1, .ofNat 0))), (7, .inl (false, (7, .ofNat 1, .ofNat 0)))], [.inl (false, (7, .ofNat 1, .ofNat 0)), .inl (false, (6, .ofNat 1, .ofNat 0)), .inl (false, (3, .ofNat 1, .ofNat 0)), .inl (false, (5, .ofNat 1, .ofNat 0))], [(2, 1, (0, .ofNat 0, .ofNat 1), (0, .ofNat 0, .ofNat 0), (0, .ofNat 0, .ofNat 0)), (2, 1, (4, .ofNat 1, .ofNat 0), (0, .ofNat 0, .ofNat 0), (0, .ofNat 0, .ofNat 0)), (2, 1, (0, .ofNat 0, .ofNat 1), (0, .ofNat 0, .ofNat 0), (0, .ofNat 0, .ofNat 0)), (2, 5, (9, .ofNat 1, .ofNat 0), (0, .ofNat 0, .ofNat 2), (0, .ofNat 0, .ofNat 0)), (2, 3, (9, .ofNat 1, .ofNat 0), (0, .ofNat 0, .negSucc 1), (0, .ofNat 0, .ofNat 0)), (2, 5, (7, .ofNat 1, .ofNat 0), (8, .ofNat 1, .ofNat 0), (0, .ofNat 0, .ofNat 0)), (0, 125, (2, .ofNat 1, .ofNat 0), (8, .ofNat 1, .ofNat 0), (0, .ofNat 0, .ofNat 0))], [(1, [(.ofNat 0, .ofNat 7)]), (2, [(.ofNat 0, .ofNat 7)]), (3, [(.ofNat 0, .ofNat 1)]), (4, [(.ofNat 1, .ofNat 1)]), (5, [(.ofNat 0, .ofNat 9)]), (6, [(.negSucc 8, .ofNat 9)]), (7, [(.negSucc 8, .ofNat 9)]), (8, [(.ofNat 0, .ofNat 9)]), (9, [(.negSucc 1, .ofNat 2)])], [((6, .ofNat 1, .ofNat 0), (7, .negSucc 0, .ofNat 0), (9, .ofNat 1, .ofNat 0))], [])]
set_option maxRecDepth 1000000 in
theorem sg_lq_c_g : sg_go [] [155, 99, 79] 3000 231 99 1 8 [(0, [(.ofNat 0, .ofNat 0)]), (1, [(.ofNat 0, .ofNat 7)]), (2, [(.ofNat 0, .ofNat 7)]), (3, [(.ofNat 0, .ofNat 1)]), (4, [(.ofNat 0, .ofNat 1)]), (5, [(.ofNat 0, .ofNat 9)]), (6, [(.negSucc 8, .ofNat 9)]), (7, [(.negSucc 8, .ofNat 11)])] [] [] [] [(0, .inr (.inl [122])), (1, .inl (false, (1, .ofNat 1, .ofNat 0))), (2, .inl (false, (2, .ofNat 1, .ofNat 0))), (3, .inl (false, (3, .ofNat 1, .ofNat 0))), (4, .inl (false, (4, .ofNat 1, .ofNat 0))), (5, .inl (false, (5, .ofNat 1, .ofNat 0))), (6, .inl (false, (6, .ofNat 1, .ofNat 0))), (7, .inl (false, (7, .ofNat 1, .ofNat 0)))] [] [] sg_lq_c_Z = true := by decide +kernel
set_option maxRecDepth 100000 in
theorem sg_lq_c {Q : Option Value × am_S → Prop} {d : Nat} {S : am_S} {L : am_L} {x1 x2 x3 x4 x5 x6 x7 : Int} (hd : 1 ≤ d) (hP : ax_P0 none S) (l0 : lc L 0 122) (l1 : li L 1 x1) (l2 : li L 2 x2) (l3 : li L 3 x3) (l4 : li L 4 x4) (l5 : li L 5 x5) (l6 : li L 6 x6) (l7 : li L 7 x7) (b1 : (0 ≤ x1 ∧ x1 ≤ 7)) (b2 : (0 ≤ x2 ∧ x2 ≤ 7)) (b3 : (0 ≤ x3 ∧ x3 ≤ 1)) (b4 : (0 ≤ x4 ∧ x4 ≤ 1)) (b5 : (0 ≤ x5 ∧ x5 ≤ 9)) (b6 : ((-9) ≤ x6 ∧ x6 ≤ 9)) (b7 : ((-9) ≤ x7 ∧ x7 ≤ 11))
    (k0 : ∀ (x8 : Int) (L' : am_L), rd S 125 x2 = x8 → x8 < x7 → (0 ≤ x1 ∧ x1 ≤ 7) → (0 ≤ x2 ∧ x2 ≤ 7) → (0 ≤ x3 ∧ x3 ≤ 1) → (0 ≤ x4 ∧ x4 ≤ 1) → (0 ≤ x5 ∧ x5 ≤ 9) → ((-9) ≤ x6 ∧ x6 ≤ 9) → (1 ≤ x7 ∧ x7 ≤ 11) → (0 ≤ x8 ∧ x8 ≤ 9) → lc L' 0 122 → li L' 1 x1 → li L' 2 x2 → li L' 3 x3 → li L' 4 x4 → li L' 5 x5 → li L' 6 (x6 + 2) → li L' 7 x7 → am_V none d 231 79 L' ([]) S Q)
    (k1 : ∀ (x8 x9 : Int) (L' : am_L), rd S 125 x2 = x8 → x7 ≤ x8 → x9 < (-2) → (0 ≤ x1 ∧ x1 ≤ 7) → (0 ≤ x2 ∧ x2 ≤ 7) → (0 ≤ x3 ∧ x3 ≤ 1) → (0 ≤ x4 ∧ x4 ≤ 1) → (0 ≤ x5 ∧ x5 ≤ 9) → ((-9) ≤ x6 ∧ x6 ≤ 9) → ((-9) ≤ x7 ∧ x7 ≤ 9) → (0 ≤ x8 ∧ x8 ≤ 9) → ((-18) ≤ x9 ∧ x9 ≤ (-3)) → x6 + ((-1) * x7 + 0) = x9 → lc L' 0 122 → li L' 1 x1 → li L' 2 x2 → li L' 3 x3 → li L' 4 x4 → li L' 5 x5 → li L' 6 x6 → li L' 7 (x7 + 2) → am_V none d 231 99 L' ([]) S Q)
    (k2 : ∀ (x8 x9 : Int) (L' : am_L), rd S 125 x2 = x8 → x7 ≤ x8 → (-2) ≤ x9 → 2 < x9 → (0 ≤ x1 ∧ x1 ≤ 7) → (0 ≤ x2 ∧ x2 ≤ 7) → (0 ≤ x3 ∧ x3 ≤ 1) → (0 ≤ x4 ∧ x4 ≤ 1) → (0 ≤ x5 ∧ x5 ≤ 9) → ((-9) ≤ x6 ∧ x6 ≤ 9) → ((-9) ≤ x7 ∧ x7 ≤ 9) → (0 ≤ x8 ∧ x8 ≤ 9) → (3 ≤ x9 ∧ x9 ≤ 18) → x6 + ((-1) * x7 + 0) = x9 → lc L' 0 122 → li L' 1 x1 → li L' 2 x2 → li L' 3 x3 → li L' 4 x4 → li L' 5 x5 → li L' 6 x6 → li L' 7 (x7 + 2) → am_V none d 231 99 L' ([]) S Q)
    (k3 : ∀ (x8 x9 : Int) (L' : am_L) (i1 : Int32) (i2 : Int32) (i3 : Int32) (i4 : Int32), rd S 125 x2 = x8 → x7 ≤ x8 → (-2) ≤ x9 → x9 ≤ 2 → x4 = 0 → (0 ≤ x1 ∧ x1 ≤ 7) → (0 ≤ x2 ∧ x2 ≤ 7) → (0 ≤ x3 ∧ x3 ≤ 1) → (0 ≤ x4 ∧ x4 ≤ 0) → (0 ≤ x5 ∧ x5 ≤ 9) → ((-9) ≤ x6 ∧ x6 ≤ 9) → ((-9) ≤ x7 ∧ x7 ≤ 9) → (0 ≤ x8 ∧ x8 ≤ 9) → ((-2) ≤ x9 ∧ x9 ≤ 2) → x6 + ((-1) * x7 + 0) = x9 → lc L' 0 122 → li L' 1 x1 → li L' 2 x2 → li L' 3 x3 → li L' 4 0 → li L' 5 x5 → li L' 6 x6 → li L' 7 x7 → i1.toInt = x6 → i2.toInt = x7 → i3.toInt = x3 → i4.toInt = x5 → am_V none d 231 155 L' ((.int i1) :: (.int i2) :: (.int i3) :: (.int i4) :: []) S Q)
    (k4 : ∀ (x8 x9 : Int) (L' : am_L) (i1 : Int32) (i2 : Int32) (i3 : Int32) (i4 : Int32), rd S 125 x2 = x8 → x7 ≤ x8 → (-2) ≤ x9 → x9 ≤ 2 → x4 ≠ 0 → (0 ≤ x1 ∧ x1 ≤ 7) → (0 ≤ x2 ∧ x2 ≤ 7) → (0 ≤ x3 ∧ x3 ≤ 1) → (1 ≤ x4 ∧ x4 ≤ 1) → (0 ≤ x5 ∧ x5 ≤ 9) → ((-9) ≤ x6 ∧ x6 ≤ 9) → ((-9) ≤ x7 ∧ x7 ≤ 9) → (0 ≤ x8 ∧ x8 ≤ 9) → ((-2) ≤ x9 ∧ x9 ≤ 2) → x6 + ((-1) * x7 + 0) = x9 → lc L' 0 122 → li L' 1 x1 → li L' 2 x2 → li L' 3 x3 → li L' 4 1 → li L' 5 x5 → li L' 6 x6 → li L' 7 x7 → i1.toInt = x7 → i2.toInt = x6 → i3.toInt = x3 → i4.toInt = x5 → am_V none d 231 155 L' ((.int i1) :: (.int i2) :: (.int i3) :: (.int i4) :: []) S Q) : am_V none d 231 99 L ([]) S Q := by
  refine sg_use sg_lq_c_g hd hP (sg_xs [0, x1, x2, x3, x4, x5, x6, x7]) ⟨⟨Int.le_refl 0, Int.le_refl 0⟩, b1, b2, b3, b4, b5, b6, b7, trivial⟩ trivial trivial trivial ⟨l0, l1, l2, l3, l4, l5, l6, l7, trivial⟩ trivial ?_
  intro z hz x' L' st' S' hx hP' hW hL' hs' hJ hE' hT' hD'
  have q1 : x' 1 = x1 := hx 1 (by decide)
  subst q1
  have q2 : x' 2 = x2 := hx 2 (by decide)
  subst q2
  have q3 : x' 3 = x3 := hx 3 (by decide)
  subst q3
  have q4 : x' 4 = x4 := hx 4 (by decide)
  subst q4
  have q5 : x' 5 = x5 := hx 5 (by decide)
  subst q5
  have q6 : x' 6 = x6 := hx 6 (by decide)
  subst q6
  have q7 : x' 7 = x7 := hx 7 (by decide)
  subst q7
  have eS : S' = S := hW.1 rfl
  subst eS
  simp only [sg_lq_c_Z, List.mem_cons, List.not_mem_nil, or_false] at hz
  rcases hz with rfl | rfl | rfl | rfl | rfl
  · obtain ⟨f0, f1, hσ⟩ := hJ
    obtain ⟨e0, e1, e2, e3, e4, e5, e6, e7, -⟩ := hE'
    obtain ⟨p0, p1, p2, p3, p4, p5, p6, p7, -⟩ := hL'
    obtain rfl := sg_tn hs'
    exact k0 (x' 8) L' f0 f1 e0 e1 e2 e3 e4 e5 e6 e7 p0 p1 p2 p3 p4 p5 p6 p7
  · obtain ⟨f0, f1, f2, -, hσ⟩ := hJ
    obtain ⟨e0, e1, e2, e3, e4, e5, e6, e7, e8, -⟩ := hE'
    obtain ⟨t0, -⟩ := hT'
    obtain ⟨p0, p1, p2, p3, p4, p5, p6, p7, -⟩ := hL'
    obtain rfl := sg_tn hs'
    exact k1 (x' 8) (x' 9) L' f0 f1 f2 e0 e1 e2 e3 e4 e5 e6 e7 e8 t0 p0 p1 p2 p3 p4 p5 p6 p7
  · obtain ⟨f0, f1, f2, f3, -, hσ⟩ := hJ
    obtain ⟨e0, e1, e2, e3, e4, e5, e6, e7, e8, -⟩ := hE'
    obtain ⟨t0, -⟩ := hT'
    obtain ⟨p0, p1, p2, p3, p4, p5, p6, p7, -⟩ := hL'
    obtain rfl := sg_tn hs'
    exact k2 (x' 8) (x' 9) L' f0 f1 f2 f3 e0 e1 e2 e3 e4 e5 e6 e7 e8 t0 p0 p1 p2 p3 p4 p5 p6 p7
  · obtain ⟨f0, f1, f2, f3, -, f5, -, hσ⟩ := hJ
    obtain ⟨e0, e1, e2, e3, e4, e5, e6, e7, e8, -⟩ := hE'
    obtain ⟨t0, -⟩ := hT'
    obtain ⟨p0, p1, p2, p3, p4, p5, p6, p7, -⟩ := hL'
    obtain ⟨v1, r1, rfl, ⟨i1, rfl, g1⟩, hs1⟩ := sg_tc hs'
    obtain ⟨v2, r2, rfl, ⟨i2, rfl, g2⟩, hs2⟩ := sg_tc hs1
    obtain ⟨v3, r3, rfl, ⟨i3, rfl, g3⟩, hs3⟩ := sg_tc hs2
    obtain ⟨v4, r4, rfl, ⟨i4, rfl, g4⟩, hs4⟩ := sg_tc hs3
    obtain rfl := sg_tn hs4
    exact k3 (x' 8) (x' 9) L' i1 i2 i3 i4 f0 f1 f2 f3 f5 e0 e1 e2 e3 e4 e5 e6 e7 e8 t0 p0 p1 p2 p3 p4 p5 p6 p7 g1 g2 g3 g4
  · obtain ⟨f0, f1, f2, f3, -, f5, -, hσ⟩ := hJ
    obtain ⟨e0, e1, e2, e3, e4, e5, e6, e7, e8, -⟩ := hE'
    obtain ⟨t0, -⟩ := hT'
    obtain ⟨p0, p1, p2, p3, p4, p5, p6, p7, -⟩ := hL'
    obtain ⟨v1, r1, rfl, ⟨i1, rfl, g1⟩, hs1⟩ := sg_tc hs'
    obtain ⟨v2, r2, rfl, ⟨i2, rfl, g2⟩, hs2⟩ := sg_tc hs1
    obtain ⟨v3, r3, rfl, ⟨i3, rfl, g3⟩, hs3⟩ := sg_tc hs2
    obtain ⟨v4, r4, rfl, ⟨i4, rfl, g4⟩, hs4⟩ := sg_tc hs3
    obtain rfl := sg_tn hs4
    exact k4 (x' 8) (x' 9) L' i1 i2 i3 i4 f0 f1 f2 f3 f5 e0 e1 e2 e3 e4 e5 e6 e7 e8 t0 p0 p1 p2 p3 p4 p5 p6 p7 g1 g2 g3 g4
def sg_lq_d_Z : List sg_z := [(100, [(0, .inr (.inl [122])), (1, .inl (false, (1, .ofNat 1, .ofNat 0))), (2, .inl (false, (2, .ofNat 1, .ofNat 0))), (3, .inl (false, (3, .ofNat 1, .ofNat 0))), (4, .inl (false, (4, .ofNat 1, .ofNat 0))), (5, .inl (false, (5, .ofNat 1, .ofNat 0))), (6, .inl (false, (6, .ofNat 1, .ofNat 0))), (7, .inl (false, (7, .ofNat 1, .ofNat 2))), (8, .inl (false, (0, .ofNat 0, .ofNat 0)))], [], [(2, 0, (8, .ofNat 1, .ofNat 0), (0, .ofNat 0, .ofNat 0), (0, .ofNat 0, .ofNat 0))], [(1, [(.ofNat 0, .ofNat 7)]), (2, [(.ofNat 0, .ofNat 7)]), (3, [(.ofNat 0, .ofNat 1)]), (4, [(.ofNat 0, .ofNat 1)]), (5, [(.ofNat 0, .ofNat 9)]), (6, [(.negSucc 8, .ofNat 9)]), (7, [(.negSucc 8, .ofNat 9)]), (8, [(.ofNat 0, .ofNat 0)])], [], []),
  (200, [(0, .inr (.inl [122])), (1, .inl (false, (1, .ofNat 1, .ofNat 0))), (2, .inl (false, (2, .ofNat 1, .ofNat 0))), (3, .inl (false, (3, .ofNat 1, .ofNat 0))), (4, .inl (false, (4, .ofNat 1, .ofNat 0))), (5, .inl (false, (5, .ofNat 1, .ofNat 0))), (6, .inl (false, (6, .ofNat 1, .ofNat 0))), (7, .inl (false, (7, .ofNat 1, .ofNat 0))), (8, .inl (false, (8, .ofNat 1, .ofNat 0)))], [.inl (false, (8, .ofNat 1, .ofNat 0)), .inl (false, (0, .ofNat 0, .ofNat 1)), .inl (false, (13, .ofNat 1, .ofNat 0)), .inr (.inl [122])], [(2, 1, (6, .ofNat 1, .ofNat 0), (7, .ofNat 1, .ofNat 0), (0, .ofNat 0, .ofNat 0)), (3, 0, (11, .ofNat 1, .ofNat 0), (7, .ofNat 1, .ofNat 0), (12, .ofNat 1, .ofNat 0)), (0, 126, (2, .ofNat 1, .ofNat 0), (11, .ofNat 1, .ofNat 0), (0, .ofNat 0, .ofNat 0)), (3, 0, (9, .ofNat 1, .ofNat 0), (6, .ofNat 1, .ofNat 0), (10, .ofNat 1, .ofNat 0)), (0, 126, (1, .ofNat 1, .ofNat 0), (9, .ofNat 1, .ofNat 0), (0, .ofNat 0, .ofNat 0)), (2, 1, (8, .ofNat 1, .ofNat 0), (0, .ofNat 0, .ofNat 0), (0, .ofNat 0, .ofNat 0))], [(1, [(.ofNat 0, .ofNat 7)]), (2, [(.ofNat 0, .ofNat 7)]), (3, [(.ofNat 0, .ofNat 1)]), (4, [(.ofNat 0, .ofNat 1)]), (5, [(.ofNat 0, .ofNat 9)]), (6, [(.negSucc 8, .ofNat 9)]), (7, [(.negSucc 8, .ofNat 9)]), (8, [(.negSucc 399, .negSucc 0), (.ofNat 1, .ofNat 400)]), (9, [(.negSucc 99, .ofNat 100)]), (10, [(.negSucc 899, .ofNat 900)]), (11, [(.negSucc 99, .ofNat 100)]), (12, [(.negSucc 899, .ofNat 900)]), (13, [(.negSucc 1799, .ofNat 1800)])], [((10, .ofNat 1, .ofNat 0), (12, .negSucc 0, .ofNat 0), (13, .ofNat 1, .ofNat 0))], []),
  (200, [(0, .inr (.inl [122])), (1, .inl (false, (1, .ofNat 1, .ofNat 0))), (2, .inl (false, (2, .ofNat 1, .ofNat 0))), (3, .inl (false, (3, .ofNat 1, .ofNat 0))), (4, .inl (false, (4, .ofNat 1, .ofNat 0))), (5, .inl (false, (5, .ofNat 1, .ofNat 0))), (6, .inl (false, (6, .ofNat 1, .ofNat 0))), (7, .inl (false, (7, .ofNat 1, .ofNat 0))), (8, .inl (false, (8, .ofNat 1, .ofNat 0)))], [.inl (false, (8, .ofNat 1, .ofNat 0)), .inl (false, (0, .ofNat 0, .ofNat 0)), .inl (false, (13, .ofNat 1, .ofNat 0)), .inr (.inl [122])], [(2, 0, (6, .ofNat 1, .ofNat 0), (7, .ofNat 1, .ofNat 0), (0, .ofNat 0, .ofNat 0)), (3, 0, (11, .ofNat 1, .ofNat 0), (7, .ofNat 1, .ofNat 0), (12, .ofNat 1, .ofNat 0)), (0, 126, (2, .ofNat 1, .ofNat 0), (11, .ofNat 1, .ofNat 0), (0, .ofNat 0, .ofNat 0)), (3, 0, (9, .ofNat 1, .ofNat 0), (6, .ofNat 1, .ofNat 0), (10, .ofNat 1, .ofNat 0)), (0, 126, (1, .ofNat 1, .ofNat 0), (9, .ofNat 1, .ofNat 0), (0, .ofNat 0, .ofNat 0)), (2, 1, (8, .ofNat 1, .ofNat 0), (0, .ofNat 0, .ofNat 0), (0, .ofNat 0, .ofNat 0))], [(1, [(.ofNat 0, .ofNat 7)]), (2, [(.ofNat 0, .ofNat 7)]), (3, [(.ofNat 0, .ofNat 1)]), (4, [(.ofNat 0, .ofNat 1)]), (5, [(.ofNat 0, .ofNat 9)]), (6, [(.negSucc 8, .ofNat 9)]), (7, [(.negSucc 8, .ofNat 9)]), (8, [(.negSucc 399, .negSucc 0), (.ofNat 1, .ofNat 400)]), (9, [(.negSucc 99, .ofNat 100)]), (10, [(.negSucc 899, .ofNat 900)]), (11, [(.negSucc 99, .ofNat 100)]), (12, [(.negSucc 899, .ofNat 900)]), (13, [(.negSucc 1799, .ofNat 1800)])], [((10, .ofNat 1, .ofNat 0), (12, .negSucc 0, .ofNat 0), (13, .ofNat 1, .ofNat 0))], [])]
set_option maxRecDepth 1000000 in
theorem sg_lq_d_g : sg_go [] [199, 99] 3000 231 158 0 9 [(0, [(.ofNat 0, .ofNat 0)]), (1, [(.ofNat 0, .ofNat 7)]), (2, [(.ofNat 0, .ofNat 7)]), (3, [(.ofNat 0, .ofNat 1)]), (4, [(.ofNat 0, .ofNat 1)]), (5, [(.ofNat 0, .ofNat 9)]), (6, [(.negSucc 8, .ofNat 9)]), (7, [(.negSucc 8, .ofNat 9)]), (8, [(.negSucc 399, .ofNat 400)])] [] [] [] [(0, .inr (.inl [122])), (1, .inl (false, (1, .ofNat 1, .ofNat 0))), (2, .inl (false, (2, .ofNat 1, .ofNat 0))), (3, .inl (false, (3, .ofNat 1, .ofNat 0))), (4, .inl (false, (4, .ofNat 1, .ofNat 0))), (5, .inl (false, (5, .ofNat 1, .ofNat 0))), (6, .inl (false, (6, .ofNat 1, .ofNat 0))), (7, .inl (false, (7, .ofNat 1, .ofNat 0)))] [.inl (false, (8, .ofNat 1, .ofNat 0))] [] sg_lq_d_Z = true := by decide +kernel
set_option maxRecDepth 100000 in
theorem sg_lq_d {Q : Option Value × am_S → Prop} {d : Nat} {S : am_S} {L : am_L} {x1 x2 x3 x4 x5 x6 x7 x8 : Int} {i1 : Int32} (hd : 0 ≤ d) (hP : ax_P0 none S) (l0 : lc L 0 122) (l1 : li L 1 x1) (l2 : li L 2 x2) (l3 : li L 3 x3) (l4 : li L 4 x4) (l5 : li L 5 x5) (l6 : li L 6 x6) (l7 : li L 7 x7) (b1 : (0 ≤ x1 ∧ x1 ≤ 7)) (b2 : (0 ≤ x2 ∧ x2 ≤ 7)) (b3 : (0 ≤ x3 ∧ x3 ≤ 1)) (b4 : (0 ≤ x4 ∧ x4 ≤ 1)) (b5 : (0 ≤ x5 ∧ x5 ≤ 9)) (b6 : ((-9) ≤ x6 ∧ x6 ≤ 9)) (b7 : ((-9) ≤ x7 ∧ x7 ≤ 9)) (b8 : ((-400) ≤ x8 ∧ x8 ≤ 400)) (s1 : i1.toInt = x8)
    (k0 : ∀ (L' : am_L), x8 = 0 → (0 ≤ x1 ∧ x1 ≤ 7) → (0 ≤ x2 ∧ x2 ≤ 7) → (0 ≤ x3 ∧ x3 ≤ 1) → (0 ≤ x4 ∧ x4 ≤ 1) → (0 ≤ x5 ∧ x5 ≤ 9) → ((-9) ≤ x6 ∧ x6 ≤ 9) → ((-9) ≤ x7 ∧ x7 ≤ 9) → (0 ≤ x8 ∧ x8 ≤ 0) → lc L' 0 122 → li L' 1 x1 → li L' 2 x2 → li L' 3 x3 → li L' 4 x4 → li L' 5 x5 → li L' 6 x6 → li L' 7 (x7 + 2) → li L' 8 0 → am_V none d 231 99 L' ([]) S Q)
    (k1 : ∀ (x9 x10 x11 x12 x13 : Int) (L' : am_L) (i1 : Int32) (i2 : Int32) (i3 : Int32), x8 ≠ 0 → rd S 126 x1 = x9 → (∃ a b : Int32, a.toInt = x9 ∧ b.toInt = x6 ∧ (a * b).toInt = x10) → rd S 126 x2 = x11 → (∃ a b : Int32, a.toInt = x11 ∧ b.toInt = x7 ∧ (a * b).toInt = x12) → x6 ≠ x7 → (0 ≤ x1 ∧ x1 ≤ 7) → (0 ≤ x2 ∧ x2 ≤ 7) → (0 ≤ x3 ∧ x3 ≤ 1) → (0 ≤ x4 ∧ x4 ≤ 1) → (0 ≤ x5 ∧ x5 ≤ 9) → ((-9) ≤ x6 ∧ x6 ≤ 9) → ((-9) ≤ x7 ∧ x7 ≤ 9) → ((-400) ≤ x8 ∧ x8 ≤ (-1)) ∨ (1 ≤ x8 ∧ x8 ≤ 400) → ((-100) ≤ x9 ∧ x9 ≤ 100) → ((-900) ≤ x10 ∧ x10 ≤ 900) → ((-100) ≤ x11 ∧ x11 ≤ 100) → ((-900) ≤ x12 ∧ x12 ≤ 900) → ((-1800) ≤ x13 ∧ x13 ≤ 1800) → x10 + ((-1) * x12 + 0) = x13 → lc L' 0 122 → li L' 1 x1 → li L' 2 x2 → li L' 3 x3 → li L' 4 x4 → li L' 5 x5 → li L' 6 x6 → li L' 7 x7 → li L' 8 x8 → i1.toInt = x8 → i2.toInt = 1 → i3.toInt = x13 → am_V none d 231 199 L' ((.int i1) :: (.int i2) :: (.int i3) :: (.ref 122) :: []) S Q)
    (k2 : ∀ (x9 x10 x11 x12 x13 : Int) (L' : am_L) (i1 : Int32) (i2 : Int32) (i3 : Int32), x8 ≠ 0 → rd S 126 x1 = x9 → (∃ a b : Int32, a.toInt = x9 ∧ b.toInt = x6 ∧ (a * b).toInt = x10) → rd S 126 x2 = x11 → (∃ a b : Int32, a.toInt = x11 ∧ b.toInt = x7 ∧ (a * b).toInt = x12) → x6 = x7 → (0 ≤ x1 ∧ x1 ≤ 7) → (0 ≤ x2 ∧ x2 ≤ 7) → (0 ≤ x3 ∧ x3 ≤ 1) → (0 ≤ x4 ∧ x4 ≤ 1) → (0 ≤ x5 ∧ x5 ≤ 9) → ((-9) ≤ x6 ∧ x6 ≤ 9) → ((-9) ≤ x7 ∧ x7 ≤ 9) → ((-400) ≤ x8 ∧ x8 ≤ (-1)) ∨ (1 ≤ x8 ∧ x8 ≤ 400) → ((-100) ≤ x9 ∧ x9 ≤ 100) → ((-900) ≤ x10 ∧ x10 ≤ 900) → ((-100) ≤ x11 ∧ x11 ≤ 100) → ((-900) ≤ x12 ∧ x12 ≤ 900) → ((-1800) ≤ x13 ∧ x13 ≤ 1800) → x10 + ((-1) * x12 + 0) = x13 → lc L' 0 122 → li L' 1 x1 → li L' 2 x2 → li L' 3 x3 → li L' 4 x4 → li L' 5 x5 → li L' 6 x6 → li L' 7 x7 → li L' 8 x8 → i1.toInt = x8 → i2.toInt = 0 → i3.toInt = x13 → am_V none d 231 199 L' ((.int i1) :: (.int i2) :: (.int i3) :: (.ref 122) :: []) S Q) : am_V none d 231 158 L ((.int i1) :: []) S Q := by
  refine sg_use sg_lq_d_g hd hP (sg_xs [0, x1, x2, x3, x4, x5, x6, x7, x8]) ⟨⟨Int.le_refl 0, Int.le_refl 0⟩, b1, b2, b3, b4, b5, b6, b7, b8, trivial⟩ trivial trivial trivial ⟨l0, l1, l2, l3, l4, l5, l6, l7, trivial⟩ ⟨⟨_, rfl, s1⟩, trivial⟩ ?_
  intro z hz x' L' st' S' hx hP' hW hL' hs' hJ hE' hT' hD'
  have q1 : x' 1 = x1 := hx 1 (by decide)
  subst q1
  have q2 : x' 2 = x2 := hx 2 (by decide)
  subst q2
  have q3 : x' 3 = x3 := hx 3 (by decide)
  subst q3
  have q4 : x' 4 = x4 := hx 4 (by decide)
  subst q4
  have q5 : x' 5 = x5 := hx 5 (by decide)
  subst q5
  have q6 : x' 6 = x6 := hx 6 (by decide)
  subst q6
  have q7 : x' 7 = x7 := hx 7 (by decide)
  subst q7
  have q8 : x' 8 = x8 := hx 8 (by decide)
  subst q8
  have eS : S' = S := hW.1 rfl
  subst eS
  simp only [sg_lq_d_Z, List.mem_cons, List.not_mem_nil, or_false] at hz
  rcases hz with rfl | rfl | rfl
  · obtain ⟨f0, hσ⟩ := hJ
    obtain ⟨e0, e1, e2, e3, e4, e5, e6, e7, -⟩ := hE'
    obtain ⟨p0, p1, p2, p3, p4, p5, p6, p7, p8, -⟩ := hL'
    obtain rfl := sg_tn hs'
    exact k0 L' f0 e0 e1 e2 e3 e4 e5 e6 e7 p0 p1 p2 p3 p4 p5 p6 p7 p8
  · obtain ⟨f0, f1, f2, f3, f4, f5, hσ⟩ := hJ
    obtain ⟨e0, e1, e2, e3, e4, e5, e6, e7, e8, e9, e10, e11, e12, -⟩ := hE'
    obtain ⟨t0, -⟩ := hT'
    obtain ⟨p0, p1, p2, p3, p4, p5, p6, p7, p8, -⟩ := hL'
    obtain ⟨v1, r1, rfl, ⟨i1, rfl, g1⟩, hs1⟩ := sg_tc hs'
    obtain ⟨v2, r2, rfl, ⟨i2, rfl, g2⟩, hs2⟩ := sg_tc hs1
    obtain ⟨v3, r3, rfl, ⟨i3, rfl, g3⟩, hs3⟩ := sg_tc hs2
    obtain ⟨v4, r4, rfl, rfl, hs4⟩ := sg_tc hs3
    obtain rfl := sg_tn hs4
    exact k1 (x' 9) (x' 10) (x' 11) (x' 12) (x' 13) L' i1 i2 i3 f0 f1 f2 f3 f4 f5 e0 e1 e2 e3 e4 e5 e6 e7 e8 e9 e10 e11 e12 t0 p0 p1 p2 p3 p4 p5 p6 p7 p8 g1 g2 g3
  · obtain ⟨f0, f1, f2, f3, f4, f5, hσ⟩ := hJ
    obtain ⟨e0, e1, e2, e3, e4, e5, e6, e7, e8, e9, e10, e11, e12, -⟩ := hE'
    obtain ⟨t0, -⟩ := hT'
    obtain ⟨p0, p1, p2, p3, p4, p5, p6, p7, p8, -⟩ := hL'
    obtain ⟨v1, r1, rfl, ⟨i1, rfl, g1⟩, hs1⟩ := sg_tc hs'
    obtain ⟨v2, r2, rfl, ⟨i2, rfl, g2⟩, hs2⟩ := sg_tc hs1
    obtain ⟨v3, r3, rfl, ⟨i3, rfl, g3⟩, hs3⟩ := sg_tc hs2
    obtain ⟨v4, r4, rfl, rfl, hs4⟩ := sg_tc hs3
    obtain rfl := sg_tn hs4
    exact k2 (x' 9) (x' 10) (x' 11) (x' 12) (x' 13) L' i1 i2 i3 f0 f1 f2 f3 f4 f5 e0 e1 e2 e3 e4 e5 e6 e7 e8 e9 e10 e11 e12 t0 p0 p1 p2 p3 p4 p5 p6 p7 p8 g1 g2 g3
def sg_lq_e_Z : List sg_z := [(100, [(0, .inr (.inl [122])), (1, .inl (false, (1, .ofNat 1, .ofNat 0))), (2, .inl (false, (2, .ofNat 1, .ofNat 0))), (3, .inl (false, (3, .ofNat 1, .ofNat 0))), (4, .inl (false, (4, .ofNat 1, .ofNat 0))), (5, .inl (false, (5, .ofNat 1, .ofNat 0))), (6, .inl (false, (6, .ofNat 1, .ofNat 0))), (7, .inl (false, (7, .ofNat 1, .ofNat 2)))], [], [], [(1, [(.ofNat 0, .ofNat 7)]), (2, [(.ofNat 0, .ofNat 7)]), (3, [(.ofNat 0, .ofNat 1)]), (4, [(.ofNat 0, .ofNat 1)]), (5, [(.ofNat 0, .ofNat 9)]), (6, [(.negSucc 8, .ofNat 9)]), (7, [(.negSucc 8, .ofNat 9)])], [], [])]
set_option maxRecDepth 1000000 in
theorem sg_lq_e_g : sg_go [] [99] 3000 231 202 0 8 [(0, [(.ofNat 0, .ofNat 0)]), (1, [(.ofNat 0, .ofNat 7)]), (2, [(.ofNat 0, .ofNat 7)]), (3, [(.ofNat 0, .ofNat 1)]), (4, [(.ofNat 0, .ofNat 1)]), (5, [(.ofNat 0, .ofNat 9)]), (6, [(.negSucc 8, .ofNat 9)]), (7, [(.negSucc 8, .ofNat 9)])] [] [] [] [(0, .inr (.inl [122])), (1, .inl (false, (1, .ofNat 1, .ofNat 0))), (2, .inl (false, (2, .ofNat 1, .ofNat 0))), (3, .inl (false, (3, .ofNat 1, .ofNat 0))), (4, .inl (false, (4, .ofNat 1, .ofNat 0))), (5, .inl (false, (5, .ofNat 1, .ofNat 0))), (6, .inl (false, (6, .ofNat 1, .ofNat 0))), (7, .inl (false, (7, .ofNat 1, .ofNat 0)))] [] [] sg_lq_e_Z = true := by decide +kernel
set_option maxRecDepth 100000 in
theorem sg_lq_e {Q : Option Value × am_S → Prop} {d : Nat} {S : am_S} {L : am_L} {x1 x2 x3 x4 x5 x6 x7 : Int} (hd : 0 ≤ d) (hP : ax_P0 none S) (l0 : lc L 0 122) (l1 : li L 1 x1) (l2 : li L 2 x2) (l3 : li L 3 x3) (l4 : li L 4 x4) (l5 : li L 5 x5) (l6 : li L 6 x6) (l7 : li L 7 x7) (b1 : (0 ≤ x1 ∧ x1 ≤ 7)) (b2 : (0 ≤ x2 ∧ x2 ≤ 7)) (b3 : (0 ≤ x3 ∧ x3 ≤ 1)) (b4 : (0 ≤ x4 ∧ x4 ≤ 1)) (b5 : (0 ≤ x5 ∧ x5 ≤ 9)) (b6 : ((-9) ≤ x6 ∧ x6 ≤ 9)) (b7 : ((-9) ≤ x7 ∧ x7 ≤ 9))
    (k0 : ∀ (L' : am_L), (0 ≤ x1 ∧ x1 ≤ 7) → (0 ≤ x2 ∧ x2 ≤ 7) → (0 ≤ x3 ∧ x3 ≤ 1) → (0 ≤ x4 ∧ x4 ≤ 1) → (0 ≤ x5 ∧ x5 ≤ 9) → ((-9) ≤ x6 ∧ x6 ≤ 9) → ((-9) ≤ x7 ∧ x7 ≤ 9) → lc L' 0 122 → li L' 1 x1 → li L' 2 x2 → li L' 3 x3 → li L' 4 x4 → li L' 5 x5 → li L' 6 x6 → li L' 7 (x7 + 2) → am_V none d 231 99 L' ([]) S Q) : am_V none d 231 202 L ([]) S Q := by
  refine sg_use sg_lq_e_g hd hP (sg_xs [0, x1, x2, x3, x4, x5, x6, x7]) ⟨⟨Int.le_refl 0, Int.le_refl 0⟩, b1, b2, b3, b4, b5, b6, b7, trivial⟩ trivial trivial trivial ⟨l0, l1, l2, l3, l4, l5, l6, l7, trivial⟩ trivial ?_
  intro z hz x' L' st' S' hx hP' hW hL' hs' hJ hE' hT' hD'
  have q1 : x' 1 = x1 := hx 1 (by decide)
  subst q1
  have q2 : x' 2 = x2 := hx 2 (by decide)
  subst q2
  have q3 : x' 3 = x3 := hx 3 (by decide)
  subst q3
  have q4 : x' 4 = x4 := hx 4 (by decide)
  subst q4
  have q5 : x' 5 = x5 := hx 5 (by decide)
  subst q5
  have q6 : x' 6 = x6 := hx 6 (by decide)
  subst q6
  have q7 : x' 7 = x7 := hx 7 (by decide)
  subst q7
  have eS : S' = S := hW.1 rfl
  subst eS
  simp only [sg_lq_e_Z, List.mem_cons, List.not_mem_nil, or_false] at hz
  rcases hz with rfl
  · have hσ := hJ
    obtain ⟨e0, e1, e2, e3, e4, e5, e6, -⟩ := hE'
    obtain ⟨p0, p1, p2, p3, p4, p5, p6, p7, -⟩ := hL'
    obtain rfl := sg_tn hs'
    exact k0 L' e0 e1 e2 e3 e4 e5 e6 p0 p1 p2 p3 p4 p5 p6 p7
def sg_pn_a_Z : List sg_z := [(0, [], [.inl (false, (0, .ofNat 0, .negSucc 0))], [(2, 0, (0, .ofNat 0, .ofNat 0), (0, .ofNat 0, .ofNat 0), (0, .ofNat 0, .ofNat 0)), (2, 2, (1, .ofNat 1, .ofNat 0), (0, .ofNat 0, .ofNat 0), (0, .ofNat 0, .ofNat 0))], [(1, [(.negSucc 2147483647, .negSucc 0)])], [], []),
  (0, [], [.inl (false, (0, .ofNat 0, .negSucc 0))], [(2, 0, (0, .ofNat 0, .ofNat 0), (0, .ofNat 0, .ofNat 0), (0, .ofNat 0, .ofNat 0)), (2, 3, (1, .ofNat 1, .ofNat 0), (4, .ofNat 1, .ofNat 0), (0, .ofNat 0, .ofNat 0)), (0, 1, (0, .ofNat 0, .ofNat 0), (4, .ofNat 1, .ofNat 0), (0, .ofNat 0, .ofNat 0)), (2, 3, (1, .ofNat 1, .ofNat 0), (0, .ofNat 0, .ofNat 0), (0, .ofNat 0, .ofNat 0))], [(1, [(.ofNat 0, .ofNat 2147483647)]), (4, [(.ofNat 0, .ofNat 8)])], [], []),
  (0, [], [.inl (false, (0, .ofNat 0, .negSucc 0))], [(2, 0, (0, .ofNat 0, .ofNat 0), (0, .ofNat 0, .ofNat 0), (0, .ofNat 0, .ofNat 0)), (2, 2, (2, .ofNat 1, .ofNat 0), (0, .ofNat 0, .ofNat 0), (0, .ofNat 0, .ofNat 0)), (2, 1, (0, .ofNat 0, .ofNat 1), (0, .ofNat 0, .ofNat 0), (0, .ofNat 0, .ofNat 0)), (2, 2, (1, .ofNat 1, .ofNat 0), (4, .ofNat 1, .ofNat 0), (0, .ofNat 0, .ofNat 0)), (0, 1, (0, .ofNat 0, .ofNat 0), (4, .ofNat 1, .ofNat 0), (0, .ofNat 0, .ofNat 0)), (2, 3, (1, .ofNat 1, .ofNat 0), (0, .ofNat 0, .ofNat 0), (0, .ofNat 0, .ofNat 0))], [(1, [(.ofNat 0, .ofNat 7)]), (2, [(.negSucc 2147483647, .negSucc 0)]), (4, [(.ofNat 1, .ofNat 8)])], [], []),
  (0, [], [.inl (false, (0, .ofNat 0, .negSucc 0))], [(2, 0, (0, .ofNat 0, .ofNat 0), (0, .ofNat 0, .ofNat 0), (0, .ofNat 0, .ofNat 0)), (2, 3, (2, .ofNat 1, .ofNat 0), (4, .ofNat 1, .ofNat 0), (0, .ofNat 0, .ofNat 0)), (0, 1, (0, .ofNat 0, .ofNat 0), (4, .ofNat 1, .ofNat 0), (0, .ofNat 0, .ofNat 0)), (2, 3, (2, .ofNat 1, .ofNat 0), (0, .ofNat 0, .ofNat 0), (0, .ofNat 0, .ofNat 0)), (2, 1, (0, .ofNat 0, .ofNat 1), (0, .ofNat 0, .ofNat 0), (0, .ofNat 0, .ofNat 0)), (2, 2, (1, .ofNat 1, .ofNat 0), (4, .ofNat 1, .ofNat 0), (0, .ofNat 0, .ofNat 0)), (0, 1, (0, .ofNat 0, .ofNat 0), (4, .ofNat 1, .ofNat 0), (0, .ofNat 0, .ofNat 0)), (2, 3, (1, .ofNat 1, .ofNat 0), (0, .ofNat 0, .ofNat 0), (0, .ofNat 0, .ofNat 0))], [(1, [(.ofNat 0, .ofNat 7)]), (2, [(.ofNat 1, .ofNat 2147483647)]), (4, [(.ofNat 1, .ofNat 8)])], [], []),
  (0, [], [.inl (false, (0, .ofNat 0, .negSucc 0))], [(2, 2, (3, .ofNat 1, .ofNat 0), (0, .ofNat 0, .ofNat 0), (0, .ofNat 0, .ofNat 0)), (2, 1, (0, .ofNat 0, .ofNat 1), (0, .ofNat 0, .ofNat 0), (0, .ofNat 0, .ofNat 0)), (2, 2, (2, .ofNat 1, .ofNat 0), (4, .ofNat 1, .ofNat 0), (0, .ofNat 0, .ofNat 0)), (0, 1, (0, .ofNat 0, .ofNat 0), (4, .ofNat 1, .ofNat 0), (0, .ofNat 0, .ofNat 0)), (2, 3, (2, .ofNat 1, .ofNat 0), (0, .ofNat 0, .ofNat 0), (0, .ofNat 0, .ofNat 0)), (2, 1, (0, .ofNat 0, .ofNat 1), (0, .ofNat 0, .ofNat 0), (0, .ofNat 0, .ofNat 0)), (2, 2, (1, .ofNat 1, .ofNat 0), (4, .ofNat 1, .ofNat 0), (0, .ofNat 0, .ofNat 0)), (0, 1, (0, .ofNat 0, .ofNat 0), (4, .ofNat 1, .ofNat 0), (0, .ofNat 0, .ofNat 0)), (2, 3, (1, .ofNat 1, .ofNat 0), (0, .ofNat 0, .ofNat 0), (0, .ofNat 0, .ofNat 0))], [(1, [(.ofNat 0, .ofNat 7)]), (2, [(.ofNat 0, .ofNat 7)]), (3, [(.negSucc 2147483647, .negSucc 0)]), (4, [(.ofNat 1, .ofNat 8)])], [], []),
  (0, [], [.inl (false, (0, .ofNat 0, .negSucc 1))], [(2, 0, (0, .ofNat 0, .ofNat 0), (0, .ofNat 0, .ofNat 0), (0, .ofNat 0, .ofNat 0)), (2, 0, (9, .ofNat 1, .ofNat 0), (5, .ofNat 1, .ofNat 0), (0, .ofNat 0, .ofNat 0)), (0, 3, (1, .ofNat 1, .ofNat 0), (9, .ofNat 1, .ofNat 0), (0, .ofNat 0, .ofNat 0)), (2, 3, (8, .ofNat 1, .ofNat 0), (0, .ofNat 0, .ofNat 0), (0, .ofNat 0, .ofNat 0)), (0, 4, (1, .ofNat 1, .ofNat 0), (7, .ofNat 1, .ofNat 0), (0, .ofNat 0, .ofNat 0)), (0, 4, (2, .ofNat 1, .ofNat 0), (6, .ofNat 1, .ofNat 0), (0, .ofNat 0, .ofNat 0)), (0, 3, (2, .ofNat 1, .ofNat 0), (5, .ofNat 1, .ofNat 0), (0, .ofNat 0, .ofNat 0)), (2, 5, (3, .ofNat 1, .ofNat 0), (0, .ofNat 0, .ofNat 3), (0, .ofNat 0, .ofNat 0)), (2, 3, (3, .ofNat 1, .ofNat 0), (0, .ofNat 0, .ofNat 0), (0, .ofNat 0, .ofNat 0)), (2, 1, (0, .ofNat 0, .ofNat 1), (0, .ofNat 0, .ofNat 0), (0, .ofNat 0, .ofNat 0)), (2, 2, (2, .ofNat 1, .ofNat 0), (4, .ofNat 1, .ofNat 0), (0, .ofNat 0, .ofNat 0)), (0, 1, (0, .ofNat 0, .ofNat 0), (4, .ofNat 1, .ofNat 0), (0, .ofNat 0, .ofNat 0)), (2, 3, (2, .ofNat 1, .ofNat 0), (0, .ofNat 0, .ofNat 0), (0, .ofNat 0, .ofNat 0)), (2, 1, (0, .ofNat 0, .ofNat 1), (0, .ofNat 0, .ofNat 0), (0, .ofNat 0, .ofNat 0)), (2, 2, (1, .ofNat 1, .ofNat 0), (4, .ofNat 1, .ofNat 0), (0, .ofNat 0, .ofNat 0)), (0, 1, (0, .ofNat 0, .ofNat 0), (4, .ofNat 1, .ofNat 0), (0, .ofNat 0, .ofNat 0)), (2, 3, (1, .ofNat 1, .ofNat 0), (0, .ofNat 0, .ofNat 0), (0, .ofNat 0, .ofNat 0))], [(1, [(.ofNat 0, .ofNat 7)]), (2, [(.ofNat 0, .ofNat 7)]), (3, [(.ofNat 0, .ofNat 3)]), (4, [(.ofNat 1, .ofNat 8)]), (5, [(.ofNat 0, .ofNat 1)]), (6, [(.ofNat 0, .ofNat 9)]), (7, [(.ofNat 0, .ofNat 9)]), (8, [(.ofNat 0, .ofNat 9)]), (9, [(.ofNat 0, .ofNat 1)])], [((7, .ofNat 1, .ofNat 0), (6, .negSucc 0, .ofNat 0), (8, .ofNat 1, .ofNat 0))], []),
  (0, [], [.inl (false, (0, .ofNat 0, .negSucc 1))], [(2, 0, (0, .ofNat 0, .ofNat 0), (0, .ofNat 0, .ofNat 0), (0, .ofNat 0, .ofNat 0)), (2, 5, (10, .ofNat 1, .ofNat 0), (0, .ofNat 0, .ofNat 0), (0, .ofNat 0, .ofNat 0)), (0, 4, (1, .ofNat 1, .ofNat 0), (7, .ofNat 1, .ofNat 0), (0, .ofNat 0, .ofNat 0)), (2, 0, (8, .ofNat 1, .ofNat 0), (0, .ofNat 0, .ofNat 0), (0, .ofNat 0, .ofNat 0)), (2, 1, (9, .ofNat 1, .ofNat 0), (5, .ofNat 1, .ofNat 0), (0, .ofNat 0, .ofNat 0)), (0, 3, (1, .ofNat 1, .ofNat 0), (9, .ofNat 1, .ofNat 0), (0, .ofNat 0, .ofNat 0)), (2, 3, (8, .ofNat 1, .ofNat 0), (0, .ofNat 0, .ofNat 0), (0, .ofNat 0, .ofNat 0)), (0, 4, (1, .ofNat 1, .ofNat 0), (7, .ofNat 1, .ofNat 0), (0, .ofNat 0, .ofNat 0)), (0, 4, (2, .ofNat 1, .ofNat 0), (6, .ofNat 1, .ofNat 0), (0, .ofNat 0, .ofNat 0)), (0, 3, (2, .ofNat 1, .ofNat 0), (5, .ofNat 1, .ofNat 0), (0, .ofNat 0, .ofNat 0)), (2, 5, (3, .ofNat 1, .ofNat 0), (0, .ofNat 0, .ofNat 3), (0, .ofNat 0, .ofNat 0)), (2, 3, (3, .ofNat 1, .ofNat 0), (0, .ofNat 0, .ofNat 0), (0, .ofNat 0, .ofNat 0)), (2, 1, (0, .ofNat 0, .ofNat 1), (0, .ofNat 0, .ofNat 0), (0, .ofNat 0, .ofNat 0)), (2, 2, (2, .ofNat 1, .ofNat 0), (4, .ofNat 1, .ofNat 0), (0, .ofNat 0, .ofNat 0)), (0, 1, (0, .ofNat 0, .ofNat 0), (4, .ofNat 1, .ofNat 0), (0, .ofNat 0, .ofNat 0)), (2, 3, (2, .ofNat 1, .ofNat 0), (0, .ofNat 0, .ofNat 0), (0, .ofNat 0, .ofNat 0)), (2, 1, (0, .ofNat 0, .ofNat 1), (0, .ofNat 0, .ofNat 0), (0, .ofNat 0, .ofNat 0)), (2, 2, (1, .ofNat 1, .ofNat 0), (4, .ofNat 1, .ofNat 0), (0, .ofNat 0, .ofNat 0)), (0, 1, (0, .ofNat 0, .ofNat 0), (4, .ofNat 1, .ofNat 0), (0, .ofNat 0, .ofNat 0)), (2, 3, (1, .ofNat 1, .ofNat 0), (0, .ofNat 0, .ofNat 0), (0, .ofNat 0, .ofNat 0))], [(1, [(.ofNat 0, .ofNat 7)]), (2, [(.ofNat 0, .ofNat 7)]), (3, [(.ofNat 0, .ofNat 3)]), (4, [(.ofNat 1, .ofNat 8)]), (5, [(.ofNat 0, .ofNat 1)]), (6, [(.ofNat 0, .ofNat 9)]), (7, [(.ofNat 0, .ofNat 9)]), (8, [(.ofNat 0, .ofNat 0)]), (9, [(.ofNat 0, .ofNat 1)]), (10, [(.ofNat 0, .ofNat 0)])], [((7, .ofNat 1, .ofNat 0), (6, .ofNat 1, .ofNat 0), (10, .ofNat 1, .ofNat 0)), ((7, .ofNat 1, .ofNat 0), (6, .negSucc 0, .ofNat 0), (8, .ofNat 1, .ofNat 0))], []),
  (59, [(0, .inr (.inl [0])), (1, .inl (false, (1, .ofNat 1, .ofNat 0))), (2, .inl (false, (2, .ofNat 1, .ofNat 0))), (3, .inl (false, (3, .ofNat 1, .ofNat 0)))], [.inl (false, (2, .ofNat 1, .ofNat 0)), .inl (false, (1, .ofNat 1, .ofNat 0)), .inr (.inl [1]), .inr (.inl [64])], [(2, 1, (0, .ofNat 0, .ofNat 1), (0, .ofNat 0, .ofNat 0), (0, .ofNat 0, .ofNat 0)), (2, 4, (10, .ofNat 1, .ofNat 0), (0, .ofNat 0, .ofNat 0), (0, .ofNat 0, .ofNat 0)), (0, 4, (1, .ofNat 1, .ofNat 0), (7, .ofNat 1, .ofNat 0), (0, .ofNat 0, .ofNat 0)), (2, 0, (8, .ofNat 1, .ofNat 0), (0, .ofNat 0, .ofNat 0), (0, .ofNat 0, .ofNat 0)), (2, 1, (9, .ofNat 1, .ofNat 0), (5, .ofNat 1, .ofNat 0), (0, .ofNat 0, .ofNat 0)), (0, 3, (1, .ofNat 1, .ofNat 0), (9, .ofNat 1, .ofNat 0), (0, .ofNat 0, .ofNat 0)), (2, 3, (8, .ofNat 1, .ofNat 0), (0, .ofNat 0, .ofNat 0), (0, .ofNat 0, .ofNat 0)), (0, 4, (1, .ofNat 1, .ofNat 0), (7, .ofNat 1, .ofNat 0), (0, .ofNat 0, .ofNat 0)), (0, 4, (2, .ofNat 1, .ofNat 0), (6, .ofNat 1, .ofNat 0), (0, .ofNat 0, .ofNat 0)), (0, 3, (2, .ofNat 1, .ofNat 0), (5, .ofNat 1, .ofNat 0), (0, .ofNat 0, .ofNat 0)), (2, 5, (3, .ofNat 1, .ofNat 0), (0, .ofNat 0, .ofNat 3), (0, .ofNat 0, .ofNat 0)), (2, 3, (3, .ofNat 1, .ofNat 0), (0, .ofNat 0, .ofNat 0), (0, .ofNat 0, .ofNat 0)), (2, 1, (0, .ofNat 0, .ofNat 1), (0, .ofNat 0, .ofNat 0), (0, .ofNat 0, .ofNat 0)), (2, 2, (2, .ofNat 1, .ofNat 0), (4, .ofNat 1, .ofNat 0), (0, .ofNat 0, .ofNat 0)), (0, 1, (0, .ofNat 0, .ofNat 0), (4, .ofNat 1, .ofNat 0), (0, .ofNat 0, .ofNat 0)), (2, 3, (2, .ofNat 1, .ofNat 0), (0, .ofNat 0, .ofNat 0), (0, .ofNat 0, .ofNat 0)), (2, 1, (0, .ofNat 0, .ofNat 1), (0, .ofNat 0, .ofNat 0), (0, .ofNat 0, .ofNat 0)), (2, 2, (1, .ofNat 1, .ofNat 0), (4, .ofNat 1, .ofNat 0), (0, .ofNat 0, .ofNat 0)), (0, 1, (0, .ofNat 0, .ofNat 0), (4, .ofNat 1, .ofNat 0), (0, .ofNat 0, .ofNat 0)), (2, 3, (1, .ofNat 1, .ofNat 0), (0, .ofNat 0, .ofNat 0), (0, .ofNat 0, .ofNat 0))], [(1, [(.ofNat 0, .ofNat 7)]), (2, [(.ofNat 0, .ofNat 7)]), (3, [(.ofNat 0, .ofNat 3)]), (4, [(.ofNat 1, .ofNat 8)]), (5, [(.ofNat 0, .ofNat 1)]), (6, [(.ofNat 0, .ofNat 9)]), (7, [(.ofNat 0, .ofNat 9)]), (8, [(.ofNat 0, .ofNat 0)]), (9, [(.ofNat 0, .ofNat 1)]), (10, [(.ofNat 1, .ofNat 18)])], [((7, .ofNat 1, .ofNat 0), (6, .ofNat 1, .ofNat 0), (10, .ofNat 1, .ofNat 0)), ((7, .ofNat 1, .ofNat 0), (6, .negSucc 0, .ofNat 0), (8, .ofNat 1, .ofNat 0))], []),
  (0, [], [.inl (false, (0, .ofNat 0, .negSucc 1))], [(2, 0, (0, .ofNat 0, .ofNat 0), (0, .ofNat 0, .ofNat 0), (0, .ofNat 0, .ofNat 0)), (2, 1, (8, .ofNat 1, .ofNat 0), (0, .ofNat 0, .ofNat 2), (0, .ofNat 0, .ofNat 0)), (2, 1, (8, .ofNat 1, .ofNat 0), (0, .ofNat 0, .ofNat 0), (0, .ofNat 0, .ofNat 0)), (2, 1, (9, .ofNat 1, .ofNat 0), (5, .ofNat 1, .ofNat 0), (0, .ofNat 0, .ofNat 0)), (0, 3, (1, .ofNat 1, .ofNat 0), (9, .ofNat 1, .ofNat 0), (0, .ofNat 0, .ofNat 0)), (2, 3, (8, .ofNat 1, .ofNat 0), (0, .ofNat 0, .ofNat 0), (0, .ofNat 0, .ofNat 0)), (0, 4, (1, .ofNat 1, .ofNat 0), (7, .ofNat 1, .ofNat 0), (0, .ofNat 0, .ofNat 0)), (0, 4, (2, .ofNat 1, .ofNat 0), (6, .ofNat 1, .ofNat 0), (0, .ofNat 0, .ofNat 0)), (0, 3, (2, .ofNat 1, .ofNat 0), (5, .ofNat 1, .ofNat 0), (0, .ofNat 0, .ofNat 0)), (2, 5, (3, .ofNat 1, .ofNat 0), (0, .ofNat 0, .ofNat 3), (0, .ofNat 0, .ofNat 0)), (2, 3, (3, .ofNat 1, .ofNat 0), (0, .ofNat 0, .ofNat 0), (0, .ofNat 0, .ofNat 0)), (2, 1, (0, .ofNat 0, .ofNat 1), (0, .ofNat 0, .ofNat 0), (0, .ofNat 0, .ofNat 0)), (2, 2, (2, .ofNat 1, .ofNat 0), (4, .ofNat 1, .ofNat 0), (0, .ofNat 0, .ofNat 0)), (0, 1, (0, .ofNat 0, .ofNat 0), (4, .ofNat 1, .ofNat 0), (0, .ofNat 0, .ofNat 0)), (2, 3, (2, .ofNat 1, .ofNat 0), (0, .ofNat 0, .ofNat 0), (0, .ofNat 0, .ofNat 0)), (2, 1, (0, .ofNat 0, .ofNat 1), (0, .ofNat 0, .ofNat 0), (0, .ofNat 0, .ofNat 0)), (2, 2, (1, .ofNat 1, .ofNat 0), (4, .ofNat 1, .ofNat 0), (0, .ofNat 0, .ofNat 0)), (0, 1, (0, .ofNat 0, .ofNat 0), (4, .ofNat 1, .ofNat 0), (0, .ofNat 0, .ofNat 0)), (2, 3, (1, .ofNat 1, .ofNat 0), (0, .ofNat 0, .ofNat 0), (0, .ofNat 0, .ofNat 0))], [(1, [(.ofNat 0, .ofNat 7)]), (2, [(.ofNat 0, .ofNat 7)]), (3, [(.ofNat 0, .ofNat 3)]), (4, [(.ofNat 1, .ofNat 8)]), (5, [(.ofNat 0, .ofNat 1)]), (6, [(.ofNat 0, .ofNat 9)]), (7, [(.ofNat 0, .ofNat 9)]), (8, [(.ofNat 1, .ofNat 1), (.ofNat 3, .ofNat 9)]), (9, [(.ofNat 0, .ofNat 1)])], [((7, .ofNat 1, .ofNat 0), (6, .negSucc 0, .ofNat 0), (8, .ofNat 1, .ofNat 0))], []),
  (0, [], [.inl (false, (0, .ofNat 0, .negSucc 1))], [(2, 0, (0, .ofNat 0, .ofNat 0), (0, .ofNat 0, .ofNat 0), (0, .ofNat 0, .ofNat 0)), (2, 5, (10, .ofNat 1, .ofNat 0), (0, .ofNat 0, .ofNat 0), (0, .ofNat 0, .ofNat 0)), (0, 4, (1, .ofNat 1, .ofNat 0), (7, .ofNat 1, .ofNat 0), (0, .ofNat 0, .ofNat 0)), (2, 0, (8, .ofNat 1, .ofNat 0), (0, .ofNat 0, .ofNat 2), (0, .ofNat 0, .ofNat 0)), (2, 1, (8, .ofNat 1, .ofNat 0), (0, .ofNat 0, .ofNat 0), (0, .ofNat 0, .ofNat 0)), (2, 1, (9, .ofNat 1, .ofNat 0), (5, .ofNat 1, .ofNat 0), (0, .ofNat 0, .ofNat 0)), (0, 3, (1, .ofNat 1, .ofNat 0), (9, .ofNat 1, .ofNat 0), (0, .ofNat 0, .ofNat 0)), (2, 3, (8, .ofNat 1, .ofNat 0), (0, .ofNat 0, .ofNat 0), (0, .ofNat 0, .ofNat 0)), (0, 4, (1, .ofNat 1, .ofNat 0), (7, .ofNat 1, .ofNat 0), (0, .ofNat 0, .ofNat 0)), (0, 4, (2, .ofNat 1, .ofNat 0), (6, .ofNat 1, .ofNat 0), (0, .ofNat 0, .ofNat 0)), (0, 3, (2, .ofNat 1, .ofNat 0), (5, .ofNat 1, .ofNat 0), (0, .ofNat 0, .ofNat 0)), (2, 5, (3, .ofNat 1, .ofNat 0), (0, .ofNat 0, .ofNat 3), (0, .ofNat 0, .ofNat 0)), (2, 3, (3, .ofNat 1, .ofNat 0), (0, .ofNat 0, .ofNat 0), (0, .ofNat 0, .ofNat 0)), (2, 1, (0, .ofNat 0, .ofNat 1), (0, .ofNat 0, .ofNat 0), (0, .ofNat 0, .ofNat 0)), (2, 2, (2, .ofNat 1, .ofNat 0), (4, .ofNat 1, .ofNat 0), (0, .ofNat 0, .ofNat 0)), (0, 1, (0, .ofNat 0, .ofNat 0), (4, .ofNat 1, .ofNat 0), (0, .ofNat 0, .ofNat 0)), (2, 3, (2, .ofNat 1, .ofNat 0), (0, .ofNat 0, .ofNat 0), (0, .ofNat 0, .ofNat 0)), (2, 1, (0, .ofNat 0, .ofNat 1), (0, .ofNat 0, .ofNat 0), (0, .ofNat 0, .ofNat 0)), (2, 2, (1, .ofNat 1, .ofNat 0), (4, .ofNat 1, .ofNat 0), (0, .ofNat 0, .ofNat 0)), (0, 1, (0, .ofNat 0, .ofNat 0), (4, .ofNat 1, .ofNat 0), (0, .ofNat 0, .ofNat 0)), (2, 3, (1, .ofNat 1, .ofNat 0), (0, .ofNat 0, .ofNat 0), (0, .ofNat 0, .ofNat 0))], [(1, [(.ofNat 0, .ofNat 7)]), (2, [(.ofNat 0, .ofNat 7)]), (3, [(.ofNat 0, .ofNat 3)]), (4, [(.ofNat 1, .ofNat 8)]), (5, [(.ofNat 0, .ofNat 1)]), (6, [(.ofNat 0, .ofNat 9)]), (7, [(.ofNat 0, .ofNat 9)]), (8, [(.ofNat 2, .ofNat 2)]), (9, [(.ofNat 0, .ofNat 1)]), (10, [(.ofNat 0, .ofNat 0)])], [((7, .ofNat 1, .ofNat 0), (6, .ofNat 1, .ofNat 0), (10, .ofNat 1, .ofNat 0)), ((7, .ofNat 1, .ofNat 0), (6, .negSucc 0, .ofNat 0), (8, .ofNat 1, .ofNat 0))], []),
  (59, [(0, .inr (.inl [0])), (1, .inl (false, (1, .ofNat 1, .ofNat 0))), (2, .inl (false, (2, .ofNat 1, .ofNat 0))), (3, .inl (false, (3, .ofNat 1, .ofNat 0)))], [.inl (false, (2, .ofNat 1, .ofNat 0)), .inl (false, (1, .ofNat 1, .ofNat 0)), .inr (.inl [1]), .inr (.inl [64])], [(2, 1, (0, .ofNat 0, .ofNat 1), (0, .ofNat 0, .ofNat 0), (0, .ofNat 0, .ofNat 0)), (2, 4, (10, .ofNat 1, .ofNat 0), (0, .ofNat 0, .ofNat 0), (0, .ofNat 0, .ofNat 0)), (0, 4, (1, .ofNat 1, .ofNat 0), (7, .ofNat 1, .ofNat 0), (0, .ofNat 0, .ofNat 0)), (2, 0, (8, .ofNat 1, .ofNat 0), (0, .ofNat 0, .ofNat 2), (0, .ofNat 0, .ofNat 0)), (2, 1, (8, .ofNat 1, .ofNat 0), (0, .ofNat 0, .ofNat 0), (0, .ofNat 0, .ofNat 0)), (2, 1, (9, .ofNat 1, .ofNat 0), (5, .ofNat 1, .ofNat 0), (0, .ofNat 0, .ofNat 0)), (0, 3, (1, .ofNat 1, .ofNat 0), (9, .ofNat 1, .ofNat 0), (0, .ofNat 0, .ofNat 0)), (2, 3, (8, .ofNat 1, .ofNat 0), (0, .ofNat 0, .ofNat 0), (0, .ofNat 0, .ofNat 0)), (0, 4, (1, .ofNat 1, .ofNat 0), (7, .ofNat 1, .ofNat 0), (0, .ofNat 0, .ofNat 0)), (0, 4, (2, .ofNat 1, .ofNat 0), (6, .ofNat 1, .ofNat 0), (0, .ofNat 0, .ofNat 0)), (0, 3, (2, .ofNat 1, .ofNat 0), (5, .ofNat 1, .ofNat 0), (0, .ofNat 0, .ofNat 0)), (2, 5, (3, .ofNat 1, .ofNat 0), (0, .ofNat 0, .ofNat 3), (0, .ofNat 0, .ofNat 0)), (2, 3, (3, .ofNat 1, .ofNat 0), (0, .ofNat 0, .ofNat 0), (0, .ofNat 0, .ofNat 0)), (2, 1, (0, .ofNat 0, .ofNat 1), (0, .ofNat 0, .ofNat 0), (0, .ofNat 0, .ofNat 0)), (2, 2, (2, .ofNat 1, .ofNat 0), (4, .ofNat 1, .ofNat 0), (0, .ofNat 0, .ofNat 0)), (0, 1, (0, .ofNat 0, .ofNat 0), (4, .ofNat 1, .ofNat 0), (0, .ofNat 0, .ofNat 0)), (2, 3, (2, .ofNat 1, .ofNat 0), (0, .ofNat 0, .ofNat 0), (0, .ofNat 0, .ofNat 0)), (2, 1, (0, .ofNat 0, .ofNat 1), (0, .ofNat 0, .ofNat 0), (0, .ofNat 0, .ofNat 0)), (2, 2, (1, .ofNat 1, .ofNat 0), (4, .ofNat 1, .ofNat 0), (0, .ofNat 0, .ofNat 0)), (0, 1, (0, .ofNat 0, .ofNat 0), (4, .ofNat 1, .ofNat 0), (0, .ofNat 0, .ofNat 0)), (2, 3, (1, .ofNat 1, .ofNat 0), (0, .ofNat 0, .ofNat 0), (0, .ofNat 0, .ofNat 0))], [(1, [(.ofNat 0, .ofNat 7)]), (2, [(.ofNat 0, .ofNat 7)]), (3, [(.ofNat 0, .ofNat 3)]), (4, [(.ofNat 1, .ofNat 8)]), (5, [(.ofNat 0, .ofNat 1)]), (6, [(.ofNat 0, .ofNat 9)]), (7, [(.ofNat 0, .ofNat 9)]), (8, [(.ofNat 2, .ofNat 2)]), (9, [(.ofNat 0, .ofNat 1)]), (10, [(.ofNat 1, .ofNat 18)])], [((7, .ofNat 1, .ofNat 0), (6, .ofNat 1, .ofNat 0), (10, .ofNat 1, .ofNat 0)), ((7, .ofNat 1, .ofNat 0), (6, .negSucc 0, .ofNat 0), (8, .ofNat 1, .ofNat 0))], []),
  (0, [], [.inl (false, (0, .ofNat 0, .negSucc 1))], [(2, 0, (0, .ofNat 0, .ofNat 0), (0, .ofNat 0, .ofNat 0), (0, .ofNat 0, .ofNat 0)), (2, 0, (9, .ofNat 1, .ofNat 0), (5, .ofNat 1, .ofNat 0), (0, .ofNat 0, .ofNat 0)), (0, 3, (1, .ofNat 1, .ofNat 0), (9, .ofNat 1, .ofNat 0), (0, .ofNat 0, .ofNat 0)), (2, 2, (8, .ofNat 1, .ofNat 0), (0, .ofNat 0, .ofNat 0), (0, .ofNat 0, .ofNat 0)), (0, 4, (1, .ofNat 1, .ofNat 0), (7, .ofNat 1, .ofNat 0), (0, .ofNat 0, .ofNat 0)), (0, 4, (2, .ofNat 1, .ofNat 0), (6, .ofNat 1, .ofNat 0), (0, .ofNat 0, .ofNat 0)), (0, 3, (2, .ofNat 1, .ofNat 0), (5, .ofNat 1, .ofNat 0), (0, .ofNat 0, .ofNat 0)), (2, 5, (3, .ofNat 1, .ofNat 0), (0, .ofNat 0, .ofNat 3), (0, .ofNat 0, .ofNat 0)), (2, 3, (3, .ofNat 1, .ofNat 0), (0, .ofNat 0, .ofNat 0), (0, .ofNat 0, .ofNat 0)), (2, 1, (0, .ofNat 0, .ofNat 1), (0, .ofNat 0, .ofNat 0), (0, .ofNat 0, .ofNat 0)), (2, 2, (2, .ofNat 1, .ofNat 0), (4, .ofNat 1, .ofNat 0), (0, .ofNat 0, .ofNat 0)), (0, 1, (0, .ofNat 0, .ofNat 0), (4, .ofNat 1, .ofNat 0), (0, .ofNat 0, .ofNat 0)), (2, 3, (2, .ofNat 1, .ofNat 0), (0, .ofNat 0, .ofNat 0), (0, .ofNat 0, .ofNat 0)), (2, 1, (0, .ofNat 0, .ofNat 1), (0, .ofNat 0, .ofNat 0), (0, .ofNat 0, .ofNat 0)), (2, 2, (1, .ofNat 1, .ofNat 0), (4, .ofNat 1, .ofNat 0), (0, .ofNat 0, .ofNat 0)), (0, 1, (0, .ofNat 0, .ofNat 0), (4, .ofNat 1, .ofNat 0), (0, .ofNat 0, .ofNat 0)), (2, 3, (1, .ofNat 1, .ofNat 0), (0, .ofNat 0, .ofNat 0), (0, .ofNat 0, .ofNat 0))], [(1, [(.ofNat 0, .ofNat 7)]), (2, [(.ofNat 0, .ofNat 7)]), (3, [(.ofNat 0, .ofNat 3)]), (4, [(.ofNat 1, .ofNat 8)]), (5, [(.ofNat 0, .ofNat 1)]), (6, [(.ofNat 0, .ofNat 9)]), (7, [(.ofNat 0, .ofNat 9)]), (8, [(.negSucc 8, .negSucc 0)]), (9, [(.ofNat 0, .ofNat 1)])], [((7, .ofNat 1, .ofNat 0), (6, .negSucc 0, .ofNat 0), (8, .ofNat 1, .ofNat 0))], []),
  (0, [], [.inl (false, (0, .ofNat 0, .negSucc 1))], [(2, 0, (0, .ofNat 0, .ofNat 0), (0, .ofNat 0, .ofNat 0), (0, .ofNat 0, .ofNat 0)), (2, 1, (8, .negSucc 0, .ofNat 0), (0, .ofNat 0, .ofNat 2), (0, .ofNat 0, .ofNat 0)), (2, 1, (8, .negSucc 0, .ofNat 0), (0, .ofNat 0, .ofNat 0), (0, .ofNat 0, .ofNat 0)), (2, 1, (9, .ofNat 1, .ofNat 0), (5, .ofNat 1, .ofNat 0), (0, .ofNat 0, .ofNat 0)), (0, 3, (1, .ofNat 1, .ofNat 0), (9, .ofNat 1, .ofNat 0), (0, .ofNat 0, .ofNat 0)), (2, 2, (8, .ofNat 1, .ofNat 0), (0, .ofNat 0, .ofNat 0), (0, .ofNat 0, .ofNat 0)), (0, 4, (1, .ofNat 1, .ofNat 0), (7, .ofNat 1, .ofNat 0), (0, .ofNat 0, .ofNat 0)), (0, 4, (2, .ofNat 1, .ofNat 0), (6, .ofNat 1, .ofNat 0), (0, .ofNat 0, .ofNat 0)), (0, 3, (2, .ofNat 1, .ofNat 0), (5, .ofNat 1, .ofNat 0), (0, .ofNat 0, .ofNat 0)), (2, 5, (3, .ofNat 1, .ofNat 0), (0, .ofNat 0, .ofNat 3), (0, .ofNat 0, .ofNat 0)), (2, 3, (3, .ofNat 1, .ofNat 0), (0, .ofNat 0, .ofNat 0), (0, .ofNat 0, .ofNat 0)), (2, 1, (0, .ofNat 0, .ofNat 1), (0, .ofNat 0, .ofNat 0), (0, .ofNat 0, .ofNat 0)), (2, 2, (2, .ofNat 1, .ofNat 0), (4, .ofNat 1, .ofNat 0), (0, .ofNat 0, .ofNat 0)), (0, 1, (0, .ofNat 0, .ofNat 0), (4, .ofNat 1, .ofNat 0), (0, .ofNat 0, .ofNat 0)), (2, 3, (2, .ofNat 1, .ofNat 0), (0, .ofNat 0, .ofNat 0), (0, .ofNat 0, .ofNat 0)), (2, 1, (0, .ofNat 0, .ofNat 1), (0, .ofNat 0, .ofNat 0), (0, .ofNat 0, .ofNat 0)), (2, 2, (1, .ofNat 1, .ofNat 0), (4, .ofNat 1, .ofNat 0), (0, .ofNat 0, .ofNat 0)), (0, 1, (0, .ofNat 0, .ofNat 0), (4, .ofNat 1, .ofNat 0), (0, .ofNat 0, .ofNat 0)), (2, 3, (1, .ofNat 1, .ofNat 0), (0, .ofNat 0, .ofNat 0), (0, .ofNat 0, .ofNat 0))], [(1, [(.ofNat 0, .ofNat 7)]), (2, [(.ofNat 0, .ofNat 7)]), (3, [(.ofNat 0, .ofNat 3)]), (4, [(.ofNat 1, .ofNat 8)]), (5, [(.ofNat 0, .ofNat 1)]), (6, [(.ofNat 0, .ofNat 9)]), (7, [(.ofNat 0, .ofNat 9)]), (8, [(.negSucc 8, .negSucc 2), (.negSucc 0, .negSucc 0)]), (9, [(.ofNat 0, .ofNat 1)])], [((7, .ofNat 1, .ofNat 0), (6, .negSucc 0, .ofNat 0), (8, .ofNat 1, .ofNat 0))], []),
  (0, [], [.inl (false, (0, .ofNat 0, .negSucc 1))], [(2, 0, (0, .ofNat 0, .ofNat 0), (0, .ofNat 0, .ofNat 0), (0, .ofNat 0, .ofNat 0)), (2, 5, (10, .ofNat 1, .ofNat 0), (0, .ofNat 0, .ofNat 0), (0, .ofNat 0, .ofNat 0)), (0, 4, (1, .ofNat 1, .ofNat 0), (7, .ofNat 1, .ofNat 0), (0, .ofNat 0, .ofNat 0)), (2, 0, (8, .negSucc 0, .ofNat 0), (0, .ofNat 0, .ofNat 2), (0, .ofNat 0, .ofNat 0)), (2, 1, (8, .negSucc 0, .ofNat 0), (0, .ofNat 0, .ofNat 0), (0, .ofNat 0, .ofNat 0)), (2, 1, (9, .ofNat 1, .ofNat 0), (5, .ofNat 1, .ofNat 0), (0, .ofNat 0, .ofNat 0)), (0, 3, (1, .ofNat 1, .ofNat 0), (9, .ofNat 1, .ofNat 0), (0, .ofNat 0, .ofNat 0)), (2, 2, (8, .ofNat 1, .ofNat 0), (0, .ofNat 0, .ofNat 0), (0, .ofNat 0, .ofNat 0)), (0, 4, (1, .ofNat 1, .ofNat 0), (7, .ofNat 1, .ofNat 0), (0, .ofNat 0, .ofNat 0)), (0, 4, (2, .ofNat 1, .ofNat 0), (6, .ofNat 1, .ofNat 0), (0, .ofNat 0, .ofNat 0)), (0, 3, (2, .ofNat 1, .ofNat 0), (5, .ofNat 1, .ofNat 0), (0, .ofNat 0, .ofNat 0)), (2, 5, (3, .ofNat 1, .ofNat 0), (0, .ofNat 0, .ofNat 3), (0, .ofNat 0, .ofNat 0)), (2, 3, (3, .ofNat 1, .ofNat 0), (0, .ofNat 0, .ofNat 0), (0, .ofNat 0, .ofNat 0)), (2, 1, (0, .ofNat 0, .ofNat 1), (0, .ofNat 0, .ofNat 0), (0, .ofNat 0, .ofNat 0)), (2, 2, (2, .ofNat 1, .ofNat 0), (4, .ofNat 1, .ofNat 0), (0, .ofNat 0, .ofNat 0)), (0, 1, (0, .ofNat 0, .ofNat 0), (4, .ofNat 1, .ofNat 0), (0, .ofNat 0, .ofNat 0)), (2, 3, (2, .ofNat 1, .ofNat 0), (0, .ofNat 0, .ofNat 0), (0, .ofNat 0, .ofNat 0)), (2, 1, (0, .ofNat 0, .ofNat 1), (0, .ofNat 0, .ofNat 0), (0, .ofNat 0, .ofNat 0)), (2, 2, (1, .ofNat 1, .ofNat 0), (4, .ofNat 1, .ofNat 0), (0, .ofNat 0, .ofNat 0)), (0, 1, (0, .ofNat 0, .ofNat 0), (4, .ofNat 1, .ofNat 0), (0, .ofNat 0, .ofNat 0)), (2, 3, (1, .ofNat 1, .ofNat 0), (0, .ofNat 0, .ofNat 0), (0, .ofNat 0, .ofNat 0))], [(1, [(.ofNat 0, .ofNat 7)]), (2, [(.ofNat 0, .ofNat 7)]), (3, [(.ofNat 0, .ofNat 3)]), (4, [(.ofNat 1, .ofNat 8)]), (5, [(.ofNat 0, .ofNat 1)]), (6, [(.ofNat 0, .ofNat 9)]), (7, [(.ofNat 0, .ofNat 9)]), (8, [(.negSucc 1, .negSucc 1)]), (9, [(.ofNat 0, .ofNat 1)]), (10, [(.ofNat 0, .ofNat 0)])], [((7, .ofNat 1, .ofNat 0), (6, .ofNat 1, .ofNat 0), (10, .ofNat 1, .ofNat 0)), ((7, .ofNat 1, .ofNat 0), (6, .negSucc 0, .ofNat 0), (8, .ofNat 1, .ofNat 0))], []),
  (59, [(0, .inr (.inl [0])), (1, .inl (false, (1, .ofNat 1, .ofNat 0))), (2, .inl (false, (2, .ofNat 1, .ofNat 0))), (3, .inl (false, (3, .ofNat 1, .ofNat 0)))], [.inl (false, (2, .ofNat 1, .ofNat 0)), .inl (false, (1, .ofNat 1, .ofNat 0)), .inr (.inl [1]), .inr (.inl [64])], [(2, 1, (0, .ofNat 0, .ofNat 1), (0, .ofNat 0, .ofNat 0), (0, .ofNat 0, .ofNat 0)), (2, 4, (10, .ofNat 1, .ofNat 0), (0, .ofNat 0, .ofNat 0), (0, .ofNat 0, .ofNat 0)), (0, 4, (1, .ofNat 1, .ofNat 0), (7, .ofNat 1, .ofNat 0), (0, .ofNat 0, .ofNat 0)), (2, 0, (8, .negSucc 0, .ofNat 0), (0, .ofNat 0, .ofNat 2), (0, .ofNat 0, .ofNat 0)), (2, 1, (8, .negSucc 0, .ofNat 0), (0, .ofNat 0, .ofNat 0), (0, .ofNat 0, .ofNat 0)), (2, 1, (9, .ofNat 1, .ofNat 0), (5, .ofNat 1, .ofNat 0), (0, .ofNat 0, .ofNat 0)), (0, 3, (1, .ofNat 1, .ofNat 0), (9, .ofNat 1, .ofNat 0), (0, .ofNat 0, .ofNat 0)), (2, 2, (8, .ofNat 1, .ofNat 0), (0, .ofNat 0, .ofNat 0), (0, .ofNat 0, .ofNat 0)), (0, 4, (1, .ofNat 1, .ofNat 0), (7, .ofNat 1, .ofNat 0), (0, .ofNat 0, .ofNat 0)), (0, 4, (2, .ofNat 1, .ofNat 0), (6, .ofNat 1, .ofNat 0), (0, .ofNat 0, .ofNat 0)), (0, 3, (2, .ofNat 1, .ofNat 0), (5, .ofNat 1, .ofNat 0), (0, .ofNat 0, .ofNat 0)), (2, 5, (3, .ofNat 1, .ofNat 0), (0, .ofNat 0, .ofNat 3), (0, .ofNat 0, .ofNat 0)), (2, 3, (3, .ofNat 1, .ofNat 0), (0, .ofNat 0, .ofNat 0), (0, .ofNat 0, .ofNat 0)), (2, 1, (0, .ofNat 0, .ofNat 1), (0, .ofNat 0, .ofNat 0), (0, .ofNat 0, .ofNat 0)), (2, 2, (2, .ofNat 1, .ofNat 0), (4, .ofNat 1, .ofNat 0), (0, .ofNat 0, .ofNat 0)), (0, 1, (0, .ofNat 0, .ofNat 0), (4, .ofNat 1, .ofNat 0), (0, .ofNat 0, .ofNat 0)), (2, 3, (2, .ofNat 1, .ofNat 0), (0, .ofNat 0, .ofNat 0), (0, .ofNat 0, .ofNat 0)), (2, 1, (0, .ofNat 0, .ofNat 1), (0, .ofNat 0, .ofNat 0), (0, .ofNat 0, .ofNat 0)), (2, 2, (1, .ofNat 1, .ofNat 0), (4, .ofNat 1, .ofNat 0), (0, .ofNat 0, .ofNat 0)), (0, 1, (0, .ofNat 0, .ofNat 0), (4, .ofNat 1, .ofNat 0), (0, .ofNat 0, .ofNat 0)), (2, 3, (1, .ofNat 1, .ofNat 0), (0, .ofNat 0, .ofNat 0), (0, .ofNat 0, .ofNat 0))], [(1, [(.ofNat 0, .ofNat 7)]), (2, [(.ofNat 0, .ofNat 7)]), (3, [(.ofNat 0, .ofNat 3)]), (4, [(.ofNat 1, .ofNat 8)]), (5, [(.ofNat 0, .ofNat 1)]), (6, [(.ofNat 0, .ofNat 9)]), (7, [(.ofNat 0, .ofNat 9)]), (8, [(.negSucc 1, .negSucc 1)]), (9, [(.ofNat 0, .ofNat 1)]), (10, [(.ofNat 1, .ofNat 18)])], [((7, .ofNat 1, .ofNat 0), (6, .ofNat 1, .ofNat 0), (10, .ofNat 1, .ofNat 0)), ((7, .ofNat 1, .ofNat 0), (6, .negSucc 0, .ofNat 0), (8, .ofNat 1, .ofNat 0))], []),
  (0, [], [.inl (false, (0, .ofNat 0, .negSucc 0))], [(2, 4, (3, .ofNat 1, .ofNat 0), (0, .ofNat 0, .ofNat 3), (0, .ofNat 0, .ofNat 0)), (2, 3, (3, .ofNat 1, .ofNat 0), (0, .ofNat 0, .ofNat 0), (0, .ofNat 0, .ofNat 0)), (2, 1, (0, .ofNat 0, .ofNat 1), (0, .ofNat 0, .ofNat 0), (0, .ofNat 0, .ofNat 0)), (2, 2, (2, .ofNat 1, .ofNat 0), (4, .ofNat 1, .ofNat 0), (0, .ofNat 0, .ofNat 0)), (0, 1, (0, .ofNat 0, .ofNat 0), (4, .ofNat 1, .ofNat 0), (0, .ofNat 0, .ofNat 0)), (2, 3, (2, .ofNat 1, .ofNat 0), (0, .ofNat 0, .ofNat 0), (0, .ofNat 0, .ofNat 0)), (2, 1, (0, .ofNat 0, .ofNat 1), (0, .ofNat 0, .ofNat 0), (0, .ofNat 0, .ofNat 0)), (2, 2, (1, .ofNat 1, .ofNat 0), (4, .ofNat 1, .ofNat 0), (0, .ofNat 0, .ofNat 0)), (0, 1, (0, .ofNat 0, .ofNat 0), (4, .ofNat 1, .ofNat 0), (0, .ofNat 0, .ofNat 0)), (2, 3, (1, .ofNat 1, .ofNat 0), (0, .ofNat 0, .ofNat 0), (0, .ofNat 0, .ofNat 0))], [(1, [(.ofNat 0, .ofNat 7)]), (2, [(.ofNat 0, .ofNat 7)]), (3, [(.ofNat 4, .ofNat 2147483647)]), (4, [(.ofNat 1, .ofNat 8)])], [], [])]
set_option maxRecDepth 1000000 in
theorem sg_pn_a_g : sg_go [] [58] 3000 127 0 3 4 [(0, [(.ofNat 0, .ofNat 0)]), (1, [(.negSucc 2147483647, .ofNat 2147483647)]), (2, [(.negSucc 2147483647, .ofNat 2147483647)]), (3, [(.negSucc 2147483647, .ofNat 2147483647)])] [] [] [] [(0, .inr (.inl [0])), (1, .inl (false, (1, .ofNat 1, .ofNat 0))), (2, .inl (false, (2, .ofNat 1, .ofNat 0))), (3, .inl (false, (3, .ofNat 1, .ofNat 0)))] [] [] sg_pn_a_Z = true := by decide +kernel
set_option maxRecDepth 100000 in
theorem sg_pn_a {Q : Option Value × am_S → Prop} {d : Nat} {S : am_S} {L : am_L} {x1 x2 x3 : Int} (hd : 3 ≤ d) (hP : ax_P0 none S) (l0 : lc L 0 0) (l1 : li L 1 x1) (l2 : li L 2 x2) (l3 : li L 3 x3) (b1 : ((-2147483648) ≤ x1 ∧ x1 ≤ 2147483647)) (b2 : ((-2147483648) ≤ x2 ∧ x2 ≤ 2147483647)) (b3 : ((-2147483648) ≤ x3 ∧ x3 ≤ 2147483647))
    (k0 : ∀ (i1 : Int32), x1 < 0 → ((-2147483648) ≤ x1 ∧ x1 ≤ (-1)) → i1.toInt = (-1) → Q (some (.int i1), S))
    (k1 : ∀ (x4 : Int) (i1 : Int32), 0 ≤ x1 → rd S 1 0 = x4 → x4 ≤ x1 → (0 ≤ x1 ∧ x1 ≤ 2147483647) → (0 ≤ x4 ∧ x4 ≤ 8) → i1.toInt = (-1) → Q (some (.int i1), S))
    (k2 : ∀ (x4 : Int) (i1 : Int32), 0 ≤ x1 → rd S 1 0 = x4 → x1 < x4 → x2 < 0 → (0 ≤ x1 ∧ x1 ≤ 7) → ((-2147483648) ≤ x2 ∧ x2 ≤ (-1)) → (1 ≤ x4 ∧ x4 ≤ 8) → i1.toInt = (-1) → Q (some (.int i1), S))
    (k3 : ∀ (x4 : Int) (i1 : Int32), 0 ≤ x1 → rd S 1 0 = x4 → x1 < x4 → 0 ≤ x2 → x4 ≤ x2 → (0 ≤ x1 ∧ x1 ≤ 7) → (1 ≤ x2 ∧ x2 ≤ 2147483647) → (1 ≤ x4 ∧ x4 ≤ 8) → i1.toInt = (-1) → Q (some (.int i1), S))
    (k4 : ∀ (x4 : Int) (i1 : Int32), 0 ≤ x1 → rd S 1 0 = x4 → x1 < x4 → 0 ≤ x2 → x2 < x4 → x3 < 0 → (0 ≤ x1 ∧ x1 ≤ 7) → (0 ≤ x2 ∧ x2 ≤ 7) → ((-2147483648) ≤ x3 ∧ x3 ≤ (-1)) → (1 ≤ x4 ∧ x4 ≤ 8) → i1.toInt = (-1) → Q (some (.int i1), S))
    (k5 : ∀ (x4 x5 x6 x7 x8 x9 : Int) (i1 : Int32), 0 ≤ x1 → rd S 1 0 = x4 → x1 < x4 → 0 ≤ x2 → x2 < x4 → 0 ≤ x3 → x3 ≤ 3 → rd S 3 x2 = x5 → rd S 4 x2 = x6 → rd S 4 x1 = x7 → 0 ≤ x8 → rd S 3 x1 = x9 → x9 = x5 → (0 ≤ x1 ∧ x1 ≤ 7) → (0 ≤ x2 ∧ x2 ≤ 7) → (0 ≤ x3 ∧ x3 ≤ 3) → (1 ≤ x4 ∧ x4 ≤ 8) → (0 ≤ x5 ∧ x5 ≤ 1) → (0 ≤ x6 ∧ x6 ≤ 9) → (0 ≤ x7 ∧ x7 ≤ 9) → (0 ≤ x8 ∧ x8 ≤ 9) → (0 ≤ x9 ∧ x9 ≤ 1) → x7 + ((-1) * x6 + 0) = x8 → i1.toInt = (-2) → Q (some (.int i1), S))
    (k6 : ∀ (x4 x5 x6 x7 x8 x9 x10 : Int) (i1 : Int32), 0 ≤ x1 → rd S 1 0 = x4 → x1 < x4 → 0 ≤ x2 → x2 < x4 → 0 ≤ x3 → x3 ≤ 3 → rd S 3 x2 = x5 → rd S 4 x2 = x6 → rd S 4 x1 = x7 → 0 ≤ x8 → rd S 3 x1 = x9 → x9 ≠ x5 → x8 = 0 → x10 ≤ 0 → (0 ≤ x1 ∧ x1 ≤ 7) → (0 ≤ x2 ∧ x2 ≤ 7) → (0 ≤ x3 ∧ x3 ≤ 3) → (1 ≤ x4 ∧ x4 ≤ 8) → (0 ≤ x5 ∧ x5 ≤ 1) → (0 ≤ x6 ∧ x6 ≤ 9) → (0 ≤ x7 ∧ x7 ≤ 9) → (0 ≤ x8 ∧ x8 ≤ 0) → (0 ≤ x9 ∧ x9 ≤ 1) → (0 ≤ x10 ∧ x10 ≤ 0) → x7 + x6 = x10 → x7 + ((-1) * x6 + 0) = x8 → i1.toInt = (-2) → Q (some (.int i1), S))
    (k7 : ∀ (x4 x5 x6 x7 x8 x9 x10 : Int) (L' : am_L) (i1 : Int32) (i2 : Int32), 0 ≤ x1 → rd S 1 0 = x4 → x1 < x4 → 0 ≤ x2 → x2 < x4 → 0 ≤ x3 → x3 ≤ 3 → rd S 3 x2 = x5 → rd S 4 x2 = x6 → rd S 4 x1 = x7 → 0 ≤ x8 → rd S 3 x1 = x9 → x9 ≠ x5 → x8 = 0 → 0 < x10 → (0 ≤ x1 ∧ x1 ≤ 7) → (0 ≤ x2 ∧ x2 ≤ 7) → (0 ≤ x3 ∧ x3 ≤ 3) → (1 ≤ x4 ∧ x4 ≤ 8) → (0 ≤ x5 ∧ x5 ≤ 1) → (0 ≤ x6 ∧ x6 ≤ 9) → (0 ≤ x7 ∧ x7 ≤ 9) → (0 ≤ x8 ∧ x8 ≤ 0) → (0 ≤ x9 ∧ x9 ≤ 1) → (1 ≤ x10 ∧ x10 ≤ 18) → x7 + x6 = x10 → x7 + ((-1) * x6 + 0) = x8 → lc L' 0 0 → li L' 1 x1 → li L' 2 x2 → li L' 3 x3 → i1.toInt = x2 → i2.toInt = x1 → am_V none d 127 58 L' ((.int i1) :: (.int i2) :: (.ref 1) :: (.ref 64) :: []) S Q)
    (k8 : ∀ (x4 x5 x6 x7 x8 x9 : Int) (i1 : Int32), 0 ≤ x1 → rd S 1 0 = x4 → x1 < x4 → 0 ≤ x2 → x2 < x4 → 0 ≤ x3 → x3 ≤ 3 → rd S 3 x2 = x5 → rd S 4 x2 = x6 → rd S 4 x1 = x7 → 0 ≤ x8 → rd S 3 x1 = x9 → x9 ≠ x5 → x8 ≠ 0 → x8 ≠ 2 → (0 ≤ x1 ∧ x1 ≤ 7) → (0 ≤ x2 ∧ x2 ≤ 7) → (0 ≤ x3 ∧ x3 ≤ 3) → (1 ≤ x4 ∧ x4 ≤ 8) → (0 ≤ x5 ∧ x5 ≤ 1) → (0 ≤ x6 ∧ x6 ≤ 9) → (0 ≤ x7 ∧ x7 ≤ 9) → (1 ≤ x8 ∧ x8 ≤ 1) ∨ (3 ≤ x8 ∧ x8 ≤ 9) → (0 ≤ x9 ∧ x9 ≤ 1) → x7 + ((-1) * x6 + 0) = x8 → i1.toInt = (-2) → Q (some (.int i1), S))
    (k9 : ∀ (x4 x5 x6 x7 x8 x9 x10 : Int) (i1 : Int32), 0 ≤ x1 → rd S 1 0 = x4 → x1 < x4 → 0 ≤ x2 → x2 < x4 → 0 ≤ x3 → x3 ≤ 3 → rd S 3 x2 = x5 → rd S 4 x2 = x6 → rd S 4 x1 = x7 → 0 ≤ x8 → rd S 3 x1 = x9 → x9 ≠ x5 → x8 ≠ 0 → x8 = 2 → x10 ≤ 0 → (0 ≤ x1 ∧ x1 ≤ 7) → (0 ≤ x2 ∧ x2 ≤ 7) → (0 ≤ x3 ∧ x3 ≤ 3) → (1 ≤ x4 ∧ x4 ≤ 8) → (0 ≤ x5 ∧ x5 ≤ 1) → (0 ≤ x6 ∧ x6 ≤ 9) → (0 ≤ x7 ∧ x7 ≤ 9) → (2 ≤ x8 ∧ x8 ≤ 2) → (0 ≤ x9 ∧ x9 ≤ 1) → (0 ≤ x10 ∧ x10 ≤ 0) → x7 + x6 = x10 → x7 + ((-1) * x6 + 0) = x8 → i1.toInt = (-2) → Q (some (.int i1), S))
    (k10 : ∀ (x4 x5 x6 x7 x8 x9 x10 : Int) (L' : am_L) (i1 : Int32) (i2 : Int32), 0 ≤ x1 → rd S 1 0 = x4 → x1 < x4 → 0 ≤ x2 → x2 < x4 → 0 ≤ x3 → x3 ≤ 3 → rd S 3 x2 = x5 → rd S 4 x2 = x6 → rd S 4 x1 = x7 → 0 ≤ x8 → rd S 3 x1 = x9 → x9 ≠ x5 → x8 ≠ 0 → x8 = 2 → 0 < x10 → (0 ≤ x1 ∧ x1 ≤ 7) → (0 ≤ x2 ∧ x2 ≤ 7) → (0 ≤ x3 ∧ x3 ≤ 3) → (1 ≤ x4 ∧ x4 ≤ 8) → (0 ≤ x5 ∧ x5 ≤ 1) → (0 ≤ x6 ∧ x6 ≤ 9) → (0 ≤ x7 ∧ x7 ≤ 9) → (2 ≤ x8 ∧ x8 ≤ 2) → (0 ≤ x9 ∧ x9 ≤ 1) → (1 ≤ x10 ∧ x10 ≤ 18) → x7 + x6 = x10 → x7 + ((-1) * x6 + 0) = x8 → lc L' 0 0 → li L' 1 x1 → li L' 2 x2 → li L' 3 x3 → i1.toInt = x2 → i2.toInt = x1 → am_V none d 127 58 L' ((.int i1) :: (.int i2) :: (.ref 1) :: (.ref 64) :: []) S Q)
    (k11 : ∀ (x4 x5 x6 x7 x8 x9 : Int) (i1 : Int32), 0 ≤ x1 → rd S 1 0 = x4 → x1 < x4 → 0 ≤ x2 → x2 < x4 → 0 ≤ x3 → x3 ≤ 3 → rd S 3 x2 = x5 → rd S 4 x2 = x6 → rd S 4 x1 = x7 → x8 < 0 → rd S 3 x1 = x9 → x9 = x5 → (0 ≤ x1 ∧ x1 ≤ 7) → (0 ≤ x2 ∧ x2 ≤ 7) → (0 ≤ x3 ∧ x3 ≤ 3) → (1 ≤ x4 ∧ x4 ≤ 8) → (0 ≤ x5 ∧ x5 ≤ 1) → (0 ≤ x6 ∧ x6 ≤ 9) → (0 ≤ x7 ∧ x7 ≤ 9) → ((-9) ≤ x8 ∧ x8 ≤ (-1)) → (0 ≤ x9 ∧ x9 ≤ 1) → x7 + ((-1) * x6 + 0) = x8 → i1.toInt = (-2) → Q (some (.int i1), S))
    (k12 : ∀ (x4 x5 x6 x7 x8 x9 : Int) (i1 : Int32), 0 ≤ x1 → rd S 1 0 = x4 → x1 < x4 → 0 ≤ x2 → x2 < x4 → 0 ≤ x3 → x3 ≤ 3 → rd S 3 x2 = x5 → rd S 4 x2 = x6 → rd S 4 x1 = x7 → x8 < 0 → rd S 3 x1 = x9 → x9 ≠ x5 → (-1) * x8 + 0 ≠ 0 → (-1) * x8 + 0 ≠ 2 → (0 ≤ x1 ∧ x1 ≤ 7) → (0 ≤ x2 ∧ x2 ≤ 7) → (0 ≤ x3 ∧ x3 ≤ 3) → (1 ≤ x4 ∧ x4 ≤ 8) → (0 ≤ x5 ∧ x5 ≤ 1) → (0 ≤ x6 ∧ x6 ≤ 9) → (0 ≤ x7 ∧ x7 ≤ 9) → ((-9) ≤ x8 ∧ x8 ≤ (-3)) ∨ ((-1) ≤ x8 ∧ x8 ≤ (-1)) → (0 ≤ x9 ∧ x9 ≤ 1) → x7 + ((-1) * x6 + 0) = x8 → i1.toInt = (-2) → Q (some (.int i1), S))
    (k13 : ∀ (x4 x5 x6 x7 x8 x9 x10 : Int) (i1 : Int32), 0 ≤ x1 → rd S 1 0 = x4 → x1 < x4 → 0 ≤ x2 → x2 < x4 → 0 ≤ x3 → x3 ≤ 3 → rd S 3 x2 = x5 → rd S 4 x2 = x6 → rd S 4 x1 = x7 → x8 < 0 → rd S 3 x1 = x9 → x9 ≠ x5 → (-1) * x8 + 0 ≠ 0 → (-1) * x8 + 0 = 2 → x10 ≤ 0 → (0 ≤ x1 ∧ x1 ≤ 7) → (0 ≤ x2 ∧ x2 ≤ 7) → (0 ≤ x3 ∧ x3 ≤ 3) → (1 ≤ x4 ∧ x4 ≤ 8) → (0 ≤ x5 ∧ x5 ≤ 1) → (0 ≤ x6 ∧ x6 ≤ 9) → (0 ≤ x7 ∧ x7 ≤ 9) → ((-2) ≤ x8 ∧ x8 ≤ (-2)) → (0 ≤ x9 ∧ x9 ≤ 1) → (0 ≤ x10 ∧ x10 ≤ 0) → x7 + x6 = x10 → x7 + ((-1) * x6 + 0) = x8 → i1.toInt = (-2) → Q (some (.int i1), S))
    (k14 : ∀ (x4 x5 x6 x7 x8 x9 x10 : Int) (L' : am_L) (i1 : Int32) (i2 : Int32), 0 ≤ x1 → rd S 1 0 = x4 → x1 < x4 → 0 ≤ x2 → x2 < x4 → 0 ≤ x3 → x3 ≤ 3 → rd S 3 x2 = x5 → rd S 4 x2 = x6 → rd S 4 x1 = x7 → x8 < 0 → rd S 3 x1 = x9 → x9 ≠ x5 → (-1) * x8 + 0 ≠ 0 → (-1) * x8 + 0 = 2 → 0 < x10 → (0 ≤ x1 ∧ x1 ≤ 7) → (0 ≤ x2 ∧ x2 ≤ 7) → (0 ≤ x3 ∧ x3 ≤ 3) → (1 ≤ x4 ∧ x4 ≤ 8) → (0 ≤ x5 ∧ x5 ≤ 1) → (0 ≤ x6 ∧ x6 ≤ 9) → (0 ≤ x7 ∧ x7 ≤ 9) → ((-2) ≤ x8 ∧ x8 ≤ (-2)) → (0 ≤ x9 ∧ x9 ≤ 1) → (1 ≤ x10 ∧ x10 ≤ 18) → x7 + x6 = x10 → x7 + ((-1) * x6 + 0) = x8 → lc L' 0 0 → li L' 1 x1 → li L' 2 x2 → li L' 3 x3 → i1.toInt = x2 → i2.toInt = x1 → am_V none d 127 58 L' ((.int i1) :: (.int i2) :: (.ref 1) :: (.ref 64) :: []) S Q)
    (k15 : ∀ (x4 : Int) (i1 : Int32), 0 ≤ x1 → rd S 1 0 = x4 → x1 < x4 → 0 ≤ x2 → x2 < x4 → 0 ≤ x3 → 3 < x3 → (0 ≤ x1 ∧ x1 ≤ 7) → (0 ≤ x2 ∧ x2 ≤ 7) → (4 ≤ x3 ∧ x3 ≤ 2147483647) → (1 ≤ x4 ∧ x4 ≤ 8) → i1.toInt = (-1) → Q (some (.int i1), S)) : am_V none d 127 0 L ([]) S Q := by
  refine sg_use sg_pn_a_g hd hP (sg_xs [0, x1, x2, x3]) ⟨⟨Int.le_refl 0, Int.le_refl 0⟩, b1, b2, b3, trivial⟩ trivial trivial trivial ⟨l0, l1, l2, l3, trivial⟩ trivial ?_
  intro z hz x' L' st' S' hx hP' hW hL' hs' hJ hE' hT' hD'
  have q1 : x' 1 = x1 := hx 1 (by decide)
  subst q1
  have q2 : x' 2 = x2 := hx 2 (by decide)
  subst q2
  have q3 : x' 3 = x3 := hx 3 (by decide)
  subst q3
  have eS : S' = S := hW.1 rfl
  subst eS
  simp only [sg_pn_a_Z, List.mem_cons, List.not_mem_nil, or_false] at hz
  rcases hz with rfl | rfl | rfl | rfl | rfl | rfl | rfl | rfl | rfl | rfl | rfl | rfl | rfl | rfl | rfl | rfl
  · obtain ⟨f0, -, hσ⟩ := hJ
    obtain ⟨e0, -⟩ := hE'
    intro v hv
    subst hv
    cases v with
    | none => exact hs'.elim
    | some v1 =>
      obtain ⟨⟨i1, rfl, g1⟩, -⟩ := hs'
      exact k0 i1 f0 e0 g1
  · obtain ⟨f0, f1, f2, -, hσ⟩ := hJ
    obtain ⟨e0, e1, -⟩ := hE'
    intro v hv
    subst hv
    cases v with
    | none => exact hs'.elim
    | some v1 =>
      obtain ⟨⟨i1, rfl, g1⟩, -⟩ := hs'
      exact k1 (x' 4) i1 f0 f1 f2 e0 e1 g1
  · obtain ⟨f0, f1, f2, -, f4, -, hσ⟩ := hJ
    obtain ⟨e0, e1, e2, -⟩ := hE'
    intro v hv
    subst hv
    cases v with
    | none => exact hs'.elim
    | some v1 =>
      obtain ⟨⟨i1, rfl, g1⟩, -⟩ := hs'
      exact k2 (x' 4) i1 f0 f1 f2 f4 e0 e1 e2 g1
  · obtain ⟨f0, f1, f2, -, f4, -, f6, -, hσ⟩ := hJ
    obtain ⟨e0, e1, e2, -⟩ := hE'
    intro v hv
    subst hv
    cases v with
    | none => exact hs'.elim
    | some v1 =>
      obtain ⟨⟨i1, rfl, g1⟩, -⟩ := hs'
      exact k3 (x' 4) i1 f0 f1 f2 f4 f6 e0 e1 e2 g1
  · obtain ⟨f0, f1, f2, -, f4, -, f6, -, f8, hσ⟩ := hJ
    obtain ⟨e0, e1, e2, e3, -⟩ := hE'
    intro v hv
    subst hv
    cases v with
    | none => exact hs'.elim
    | some v1 =>
      obtain ⟨⟨i1, rfl, g1⟩, -⟩ := hs'
      exact k4 (x' 4) i1 f0 f1 f2 f4 f6 f8 e0 e1 e2 e3 g1
  · obtain ⟨f0, f1, f2, -, f4, -, f6, -, f8, f9, f10, f11, f12, f13, f14, f15, -, hσ⟩ := hJ
    obtain ⟨e0, e1, e2, e3, e4, e5, e6, e7, e8, -⟩ := hE'
    obtain ⟨t0, -⟩ := hT'
    intro v hv
    subst hv
    cases v with
    | none => exact hs'.elim
    | some v1 =>
      obtain ⟨⟨i1, rfl, g1⟩, -⟩ := hs'
      exact k5 (x' 4) (x' 5) (x' 6) (x' 7) (x' 8) (x' 9) i1 f0 f1 f2 f4 f6 f8 f9 f10 f11 f12 f13 f14 f15 e0 e1 e2 e3 e4 e5 e6 e7 e8 t0 g1
  · obtain ⟨f0, f1, f2, -, f4, -, f6, -, f8, f9, f10, f11, f12, f13, f14, f15, f16, -, f18, -, hσ⟩ := hJ
    obtain ⟨e0, e1, e2, e3, e4, e5, e6, e7, e8, e9, -⟩ := hE'
    obtain ⟨t0, t1, -⟩ := hT'
    intro v hv
    subst hv
    cases v with
    | none => exact hs'.elim
    | some v1 =>
      obtain ⟨⟨i1, rfl, g1⟩, -⟩ := hs'
      exact k6 (x' 4) (x' 5) (x' 6) (x' 7) (x' 8) (x' 9) (x' 10) i1 f0 f1 f2 f4 f6 f8 f9 f10 f11 f12 f13 f14 f15 f16 f18 e0 e1 e2 e3 e4 e5 e6 e7 e8 e9 t0 t1 g1
  · obtain ⟨f0, f1, f2, -, f4, -, f6, -, f8, f9, f10, f11, f12, f13, f14, f15, f16, -, f18, -, hσ⟩ := hJ
    obtain ⟨e0, e1, e2, e3, e4, e5, e6, e7, e8, e9, -⟩ := hE'
    obtain ⟨t0, t1, -⟩ := hT'
    obtain ⟨p0, p1, p2, p3, -⟩ := hL'
    obtain ⟨v1, r1, rfl, ⟨i1, rfl, g1⟩, hs1⟩ := sg_tc hs'
    obtain ⟨v2, r2, rfl, ⟨i2, rfl, g2⟩, hs2⟩ := sg_tc hs1
    obtain ⟨v3, r3, rfl, rfl, hs3⟩ := sg_tc hs2
    obtain ⟨v4, r4, rfl, rfl, hs4⟩ := sg_tc hs3
    obtain rfl := sg_tn hs4
    exact k7 (x' 4) (x' 5) (x' 6) (x' 7) (x' 8) (x' 9) (x' 10) L' i1 i2 f0 f1 f2 f4 f6 f8 f9 f10 f11 f12 f13 f14 f15 f16 f18 e0 e1 e2 e3 e4 e5 e6 e7 e8 e9 t0 t1 p0 p1 p2 p3 g1 g2
  · obtain ⟨f0, f1, f2, -, f4, -, f6, -, f8, f9, f10, f11, f12, f13, f14, f15, f16, f17, -, hσ⟩ := hJ
    obtain ⟨e0, e1, e2, e3, e4, e5, e6, e7, e8, -⟩ := hE'
    obtain ⟨t0, -⟩ := hT'
    intro v hv
    subst hv
    cases v with
    | none => exact hs'.elim
    | some v1 =>
      obtain ⟨⟨i1, rfl, g1⟩, -⟩ := hs'
      exact k8 (x' 4) (x' 5) (x' 6) (x' 7) (x' 8) (x' 9) i1 f0 f1 f2 f4 f6 f8 f9 f10 f11 f12 f13 f14 f15 f16 f17 e0 e1 e2 e3 e4 e5 e6 e7 e8 t0 g1
  · obtain ⟨f0, f1, f2, -, f4, -, f6, -, f8, f9, f10, f11, f12, f13, f14, f15, f16, f17, -, f19, -, hσ⟩ := hJ
    obtain ⟨e0, e1, e2, e3, e4, e5, e6, e7, e8, e9, -⟩ := hE'
    obtain ⟨t0, t1, -⟩ := hT'
    intro v hv
    subst hv
    cases v with
    | none => exact hs'.elim
    | some v1 =>
      obtain ⟨⟨i1, rfl, g1⟩, -⟩ := hs'
      exact k9 (x' 4) (x' 5) (x' 6) (x' 7) (x' 8) (x' 9) (x' 10) i1 f0 f1 f2 f4 f6 f8 f9 f10 f11 f12 f13 f14 f15 f16 f17 f19 e0 e1 e2 e3 e4 e5 e6 e7 e8 e9 t0 t1 g1
  · obtain ⟨f0, f1, f2, -, f4, -, f6, -, f8, f9, f10, f11, f12, f13, f14, f15, f16, f17, -, f19, -, hσ⟩ := hJ
    obtain ⟨e0, e1, e2, e3, e4, e5, e6, e7, e8, e9, -⟩ := hE'
    obtain ⟨t0, t1, -⟩ := hT'
    obtain ⟨p0, p1, p2, p3, -⟩ := hL'
    obtain ⟨v1, r1, rfl, ⟨i1, rfl, g1⟩, hs1⟩ := sg_tc hs'
    obtain ⟨v2, r2, rfl, ⟨i2, rfl, g2⟩, hs2⟩ := sg_tc hs1
    obtain ⟨v3, r3, rfl, rfl, hs3⟩ := sg_tc hs2
    obtain ⟨v4, r4, rfl, rfl, hs4⟩ := sg_tc hs3
    obtain rfl := sg_tn hs4
    exact k10 (x' 4) (x' 5) (x' 6) (x' 7) (x' 8) (x' 9) (x' 10) L' i1 i2 f0 f1 f2 f4 f6 f8 f9 f10 f11 f12 f13 f14 f15 f16 f17 f19 e0 e1 e2 e3 e4 e5 e6 e7 e8 e9 t0 t1 p0 p1 p2 p3 g1 g2
  · obtain ⟨f0, f1, f2, -, f4, -, f6, -, f8, f9, f10, f11, f12, f13, f14, f15, -, hσ⟩ := hJ
    obtain ⟨e0, e1, e2, e3, e4, e5, e6, e7, e8, -⟩ := hE'
    obtain ⟨t0, -⟩ := hT'
    intro v hv
    subst hv
    cases v with
    | none => exact hs'.elim
    | some v1 =>
      obtain ⟨⟨i1, rfl, g1⟩, -⟩ := hs'
      exact k11 (x' 4) (x' 5) (x' 6) (x' 7) (x' 8) (x' 9) i1 f0 f1 f2 f4 f6 f8 f9 f10 f11 f12 f13 f14 f15 e0 e1 e2 e3 e4 e5 e6 e7 e8 t0 g1
  · obtain ⟨f0, f1, f2, -, f4, -, f6, -, f8, f9, f10, f11, f12, f13, f14, f15, f16, f17, -, hσ⟩ := hJ
    obtain ⟨e0, e1, e2, e3, e4, e5, e6, e7, e8, -⟩ := hE'
    obtain ⟨t0, -⟩ := hT'
    intro v hv
    subst hv
    cases v with
    | none => exact hs'.elim
    | some v1 =>
      obtain ⟨⟨i1, rfl, g1⟩, -⟩ := hs'
      exact k12 (x' 4) (x' 5) (x' 6) (x' 7) (x' 8) (x' 9) i1 f0 f1 f2 f4 f6 f8 f9 f10 f11 f12 f13 f14 f15 f16 f17 e0 e1 e2 e3 e4 e5 e6 e7 e8 t0 g1
  · obtain ⟨f0, f1, f2, -, f4, -, f6, -, f8, f9, f10, f11, f12, f13, f14, f15, f16, f17, -, f19, -, hσ⟩ := hJ
    obtain ⟨e0, e1, e2, e3, e4, e5, e6, e7, e8, e9, -⟩ := hE'
    obtain ⟨t0, t1, -⟩ := hT'
    intro v hv
    subst hv
    cases v with
    | none => exact hs'.elim
    | some v1 =>
      obtain ⟨⟨i1, rfl, g1⟩, -⟩ := hs'
      exact k13 (x' 4) (x' 5) (x' 6) (x' 7) (x' 8) (x' 9) (x' 10) i1 f0 f1 f2 f4 f6 f8 f9 f10 f11 f12 f13 f14 f15 f16 f17 f19 e0 e1 e2 e3 e4 e5 e6 e7 e8 e9 t0 t1 g1
  · obtain ⟨f0, f1, f2, -, f4, -, f6, -, f8, f9, f10, f11, f12, f13, f14, f15, f16, f17, -, f19, -, hσ⟩ := hJ
    obtain ⟨e0, e1, e2, e3, e4, e5, e6, e7, e8, e9, -⟩ := hE'
    obtain ⟨t0, t1, -⟩ := hT'
    obtain ⟨p0, p1, p2, p3, -⟩ := hL'
    obtain ⟨v1, r1, rfl, ⟨i1, rfl, g1⟩, hs1⟩ := sg_tc hs'
    obtain ⟨v2, r2, rfl, ⟨i2, rfl, g2⟩, hs2⟩ := sg_tc hs1
    obtain ⟨v3, r3, rfl, rfl, hs3⟩ := sg_tc hs2
    obtain ⟨v4, r4, rfl, rfl, hs4⟩ := sg_tc hs3
    obtain rfl := sg_tn hs4
    exact k14 (x' 4) (x' 5) (x' 6) (x' 7) (x' 8) (x' 9) (x' 10) L' i1 i2 f0 f1 f2 f4 f6 f8 f9 f10 f11 f12 f13 f14 f15 f16 f17 f19 e0 e1 e2 e3 e4 e5 e6 e7 e8 e9 t0 t1 p0 p1 p2 p3 g1 g2
  · obtain ⟨f0, f1, f2, -, f4, -, f6, -, f8, f9, hσ⟩ := hJ
    obtain ⟨e0, e1, e2, e3, -⟩ := hE'
    intro v hv
    subst hv
    cases v with
    | none => exact hs'.elim
    | some v1 =>
      obtain ⟨⟨i1, rfl, g1⟩, -⟩ := hs'
      exact k15 (x' 4) i1 f0 f1 f2 f4 f6 f8 f9 e0 e1 e2 e3 g1
def sg_pn_b_Z : List sg_z := [(119, [(0, .inr (.inl [0])), (3, .inl (false, (0, .ofNat 0, .ofNat 3)))], [.inl (false, (0, .ofNat 0, .ofNat 0)), .inr (.inl [64])], [], [(1, [(.ofNat 3, .ofNat 3)])], [], []),
  (110, [(0, .inr (.inl [0])), (3, .inl (false, (0, .ofNat 0, .ofNat 2)))], [.inl (false, (0, .ofNat 0, .ofNat 1)), .inr (.inl [64])], [], [(1, [(.ofNat 2, .ofNat 2)])], [], []),
  (101, [(0, .inr (.inl [0])), (3, .inl (false, (0, .ofNat 0, .ofNat 1)))], [.inr (.inl [64])], [], [(1, [(.ofNat 1, .ofNat 1)])], [], []),
  (0, [], [.inl (false, (2, .ofNat 1, .ofNat 0))], [(0, 64, (0, .ofNat 0, .ofNat 0), (2, .ofNat 1, .ofNat 0), (0, .ofNat 0, .ofNat 0))], [(1, [(.ofNat 0, .ofNat 0)]), (2, [(.ofNat 0, .ofNat 30)])], [], [])]
set_option maxRecDepth 1000000 in
theorem sg_pn_b_g : sg_go [] [100, 109, 118] 3000 127 61 0 2 [(0, [(.ofNat 0, .ofNat 0)]), (1, [(.ofNat 0, .ofNat 3)])] [] [] [] [(0, .inr (.inl [0])), (3, .inl (false, (1, .ofNat 1, .ofNat 0)))] [] [] sg_pn_b_Z = true := by decide +kernel
set_option maxRecDepth 100000 in
theorem sg_pn_b {Q : Option Value × am_S → Prop} {d : Nat} {S : am_S} {L : am_L} {x1 : Int} (hd : 0 ≤ d) (hP : ax_P0 none S) (l0 : lc L 0 0) (l3 : li L 3 x1) (b1 : (0 ≤ x1 ∧ x1 ≤ 3))
    (k0 : ∀ (L' : am_L) (i1 : Int32), (3 ≤ x1 ∧ x1 ≤ 3) → lc L' 0 0 → li L' 3 3 → i1.toInt = 0 → am_V none d 127 118 L' ((.int i1) :: (.ref 64) :: []) S Q)
    (k1 : ∀ (L' : am_L) (i1 : Int32), (2 ≤ x1 ∧ x1 ≤ 2) → lc L' 0 0 → li L' 3 2 → i1.toInt = 1 → am_V none d 127 109 L' ((.int i1) :: (.ref 64) :: []) S Q)
    (k2 : ∀ (L' : am_L), (1 ≤ x1 ∧ x1 ≤ 1) → lc L' 0 0 → li L' 3 1 → am_V none d 127 100 L' ((.ref 64) :: []) S Q)
    (k3 : ∀ (x2 : Int) (i1 : Int32), rd S 64 0 = x2 → (0 ≤ x1 ∧ x1 ≤ 0) → (0 ≤ x2 ∧ x2 ≤ 30) → i1.toInt = x2 → Q (some (.int i1), S)) : am_V none d 127 61 L ([]) S Q := by
  refine sg_use sg_pn_b_g hd hP (sg_xs [0, x1]) ⟨⟨Int.le_refl 0, Int.le_refl 0⟩, b1, trivial⟩ trivial trivial trivial ⟨l0, l3, trivial⟩ trivial ?_
  intro z hz x' L' st' S' hx hP' hW hL' hs' hJ hE' hT' hD'
  have q1 : x' 1 = x1 := hx 1 (by decide)
  subst q1
  have eS : S' = S := hW.1 rfl
  subst eS
  simp only [sg_pn_b_Z, List.mem_cons, List.not_mem_nil, or_false] at hz
  rcases hz with rfl | rfl | rfl | rfl
  · have hσ := hJ
    obtain ⟨e0, -⟩ := hE'
    obtain ⟨p0, p1, -⟩ := hL'
    obtain ⟨v1, r1, rfl, ⟨i1, rfl, g1⟩, hs1⟩ := sg_tc hs'
    obtain ⟨v2, r2, rfl, rfl, hs2⟩ := sg_tc hs1
    obtain rfl := sg_tn hs2
    exact k0 L' i1 e0 p0 p1 g1
  · have hσ := hJ
    obtain ⟨e0, -⟩ := hE'
    obtain ⟨p0, p1, -⟩ := hL'
    obtain ⟨v1, r1, rfl, ⟨i1, rfl, g1⟩, hs1⟩ := sg_tc hs'
    obtain ⟨v2, r2, rfl, rfl, hs2⟩ := sg_tc hs1
    obtain rfl := sg_tn hs2
    exact k1 L' i1 e0 p0 p1 g1
  · have hσ := hJ
    obtain ⟨e0, -⟩ := hE'
    obtain ⟨p0, p1, -⟩ := hL'
    obtain ⟨v1, r1, rfl, rfl, hs1⟩ := sg_tc hs'
    obtain rfl := sg_tn hs1
    exact k2 L' e0 p0 p1
  · obtain ⟨f0, hσ⟩ := hJ
    obtain ⟨e0, e1, -⟩ := hE'
    intro v hv
    subst hv
    cases v with
    | none => exact hs'.elim
    | some v1 =>
      obtain ⟨⟨i1, rfl, g1⟩, -⟩ := hs'
      exact k3 (x' 2) i1 f0 e0 e1 g1
def sg_sc_x_Z : List sg_z := [(5, [(0, .inr (.inl [64])), (1, .inl (false, (0, .ofNat 0, .ofNat 0))), (2, .inl (false, (0, .ofNat 0, .ofNat 0)))], [], [], [], [], [])]
set_option maxRecDepth 1000000 in
theorem sg_sc_x_g : sg_go [] [4] 3000 9 0 0 1 [(0, [(.ofNat 0, .ofNat 0)])] [] [] [] [(0, .inr (.inl [64]))] [] [] sg_sc_x_Z = true := by decide +kernel
set_option maxRecDepth 100000 in
theorem sg_sc_x {Q : Option Value × am_S → Prop} {d : Nat} {S : am_S} {L : am_L} (hd : 0 ≤ d) (hP : ax_P0 none S) (l0 : lc L 0 64)
    (k0 : ∀ (L' : am_L), lc L' 0 64 → li L' 1 0 → li L' 2 0 → am_V none d 9 4 L' ([]) S Q) : am_V none d 9 0 L ([]) S Q := by
  refine sg_use sg_sc_x_g hd hP (sg_xs [0]) ⟨⟨Int.le_refl 0, Int.le_refl 0⟩, trivial⟩ trivial trivial trivial ⟨l0, trivial⟩ trivial ?_
  intro z hz x' L' st' S' hx hP' hW hL' hs' hJ hE' hT' hD'
  have eS : S' = S := hW.1 rfl
  subst eS
  simp only [sg_sc_x_Z, List.mem_cons, List.not_mem_nil, or_false] at hz
  rcases hz with rfl
  · have hσ := hJ
    obtain ⟨p0, p1, p2, -⟩ := hL'
    obtain rfl := sg_tn hs'
    exact k0 L' p0 p1 p2
def sg_sc_y_Z : List sg_z := [(0, [], [.inl (false, (1, .ofNat 1, .ofNat 0))], [(2, 3, (2, .ofNat 1, .ofNat 0), (3, .ofNat 1, .ofNat 0), (0, .ofNat 0, .ofNat 0)), (0, 64, (0, .ofNat 0, .ofNat 0), (3, .ofNat 1, .ofNat 0), (0, .ofNat 0, .ofNat 0))], [(1, [(.ofNat 0, .ofNat 30)]), (2, [(.ofNat 0, .ofNat 30)]), (3, [(.ofNat 0, .ofNat 30)])], [], []),
  (5, [(0, .inr (.inl [64])), (1, .inl (false, (5, .ofNat 1, .ofNat 0))), (2, .inl (false, (2, .ofNat 1, .ofNat 1)))], [], [(0, 66, (2, .ofNat 1, .ofNat 0), (4, .ofNat 1, .ofNat 0), (0, .ofNat 0, .ofNat 0)), (2, 2, (2, .ofNat 1, .ofNat 0), (3, .ofNat 1, .ofNat 0), (0, .ofNat 0, .ofNat 0)), (0, 64, (0, .ofNat 0, .ofNat 0), (3, .ofNat 1, .ofNat 0), (0, .ofNat 0, .ofNat 0))], [(1, [(.ofNat 0, .ofNat 30)]), (2, [(.ofNat 0, .ofNat 29)]), (3, [(.ofNat 1, .ofNat 30)]), (4, [(.ofNat 0, .ofNat 1)]), (5, [(.ofNat 0, .ofNat 31)])], [((1, .ofNat 1, .ofNat 0), (4, .ofNat 1, .ofNat 0), (5, .ofNat 1, .ofNat 0))], [])]
set_option maxRecDepth 1000000 in
theorem sg_sc_y_g : sg_go [] [4] 3000 9 4 0 3 [(0, [(.ofNat 0, .ofNat 0)]), (1, [(.ofNat 0, .ofNat 30)]), (2, [(.ofNat 0, .ofNat 30)])] [] [] [] [(0, .inr (.inl [64])), (1, .inl (false, (1, .ofNat 1, .ofNat 0))), (2, .inl (false, (2, .ofNat 1, .ofNat 0)))] [] [] sg_sc_y_Z = true := by decide +kernel
set_option maxRecDepth 100000 in
theorem sg_sc_y {Q : Option Value × am_S → Prop} {d : Nat} {S : am_S} {L : am_L} {x1 x2 : Int} (hd : 0 ≤ d) (hP : ax_P0 none S) (l0 : lc L 0 64) (l1 : li L 1 x1) (l2 : li L 2 x2) (b1 : (0 ≤ x1 ∧ x1 ≤ 30)) (b2 : (0 ≤ x2 ∧ x2 ≤ 30))
    (k0 : ∀ (x3 : Int) (i1 : Int32), rd S 64 0 = x3 → x3 ≤ x2 → (0 ≤ x1 ∧ x1 ≤ 30) → (0 ≤ x2 ∧ x2 ≤ 30) → (0 ≤ x3 ∧ x3 ≤ 30) → i1.toInt = x1 → Q (some (.int i1), S))
    (k1 : ∀ (x3 x4 x5 : Int) (L' : am_L), rd S 64 0 = x3 → x2 < x3 → rd S 66 x2 = x4 → (0 ≤ x1 ∧ x1 ≤ 30) → (0 ≤ x2 ∧ x2 ≤ 29) → (1 ≤ x3 ∧ x3 ≤ 30) → (0 ≤ x4 ∧ x4 ≤ 1) → (0 ≤ x5 ∧ x5 ≤ 31) → x1 + x4 = x5 → lc L' 0 64 → li L' 1 x5 → li L' 2 (x2 + 1) → am_V none d 9 4 L' ([]) S Q) : am_V none d 9 4 L ([]) S Q := by
  refine sg_use sg_sc_y_g hd hP (sg_xs [0, x1, x2]) ⟨⟨Int.le_refl 0, Int.le_refl 0⟩, b1, b2, trivial⟩ trivial trivial trivial ⟨l0, l1, l2, trivial⟩ trivial ?_
  intro z hz x' L' st' S' hx hP' hW hL' hs' hJ hE' hT' hD'
  have q1 : x' 1 = x1 := hx 1 (by decide)
  subst q1
  have q2 : x' 2 = x2 := hx 2 (by decide)
  subst q2
  have eS : S' = S := hW.1 rfl
  subst eS
  simp only [sg_sc_y_Z, List.mem_cons, List.not_mem_nil, or_false] at hz
  rcases hz with rfl | rfl
  · obtain ⟨f0, f1, hσ⟩ := hJ
    obtain ⟨e0, e1, e2, -⟩ := hE'
    intro v hv
    subst hv
    cases v with
    | none => exact hs'.elim
    | some v1 =>
      obtain ⟨⟨i1, rfl, g1⟩, -⟩ := hs'
      exact k0 (x' 3) i1 f0 f1 e0 e1 e2 g1
  · obtain ⟨f0, f1, f2, hσ⟩ := hJ
    obtain ⟨e0, e1, e2, e3, e4, -⟩ := hE'
    obtain ⟨t0, -⟩ := hT'
    obtain ⟨p0, p1, p2, -⟩ := hL'
    obtain rfl := sg_tn hs'
    exact k1 (x' 3) (x' 4) (x' 5) L' f0 f1 f2 e0 e1 e2 e3 e4 t0 p0 p1 p2
def sg_so_a_Z : List sg_z := [(5, [(0, .inr (.inl [64])), (1, .inl (false, (1, .ofNat 1, .ofNat 0))), (2, .inl (false, (0, .ofNat 0, .ofNat 0))), (3, .inl (false, (0, .ofNat 0, .ofNat 0)))], [], [], [(1, [(.ofNat 0, .ofNat 1)])], [], [])]
set_option maxRecDepth 1000000 in
theorem sg_so_a_g : sg_go [] [4] 3000 10 0 0 2 [(0, [(.ofNat 0, .ofNat 0)]), (1, [(.ofNat 0, .ofNat 1)])] [] [] [] [(0, .inr (.inl [64])), (1, .inl (false, (1, .ofNat 1, .ofNat 0)))] [] [] sg_so_a_Z = true := by decide +kernel
set_option maxRecDepth 100000 in
theorem sg_so_a {Q : Option Value × am_S → Prop} {d : Nat} {S : am_S} {L : am_L} {x1 : Int} (hd : 0 ≤ d) (hP : ax_P0 none S) (l0 : lc L 0 64) (l1 : li L 1 x1) (b1 : (0 ≤ x1 ∧ x1 ≤ 1))
    (k0 : ∀ (L' : am_L), (0 ≤ x1 ∧ x1 ≤ 1) → lc L' 0 64 → li L' 1 x1 → li L' 2 0 → li L' 3 0 → am_V none d 10 4 L' ([]) S Q) : am_V none d 10 0 L ([]) S Q := by
  refine sg_use sg_so_a_g hd hP (sg_xs [0, x1]) ⟨⟨Int.le_refl 0, Int.le_refl 0⟩, b1, trivial⟩ trivial trivial trivial ⟨l0, l1, trivial⟩ trivial ?_
  intro z hz x' L' st' S' hx hP' hW hL' hs' hJ hE' hT' hD'
  have q1 : x' 1 = x1 := hx 1 (by decide)
  subst q1
  have eS : S' = S := hW.1 rfl
  subst eS
  simp only [sg_so_a_Z, List.mem_cons, List.not_mem_nil, or_false] at hz
  rcases hz with rfl
  · have hσ := hJ
    obtain ⟨e0, -⟩ := hE'
    obtain ⟨p0, p1, p2, p3, -⟩ := hL'
    obtain rfl := sg_tn hs'
    exact k0 L' e0 p0 p1 p2 p3
def sg_so_b_Z : List sg_z := [(0, [], [.inl (false, (2, .ofNat 1, .ofNat 0))], [(2, 3, (3, .ofNat 1, .ofNat 0), (4, .ofNat 1, .ofNat 0), (0, .ofNat 0, .ofNat 0)), (0, 64, (0, .ofNat 0, .ofNat 0), (4, .ofNat 1, .ofNat 0), (0, .ofNat 0, .ofNat 0))], [(1, [(.ofNat 0, .ofNat 1)]), (3, [(.ofNat 0, .ofNat 30)]), (4, [(.ofNat 0, .ofNat 30)])], [], []),
  (5, [(0, .inr (.inl [64])), (1, .inl (false, (1, .ofNat 1, .ofNat 0))), (2, .inl (false, (2, .ofNat 1, .ofNat 0))), (3, .inl (false, (3, .ofNat 1, .ofNat 1)))], [], [(2, 1, (5, .ofNat 1, .ofNat 0), (1, .ofNat 1, .ofNat 0), (0, .ofNat 0, .ofNat 0)), (0, 66, (3, .ofNat 1, .ofNat 0), (5, .ofNat 1, .ofNat 0), (0, .ofNat 0, .ofNat 0)), (2, 2, (3, .ofNat 1, .ofNat 0), (4, .ofNat 1, .ofNat 0), (0, .ofNat 0, .ofNat 0)), (0, 64, (0, .ofNat 0, .ofNat 0), (4, .ofNat 1, .ofNat 0), (0, .ofNat 0, .ofNat 0))], [(1, [(.ofNat 0, .ofNat 1)]), (3, [(.ofNat 0, .ofNat 29)]), (4, [(.ofNat 1, .ofNat 30)]), (5, [(.ofNat 0, .ofNat 1)])], [], []),
  (5, [(0, .inr (.inl [64])), (1, .inl (false, (1, .ofNat 1, .ofNat 0))), (2, .inl (false, (7, .ofNat 1, .ofNat 0))), (3, .inl (false, (3, .ofNat 1, .ofNat 1)))], [], [(3, 9, (2, .ofNat 1, .ofNat 0), (6, .ofNat 1, .ofNat 0), (7, .ofNat 1, .ofNat 0)), (0, 67, (3, .ofNat 1, .ofNat 0), (6, .ofNat 1, .ofNat 0), (0, .ofNat 0, .ofNat 0)), (2, 0, (5, .ofNat 1, .ofNat 0), (1, .ofNat 1, .ofNat 0), (0, .ofNat 0, .ofNat 0)), (0, 66, (3, .ofNat 1, .ofNat 0), (5, .ofNat 1, .ofNat 0), (0, .ofNat 0, .ofNat 0)), (2, 2, (3, .ofNat 1, .ofNat 0), (4, .ofNat 1, .ofNat 0), (0, .ofNat 0, .ofNat 0)), (0, 64, (0, .ofNat 0, .ofNat 0), (4, .ofNat 1, .ofNat 0), (0, .ofNat 0, .ofNat 0))], [(1, [(.ofNat 0, .ofNat 1)]), (3, [(.ofNat 0, .ofNat 29)]), (4, [(.ofNat 1, .ofNat 30)]), (5, [(.ofNat 0, .ofNat 1)])], [], [])]
set_option maxRecDepth 1000000 in
theorem sg_so_b_g : sg_go [] [4] 3000 10 4 0 4 [(0, [(.ofNat 0, .ofNat 0)]), (1, [(.ofNat 0, .ofNat 1)]), (2, [(.negSucc 2147483647, .ofNat 2147483647)]), (3, [(.ofNat 0, .ofNat 30)])] [] [] [] [(0, .inr (.inl [64])), (1, .inl (false, (1, .ofNat 1, .ofNat 0))), (2, .inl (false, (2, .ofNat 1, .ofNat 0))), (3, .inl (false, (3, .ofNat 1, .ofNat 0)))] [] [] sg_so_b_Z = true := by decide +kernel
set_option maxRecDepth 100000 in
theorem sg_so_b {Q : Option Value × am_S → Prop} {d : Nat} {S : am_S} {L : am_L} {x1 x2 x3 : Int} (hd : 0 ≤ d) (hP : ax_P0 none S) (l0 : lc L 0 64) (l1 : li L 1 x1) (l2 : li L 2 x2) (l3 : li L 3 x3) (b1 : (0 ≤ x1 ∧ x1 ≤ 1)) (b2 : ((-2147483648) ≤ x2 ∧ x2 ≤ 2147483647)) (b3 : (0 ≤ x3 ∧ x3 ≤ 30))
    (k0 : ∀ (x4 : Int) (i1 : Int32), rd S 64 0 = x4 → x4 ≤ x3 → (0 ≤ x1 ∧ x1 ≤ 1) → (0 ≤ x3 ∧ x3 ≤ 30) → (0 ≤ x4 ∧ x4 ≤ 30) → i1.toInt = x2 → Q (some (.int i1), S))
    (k1 : ∀ (x4 x5 : Int) (L' : am_L), rd S 64 0 = x4 → x3 < x4 → rd S 66 x3 = x5 → x5 ≠ x1 → (0 ≤ x1 ∧ x1 ≤ 1) → (0 ≤ x3 ∧ x3 ≤ 29) → (1 ≤ x4 ∧ x4 ≤ 30) → (0 ≤ x5 ∧ x5 ≤ 1) → lc L' 0 64 → li L' 1 x1 → li L' 2 x2 → li L' 3 (x3 + 1) → am_V none d 10 4 L' ([]) S Q)
    (k2 : ∀ (x4 x5 x6 x7 : Int) (L' : am_L), rd S 64 0 = x4 → x3 < x4 → rd S 66 x3 = x5 → x5 = x1 → rd S 67 x3 = x6 → (∃ a b : Int32, a.toInt = x2 ∧ b.toInt = x6 ∧ (a + b).toInt = x7) → (0 ≤ x1 ∧ x1 ≤ 1) → (0 ≤ x3 ∧ x3 ≤ 29) → (1 ≤ x4 ∧ x4 ≤ 30) → (0 ≤ x5 ∧ x5 ≤ 1) → lc L' 0 64 → li L' 1 x1 → li L' 2 x7 → li L' 3 (x3 + 1) → am_V none d 10 4 L' ([]) S Q) : am_V none d 10 4 L ([]) S Q := by
  refine sg_use sg_so_b_g hd hP (sg_xs [0, x1, x2, x3]) ⟨⟨Int.le_refl 0, Int.le_refl 0⟩, b1, b2, b3, trivial⟩ trivial trivial trivial ⟨l0, l1, l2, l3, trivial⟩ trivial ?_
  intro z hz x' L' st' S' hx hP' hW hL' hs' hJ hE' hT' hD'
  have q1 : x' 1 = x1 := hx 1 (by decide)
  subst q1
  have q2 : x' 2 = x2 := hx 2 (by decide)
  subst q2
  have q3 : x' 3 = x3 := hx 3 (by decide)
  subst q3
  have eS : S' = S := hW.1 rfl
  subst eS
  simp only [sg_so_b_Z, List.mem_cons, List.not_mem_nil, or_false] at hz
  rcases hz with rfl | rfl | rfl
  · obtain ⟨f0, f1, hσ⟩ := hJ
    obtain ⟨e0, e1, e2, -⟩ := hE'
    intro v hv
    subst hv
    cases v with
    | none => exact hs'.elim
    | some v1 =>
      obtain ⟨⟨i1, rfl, g1⟩, -⟩ := hs'
      exact k0 (x' 4) i1 f0 f1 e0 e1 e2 g1
  · obtain ⟨f0, f1, f2, f3, hσ⟩ := hJ
    obtain ⟨e0, e1, e2, e3, -⟩ := hE'
    obtain ⟨p0, p1, p2, p3, -⟩ := hL'
    obtain rfl := sg_tn hs'
    exact k1 (x' 4) (x' 5) L' f0 f1 f2 f3 e0 e1 e2 e3 p0 p1 p2 p3
  · obtain ⟨f0, f1, f2, f3, f4, f5, hσ⟩ := hJ
    obtain ⟨e0, e1, e2, e3, -⟩ := hE'
    obtain ⟨p0, p1, p2, p3, -⟩ := hL'
    obtain rfl := sg_tn hs'
    exact k2 (x' 4) (x' 5) (x' 6) (x' 7) L' f0 f1 f2 f3 f4 f5 e0 e1 e2 e3 p0 p1 p2 p3
def sg_pq_a_Z : List sg_z := [(0, [], [.inl (false, (0, .ofNat 0, .negSucc 0))], [(2, 0, (0, .ofNat 0, .ofNat 0), (0, .ofNat 0, .ofNat 0), (0, .ofNat 0, .ofNat 0)), (2, 2, (1, .ofNat 1, .ofNat 0), (0, .ofNat 0, .ofNat 0), (0, .ofNat 0, .ofNat 0)), (0, 122, (0, .ofNat 0, .ofNat 0), (4, .ofNat 1, .ofNat 0), (0, .ofNat 0, .ofNat 0))], [(1, [(.negSucc 2147483647, .negSucc 0)]), (4, [(.ofNat 0, .ofNat 8)])], [], []),
  (0, [], [.inl (false, (0, .ofNat 0, .negSucc 0))], [(2, 0, (0, .ofNat 0, .ofNat 0), (0, .ofNat 0, .ofNat 0), (0, .ofNat 0, .ofNat 0)), (2, 4, (1, .ofNat 1, .ofNat 0), (4, .ofNat 1, .negSucc 0), (0, .ofNat 0, .ofNat 0)), (2, 3, (1, .ofNat 1, .ofNat 0), (0, .ofNat 0, .ofNat 0), (0, .ofNat 0, .ofNat 0)), (0, 122, (0, .ofNat 0, .ofNat 0), (4, .ofNat 1, .ofNat 0), (0, .ofNat 0, .ofNat 0))], [(1, [(.ofNat 0, .ofNat 2147483647)]), (4, [(.ofNat 0, .ofNat 8)])], [], []),
  (0, [], [.inl (false, (0, .ofNat 0, .negSucc 0))], [(2, 0, (0, .ofNat 0, .ofNat 0), (0, .ofNat 0, .ofNat 0), (0, .ofNat 0, .ofNat 0)), (2, 2, (2, .ofNat 1, .ofNat 0), (0, .ofNat 0, .ofNat 0), (0, .ofNat 0, .ofNat 0)), (0, 122, (0, .ofNat 0, .ofNat 0), (4, .ofNat 1, .ofNat 0), (0, .ofNat 0, .ofNat 0)), (2, 1, (0, .ofNat 0, .ofNat 1), (0, .ofNat 0, .ofNat 0), (0, .ofNat 0, .ofNat 0)), (2, 5, (1, .ofNat 1, .ofNat 0), (4, .ofNat 1, .negSucc 0), (0, .ofNat 0, .ofNat 0)), (2, 3, (1, .ofNat 1, .ofNat 0), (0, .ofNat 0, .ofNat 0), (0, .ofNat 0, .ofNat 0)), (0, 122, (0, .ofNat 0, .ofNat 0), (4, .ofNat 1, .ofNat 0), (0, .ofNat 0, .ofNat 0))], [(1, [(.ofNat 0, .ofNat 7)]), (2, [(.negSucc 2147483647, .negSucc 0)]), (4, [(.ofNat 1, .ofNat 8)])], [], []),
  (0, [], [.inl (false, (0, .ofNat 0, .negSucc 0))], [(2, 0, (0, .ofNat 0, .ofNat 0), (0, .ofNat 0, .ofNat 0), (0, .ofNat 0, .ofNat 0)), (2, 4, (2, .ofNat 1, .ofNat 0), (4, .ofNat 1, .negSucc 0), (0, .ofNat 0, .ofNat 0)), (2, 3, (2, .ofNat 1, .ofNat 0), (0, .ofNat 0, .ofNat 0), (0, .ofNat 0, .ofNat 0)), (0, 122, (0, .ofNat 0, .ofNat 0), (4, .ofNat 1, .ofNat 0), (0, .ofNat 0, .ofNat 0)), (2, 1, (0, .ofNat 0, .ofNat 1), (0, .ofNat 0, .ofNat 0), (0, .ofNat 0, .ofNat 0)), (2, 5, (1, .ofNat 1, .ofNat 0), (4, .ofNat 1, .negSucc 0), (0, .ofNat 0, .ofNat 0)), (2, 3, (1, .ofNat 1, .ofNat 0), (0, .ofNat 0, .ofNat 0), (0, .ofNat 0, .ofNat 0)), (0, 122, (0, .ofNat 0, .ofNat 0), (4, .ofNat 1, .ofNat 0), (0, .ofNat 0, .ofNat 0))], [(1, [(.ofNat 0, .ofNat 7)]), (2, [(.ofNat 1, .ofNat 2147483647)]), (4, [(.ofNat 1, .ofNat 8)])], [], []),
  (0, [], [.inl (false, (0, .ofNat 0, .negSucc 0))], [(2, 0, (0, .ofNat 0, .ofNat 0), (0, .ofNat 0, .ofNat 0), (0, .ofNat 0, .ofNat 0)), (2, 2, (3, .ofNat 1, .ofNat 0), (0, .ofNat 0, .ofNat 0), (0, .ofNat 0, .ofNat 0)), (2, 1, (0, .ofNat 0, .ofNat 1), (0, .ofNat 0, .ofNat 0), (0, .ofNat 0, .ofNat 0)), (2, 5, (2, .ofNat 1, .ofNat 0), (4, .ofNat 1, .negSucc 0), (0, .ofNat 0, .ofNat 0)), (2, 3, (2, .ofNat 1, .ofNat 0), (0, .ofNat 0, .ofNat 0), (0, .ofNat 0, .ofNat 0)), (0, 122, (0, .ofNat 0, .ofNat 0), (4, .ofNat 1, .ofNat 0), (0, .ofNat 0, .ofNat 0)), (2, 1, (0, .ofNat 0, .ofNat 1), (0, .ofNat 0, .ofNat 0), (0, .ofNat 0, .ofNat 0)), (2, 5, (1, .ofNat 1, .ofNat 0), (4, .ofNat 1, .negSucc 0), (0, .ofNat 0, .ofNat 0)), (2, 3, (1, .ofNat 1, .ofNat 0), (0, .ofNat 0, .ofNat 0), (0, .ofNat 0, .ofNat 0)), (0, 122, (0, .ofNat 0, .ofNat 0), (4, .ofNat 1, .ofNat 0), (0, .ofNat 0, .ofNat 0))], [(1, [(.ofNat 0, .ofNat 7)]), (2, [(.ofNat 0, .ofNat 7)]), (3, [(.negSucc 2147483647, .negSucc 0)]), (4, [(.ofNat 1, .ofNat 8)])], [], []),
  (0, [], [.inl (false, (0, .ofNat 0, .negSucc 0))], [(2, 0, (0, .ofNat 0, .ofNat 0), (0, .ofNat 0, .ofNat 0), (0, .ofNat 0, .ofNat 0)), (2, 4, (3, .ofNat 1, .ofNat 0), (0, .ofNat 0, .ofNat 3), (0, .ofNat 0, .ofNat 0)), (2, 3, (3, .ofNat 1, .ofNat 0), (0, .ofNat 0, .ofNat 0), (0, .ofNat 0, .ofNat 0)), (2, 1, (0, .ofNat 0, .ofNat 1), (0, .ofNat 0, .ofNat 0), (0, .ofNat 0, .ofNat 0)), (2, 5, (2, .ofNat 1, .ofNat 0), (4, .ofNat 1, .negSucc 0), (0, .ofNat 0, .ofNat 0)), (2, 3, (2, .ofNat 1, .ofNat 0), (0, .ofNat 0, .ofNat 0), (0, .ofNat 0, .ofNat 0)), (0, 122, (0, .ofNat 0, .ofNat 0), (4, .ofNat 1, .ofNat 0), (0, .ofNat 0, .ofNat 0)), (2, 1, (0, .ofNat 0, .ofNat 1), (0, .ofNat 0, .ofNat 0), (0, .ofNat 0, .ofNat 0)), (2, 5, (1, .ofNat 1, .ofNat 0), (4, .ofNat 1, .negSucc 0), (0, .ofNat 0, .ofNat 0)), (2, 3, (1, .ofNat 1, .ofNat 0), (0, .ofNat 0, .ofNat 0), (0, .ofNat 0, .ofNat 0)), (0, 122, (0, .ofNat 0, .ofNat 0), (4, .ofNat 1, .ofNat 0), (0, .ofNat 0, .ofNat 0))], [(1, [(.ofNat 0, .ofNat 7)]), (2, [(.ofNat 0, .ofNat 7)]), (3, [(.ofNat 4, .ofNat 2147483647)]), (4, [(.ofNat 1, .ofNat 8)])], [], []),
  (0, [], [.inl (false, (0, .ofNat 0, .negSucc 1))], [(2, 0, (0, .ofNat 0, .ofNat 0), (0, .ofNat 0, .ofNat 0), (0, .ofNat 0, .ofNat 0)), (2, 0, (5, .ofNat 1, .ofNat 0), (9, .ofNat 1, .ofNat 0), (0, .ofNat 0, .ofNat 0)), (0, 124, (2, .ofNat 1, .ofNat 0), (9, .ofNat 1, .ofNat 0), (0, .ofNat 0, .ofNat 0)), (0, 125, (2, .ofNat 1, .ofNat 0), (7, .ofNat 1, .ofNat 0), (0, .ofNat 0, .ofNat 0)), (2, 5, (6, .ofNat 1, .ofNat 0), (7, .ofNat 1, .ofNat 0), (0, .ofNat 0, .ofNat 0)), (0, 125, (2, .ofNat 1, .ofNat 0), (7, .ofNat 1, .ofNat 0), (0, .ofNat 0, .ofNat 0)), (0, 125, (1, .ofNat 1, .ofNat 0), (6, .ofNat 1, .ofNat 0), (0, .ofNat 0, .ofNat 0)), (0, 124, (1, .ofNat 1, .ofNat 0), (5, .ofNat 1, .ofNat 0), (0, .ofNat 0, .ofNat 0)), (2, 1, (0, .ofNat 0, .ofNat 1), (0, .ofNat 0, .ofNat 0), (0, .ofNat 0, .ofNat 0)), (2, 5, (3, .ofNat 1, .ofNat 0), (0, .ofNat 0, .ofNat 3), (0, .ofNat 0, .ofNat 0)), (2, 3, (3, .ofNat 1, .ofNat 0), (0, .ofNat 0, .ofNat 0), (0, .ofNat 0, .ofNat 0)), (2, 1, (0, .ofNat 0, .ofNat 1), (0, .ofNat 0, .ofNat 0), (0, .ofNat 0, .ofNat 0)), (2, 5, (2, .ofNat 1, .ofNat 0), (4, .ofNat 1, .negSucc 0), (0, .ofNat 0, .ofNat 0)), (2, 3, (2, .ofNat 1, .ofNat 0), (0, .ofNat 0, .ofNat 0), (0, .ofNat 0, .ofNat 0)), (0, 122, (0, .ofNat 0, .ofNat 0), (4, .ofNat 1, .ofNat 0), (0, .ofNat 0, .ofNat 0)), (2, 1, (0, .ofNat 0, .ofNat 1), (0, .ofNat 0, .ofNat 0), (0, .ofNat 0, .ofNat 0)), (2, 5, (1, .ofNat 1, .ofNat 0), (4, .ofNat 1, .negSucc 0), (0, .ofNat 0, .ofNat 0)), (2, 3, (1, .ofNat 1, .ofNat 0), (0, .ofNat 0, .ofNat 0), (0, .ofNat 0, .ofNat 0)), (0, 122, (0, .ofNat 0, .ofNat 0), (4, .ofNat 1, .ofNat 0), (0, .ofNat 0, .ofNat 0))], [(1, [(.ofNat 0, .ofNat 7)]), (2, [(.ofNat 0, .ofNat 7)]), (3, [(.ofNat 0, .ofNat 3)]), (4, [(.ofNat 1, .ofNat 8)]), (5, [(.ofNat 0, .ofNat 1)]), (6, [(.ofNat 0, .ofNat 9)]), (7, [(.ofNat 0, .ofNat 9)]), (9, [(.ofNat 0, .ofNat 1)])], [], []),
  (0, [], [.inl (false, (0, .ofNat 0, .negSucc 1))], [(2, 0, (0, .ofNat 0, .ofNat 0), (0, .ofNat 0, .ofNat 0), (0, .ofNat 0, .ofNat 0)), (2, 5, (10, .ofNat 1, .ofNat 0), (0, .ofNat 0, .ofNat 0), (0, .ofNat 0, .ofNat 0)), (0, 125, (2, .ofNat 1, .ofNat 0), (7, .ofNat 1, .ofNat 0), (0, .ofNat 0, .ofNat 0)), (2, 0, (8, .ofNat 1, .ofNat 0), (0, .ofNat 0, .ofNat 0), (0, .ofNat 0, .ofNat 0)), (2, 1, (5, .ofNat 1, .ofNat 0), (9, .ofNat 1, .ofNat 0), (0, .ofNat 0, .ofNat 0)), (0, 124, (2, .ofNat 1, .ofNat 0), (9, .ofNat 1, .ofNat 0), (0, .ofNat 0, .ofNat 0)), (0, 125, (2, .ofNat 1, .ofNat 0), (7, .ofNat 1, .ofNat 0), (0, .ofNat 0, .ofNat 0)), (2, 5, (6, .ofNat 1, .ofNat 0), (7, .ofNat 1, .ofNat 0), (0, .ofNat 0, .ofNat 0)), (0, 125, (2, .ofNat 1, .ofNat 0), (7, .ofNat 1, .ofNat 0), (0, .ofNat 0, .ofNat 0)), (0, 125, (1, .ofNat 1, .ofNat 0), (6, .ofNat 1, .ofNat 0), (0, .ofNat 0, .ofNat 0)), (0, 124, (1, .ofNat 1, .ofNat 0), (5, .ofNat 1, .ofNat 0), (0, .ofNat 0, .ofNat 0)), (2, 1, (0, .ofNat 0, .ofNat 1), (0, .ofNat 0, .ofNat 0), (0, .ofNat 0, .ofNat 0)), (2, 5, (3, .ofNat 1, .ofNat 0), (0, .ofNat 0, .ofNat 3), (0, .ofNat 0, .ofNat 0)), (2, 3, (3, .ofNat 1, .ofNat 0), (0, .ofNat 0, .ofNat 0), (0, .ofNat 0, .ofNat 0)), (2, 1, (0, .ofNat 0, .ofNat 1), (0, .ofNat 0, .ofNat 0), (0, .ofNat 0, .ofNat 0)), (2, 5, (2, .ofNat 1, .ofNat 0), (4, .ofNat 1, .negSucc 0), (0, .ofNat 0, .ofNat 0)), (2, 3, (2, .ofNat 1, .ofNat 0), (0, .ofNat 0, .ofNat 0), (0, .ofNat 0, .ofNat 0)), (0, 122, (0, .ofNat 0, .ofNat 0), (4, .ofNat 1, .ofNat 0), (0, .ofNat 0, .ofNat 0)), (2, 1, (0, .ofNat 0, .ofNat 1), (0, .ofNat 0, .ofNat 0), (0, .ofNat 0, .ofNat 0)), (2, 5, (1, .ofNat 1, .ofNat 0), (4, .ofNat 1, .negSucc 0), (0, .ofNat 0, .ofNat 0)), (2, 3, (1, .ofNat 1, .ofNat 0), (0, .ofNat 0, .ofNat 0), (0, .ofNat 0, .ofNat 0)), (0, 122, (0, .ofNat 0, .ofNat 0), (4, .ofNat 1, .ofNat 0), (0, .ofNat 0, .ofNat 0))], [(1, [(.ofNat 0, .ofNat 7)]), (2, [(.ofNat 0, .ofNat 7)]), (3, [(.ofNat 0, .ofNat 3)]), (4, [(.ofNat 1, .ofNat 8)]), (5, [(.ofNat 0, .ofNat 1)]), (6, [(.ofNat 0, .ofNat 9)]), (7, [(.ofNat 0, .ofNat 9)]), (8, [(.ofNat 0, .ofNat 0)]), (9, [(.ofNat 0, .ofNat 1)]), (10, [(.ofNat 0, .ofNat 0)])], [((6, .ofNat 1, .ofNat 0), (7, .ofNat 1, .ofNat 0), (10, .ofNat 1, .ofNat 0)), ((7, .ofNat 1, .ofNat 0), (6, .negSucc 0, .ofNat 0), (8, .ofNat 1, .ofNat 0))], []),
  (46, [(0, .inr (.inl [122])), (1, .inl (false, (1, .ofNat 1, .ofNat 0))), (2, .inl (false, (2, .ofNat 1, .ofNat 0))), (3, .inl (false, (3, .ofNat 1, .ofNat 0)))], [.inl (false, (2, .ofNat 1, .ofNat 0)), .inl (false, (1, .ofNat 1, .ofNat 0)), .inr (.inl [122])], [(2, 1, (0, .ofNat 0, .ofNat 1), (0, .ofNat 0, .ofNat 0), (0, .ofNat 0, .ofNat 0)), (2, 4, (10, .ofNat 1, .ofNat 0), (0, .ofNat 0, .ofNat 0), (0, .ofNat 0, .ofNat 0)), (0, 125, (2, .ofNat 1, .ofNat 0), (7, .ofNat 1, .ofNat 0), (0, .ofNat 0, .ofNat 0)), (2, 0, (8, .ofNat 1, .ofNat 0), (0, .ofNat 0, .ofNat 0), (0, .ofNat 0, .ofNat 0)), (2, 1, (5, .ofNat 1, .ofNat 0), (9, .ofNat 1, .ofNat 0), (0, .ofNat 0, .ofNat 0)), (0, 124, (2, .ofNat 1, .ofNat 0), (9, .ofNat 1, .ofNat 0), (0, .ofNat 0, .ofNat 0)), (0, 125, (2, .ofNat 1, .ofNat 0), (7, .ofNat 1, .ofNat 0), (0, .ofNat 0, .ofNat 0)), (2, 5, (6, .ofNat 1, .ofNat 0), (7, .ofNat 1, .ofNat 0), (0, .ofNat 0, .ofNat 0)), (0, 125, (2, .ofNat 1, .ofNat 0), (7, .ofNat 1, .ofNat 0), (0, .ofNat 0, .ofNat 0)), (0, 125, (1, .ofNat 1, .ofNat 0), (6, .ofNat 1, .ofNat 0), (0, .ofNat 0, .ofNat 0)), (0, 124, (1, .ofNat 1, .ofNat 0), (5, .ofNat 1, .ofNat 0), (0, .ofNat 0, .ofNat 0)), (2, 1, (0, .ofNat 0, .ofNat 1), (0, .ofNat 0, .ofNat 0), (0, .ofNat 0, .ofNat 0)), (2, 5, (3, .ofNat 1, .ofNat 0), (0, .ofNat 0, .ofNat 3), (0, .ofNat 0, .ofNat 0)), (2, 3, (3, .ofNat 1, .ofNat 0), (0, .ofNat 0, .ofNat 0), (0, .ofNat 0, .ofNat 0)), (2, 1, (0, .ofNat 0, .ofNat 1), (0, .ofNat 0, .ofNat 0), (0, .ofNat 0, .ofNat 0)), (2, 5, (2, .ofNat 1, .ofNat 0), (4, .ofNat 1, .negSucc 0), (0, .ofNat 0, .ofNat 0)), (2, 3, (2, .ofNat 1, .ofNat 0), (0, .ofNat 0, .ofNat 0), (0, .ofNat 0, .ofNat 0)), (0, 122, (0, .ofNat 0, .ofNat 0), (4, .ofNat 1, .ofNat 0), (0, .ofNat 0, .ofNat 0)), (2, 1, (0, .ofNat 0, .ofNat 1), (0, .ofNat 0, .ofNat 0), (0, .ofNat 0, .ofNat 0)), (2, 5, (1, .ofNat 1, .ofNat 0), (4, .ofNat 1, .negSucc 0), (0, .ofNat 0, .ofNat 0)), (2, 3, (1, .ofNat 1, .ofNat 0), (0, .ofNat 0, .ofNat 0), (0, .ofNat 0, .ofNat 0)), (0, 122, (0, .ofNat 0, .ofNat 0), (4, .ofNat 1, .ofNat 0), (0, .ofNat 0, .ofNat 0))], [(1, [(.ofNat 0, .ofNat 7)]), (2, [(.ofNat 0, .ofNat 7)]), (3, [(.ofNat 0, .ofNat 3)]), (4, [(.ofNat 1, .ofNat 8)]), (5, [(.ofNat 0, .ofNat 1)]), (6, [(.ofNat 0, .ofNat 9)]), (7, [(.ofNat 0, .ofNat 9)]), (8, [(.ofNat 0, .ofNat 0)]), (9, [(.ofNat 0, .ofNat 1)]), (10, [(.ofNat 1, .ofNat 18)])], [((6, .ofNat 1, .ofNat 0), (7, .ofNat 1, .ofNat 0), (10, .ofNat 1, .ofNat 0)), ((7, .ofNat 1, .ofNat 0), (6, .negSucc 0, .ofNat 0), (8, .ofNat 1, .ofNat 0))], []),
  (0, [], [.inl (false, (0, .ofNat 0, .negSucc 1))], [(2, 0, (0, .ofNat 0, .ofNat 0), (0, .ofNat 0, .ofNat 0), (0, .ofNat 0, .ofNat 0)), (2, 1, (8, .ofNat 1, .ofNat 0), (0, .ofNat 0, .ofNat 2), (0, .ofNat 0, .ofNat 0)), (2, 1, (8, .ofNat 1, .ofNat 0), (0, .ofNat 0, .ofNat 0), (0, .ofNat 0, .ofNat 0)), (2, 1, (5, .ofNat 1, .ofNat 0), (9, .ofNat 1, .ofNat 0), (0, .ofNat 0, .ofNat 0)), (0, 124, (2, .ofNat 1, .ofNat 0), (9, .ofNat 1, .ofNat 0), (0, .ofNat 0, .ofNat 0)), (0, 125, (2, .ofNat 1, .ofNat 0), (7, .ofNat 1, .ofNat 0), (0, .ofNat 0, .ofNat 0)), (2, 5, (6, .ofNat 1, .ofNat 0), (7, .ofNat 1, .ofNat 0), (0, .ofNat 0, .ofNat 0)), (0, 125, (2, .ofNat 1, .ofNat 0), (7, .ofNat 1, .ofNat 0), (0, .ofNat 0, .ofNat 0)), (0, 125, (1, .ofNat 1, .ofNat 0), (6, .ofNat 1, .ofNat 0), (0, .ofNat 0, .ofNat 0)), (0, 124, (1, .ofNat 1, .ofNat 0), (5, .ofNat 1, .ofNat 0), (0, .ofNat 0, .ofNat 0)), (2, 1, (0, .ofNat 0, .ofNat 1), (0, .ofNat 0, .ofNat 0), (0, .ofNat 0, .ofNat 0)), (2, 5, (3, .ofNat 1, .ofNat 0), (0, .ofNat 0, .ofNat 3), (0, .ofNat 0, .ofNat 0)), (2, 3, (3, .ofNat 1, .ofNat 0), (0, .ofNat 0, .ofNat 0), (0, .ofNat 0, .ofNat 0)), (2, 1, (0, .ofNat 0, .ofNat 1), (0, .ofNat 0, .ofNat 0), (0, .ofNat 0, .ofNat 0)), (2, 5, (2, .ofNat 1, .ofNat 0), (4, .ofNat 1, .negSucc 0), (0, .ofNat 0, .ofNat 0)), (2, 3, (2, .ofNat 1, .ofNat 0), (0, .ofNat 0, .ofNat 0), (0, .ofNat 0, .ofNat 0)), (0, 122, (0, .ofNat 0, .ofNat 0), (4, .ofNat 1, .ofNat 0), (0, .ofNat 0, .ofNat 0)), (2, 1, (0, .ofNat 0, .ofNat 1), (0, .ofNat 0, .ofNat 0), (0, .ofNat 0, .ofNat 0)), (2, 5, (1, .ofNat 1, .ofNat 0), (4, .ofNat 1, .negSucc 0), (0, .ofNat 0, .ofNat 0)), (2, 3, (1, .ofNat 1, .ofNat 0), (0, .ofNat 0, .ofNat 0), (0, .ofNat 0, .ofNat 0)), (0, 122, (0, .ofNat 0, .ofNat 0), (4, .ofNat 1, .ofNat 0), (0, .ofNat 0, .ofNat 0))], [(1, [(.ofNat 0, .ofNat 7)]), (2, [(.ofNat 0, .ofNat 7)]), (3, [(.ofNat 0, .ofNat 3)]), (4, [(.ofNat 1, .ofNat 8)]), (5, [(.ofNat 0, .ofNat 1)]), (6, [(.ofNat 0, .ofNat 9)]), (7, [(.ofNat 0, .ofNat 9)]), (8, [(.negSucc 8, .negSucc 0), (.ofNat 1, .ofNat 1), (.ofNat 3, .ofNat 9)]), (9, [(.ofNat 0, .ofNat 1)])], [((7, .ofNat 1, .ofNat 0), (6, .negSucc 0, .ofNat 0), (8, .ofNat 1, .ofNat 0))], []),
  (0, [], [.inl (false, (0, .ofNat 0, .negSucc 1))], [(2, 0, (0, .ofNat 0, .ofNat 0), (0, .ofNat 0, .ofNat 0), (0, .ofNat 0, .ofNat 0)), (2, 5, (10, .ofNat 1, .ofNat 0), (0, .ofNat 0, .ofNat 0), (0, .ofNat 0, .ofNat 0)), (0, 125, (2, .ofNat 1, .ofNat 0), (7, .ofNat 1, .ofNat 0), (0, .ofNat 0, .ofNat 0)), (2, 0, (8, .ofNat 1, .ofNat 0), (0, .ofNat 0, .ofNat 2), (0, .ofNat 0, .ofNat 0)), (2, 1, (8, .ofNat 1, .ofNat 0), (0, .ofNat 0, .ofNat 0), (0, .ofNat 0, .ofNat 0)), (2, 1, (5, .ofNat 1, .ofNat 0), (9, .ofNat 1, .ofNat 0), (0, .ofNat 0, .ofNat 0)), (0, 124, (2, .ofNat 1, .ofNat 0), (9, .ofNat 1, .ofNat 0), (0, .ofNat 0, .ofNat 0)), (0, 125, (2, .ofNat 1, .ofNat 0), (7, .ofNat 1, .ofNat 0), (0, .ofNat 0, .ofNat 0)), (2, 5, (6, .ofNat 1, .ofNat 0), (7, .ofNat 1, .ofNat 0), (0, .ofNat 0, .ofNat 0)), (0, 125, (2, .ofNat 1, .ofNat 0), (7, .ofNat 1, .ofNat 0), (0, .ofNat 0, .ofNat 0)), (0, 125, (1, .ofNat 1, .ofNat 0), (6, .ofNat 1, .ofNat 0), (0, .ofNat 0, .ofNat 0)), (0, 124, (1, .ofNat 1, .ofNat 0), (5, .ofNat 1, .ofNat 0), (0, .ofNat 0, .ofNat 0)), (2, 1, (0, .ofNat 0, .ofNat 1), (0, .ofNat 0, .ofNat 0), (0, .ofNat 0, .ofNat 0)), (2, 5, (3, .ofNat 1, .ofNat 0), (0, .ofNat 0, .ofNat 3), (0, .ofNat 0, .ofNat 0)), (2, 3, (3, .ofNat 1, .ofNat 0), (0, .ofNat 0, .ofNat 0), (0, .ofNat 0, .ofNat 0)), (2, 1, (0, .ofNat 0, .ofNat 1), (0, .ofNat 0, .ofNat 0), (0, .ofNat 0, .ofNat 0)), (2, 5, (2, .ofNat 1, .ofNat 0), (4, .ofNat 1, .negSucc 0), (0, .ofNat 0, .ofNat 0)), (2, 3, (2, .ofNat 1, .ofNat 0), (0, .ofNat 0, .ofNat 0), (0, .ofNat 0, .ofNat 0)), (0, 122, (0, .ofNat 0, .ofNat 0), (4, .ofNat 1, .ofNat 0), (0, .ofNat 0, .ofNat 0)), (2, 1, (0, .ofNat 0, .ofNat 1), (0, .ofNat 0, .ofNat 0), (0, .ofNat 0, .ofNat 0)), (2, 5, (1, .ofNat 1, .ofNat 0), (4, .ofNat 1, .negSucc 0), (0, .ofNat 0, .ofNat 0)), (2, 3, (1, .ofNat 1, .ofNat 0), (0, .ofNat 0, .ofNat 0), (0, .ofNat 0, .ofNat 0)), (0, 122, (0, .ofNat 0, .ofNat 0), (4, .ofNat 1, .ofNat 0), (0, .ofNat 0, .ofNat 0))], [(1, [(.ofNat 0, .ofNat 7)]), (2, [(.ofNat 0, .ofNat 7)]), (3, [(.ofNat 0, .ofNat 3)]), (4, [(.ofNat 1, .ofNat 8)]), (5, [(.ofNat 0, .ofNat 1)]), (6, [(.ofNat 0, .ofNat 9)]), (7, [(.ofNat 0, .ofNat 9)]), (8, [(.ofNat 2, .ofNat 2)]), (9, [(.ofNat 0, .ofNat 1)]), (10, [(.ofNat 0, .ofNat 0)])], [((6, .ofNat 1, .ofNat 0), (7, .ofNat 1, .ofNat 0), (10, .ofNat 1, .ofNat 0)), ((7, .ofNat 1, .ofNat 0), (6, .negSucc 0, .ofNat 0), (8, .ofNat 1, .ofNat 0))], []),
  (46, [(0, .inr (.inl [122])), (1, .inl (false, (1, .ofNat 1, .ofNat 0))), (2, .inl (false, (2, .ofNat 1, .ofNat 0))), (3, .inl (false, (3, .ofNat 1, .ofNat 0)))], [.inl (false, (2, .ofNat 1, .ofNat 0)), .inl (false, (1, .ofNat 1, .ofNat 0)), .inr (.inl [122])], [(2, 1, (0, .ofNat 0, .ofNat 1), (0, .ofNat 0, .ofNat 0), (0, .ofNat 0, .ofNat 0)), (2, 4, (10, .ofNat 1, .ofNat 0), (0, .ofNat 0, .ofNat 0), (0, .ofNat 0, .ofNat 0)), (0, 125, (2, .ofNat 1, .ofNat 0), (7, .ofNat 1, .ofNat 0), (0, .ofNat 0, .ofNat 0)), (2, 0, (8, .ofNat 1, .ofNat 0), (0, .ofNat 0, .ofNat 2), (0, .ofNat 0, .ofNat 0)), (2, 1, (8, .ofNat 1, .ofNat 0), (0, .ofNat 0, .ofNat 0), (0, .ofNat 0, .ofNat 0)), (2, 1, (5, .ofNat 1, .ofNat 0), (9, .ofNat 1, .ofNat 0), (0, .ofNat 0, .ofNat 0)), (0, 124, (2, .ofNat 1, .ofNat 0), (9, .ofNat 1, .ofNat 0), (0, .ofNat 0, .ofNat 0)), (0, 125, (2, .ofNat 1, .ofNat 0), (7, .ofNat 1, .ofNat 0), (0, .ofNat 0, .ofNat 0)), (2, 5, (6, .ofNat 1, .ofNat 0), (7, .ofNat 1, .ofNat 0), (0, .ofNat 0, .ofNat 0)), (0, 125, (2, .ofNat 1, .ofNat 0), (7, .ofNat 1, .ofNat 0), (0, .ofNat 0, .ofNat 0)), (0, 125, (1, .ofNat 1, .ofNat 0), (6, .ofNat 1, .ofNat 0), (0, .ofNat 0, .ofNat 0)), (0, 124, (1, .ofNat 1, .ofNat 0), (5, .ofNat 1, .ofNat 0), (0, .ofNat 0, .ofNat 0)), (2, 1, (0, .ofNat 0, .ofNat 1), (0, .ofNat 0, .ofNat 0), (0, .ofNat 0, .ofNat 0)), (2, 5, (3, .ofNat 1, .ofNat 0), (0, .ofNat 0, .ofNat 3), (0, .ofNat 0, .ofNat 0)), (2, 3, (3, .ofNat 1, .ofNat 0), (0, .ofNat 0, .ofNat 0), (0, .ofNat 0, .ofNat 0)), (2, 1, (0, .ofNat 0, .ofNat 1), (0, .ofNat 0, .ofNat 0), (0, .ofNat 0, .ofNat 0)), (2, 5, (2, .ofNat 1, .ofNat 0), (4, .ofNat 1, .negSucc 0), (0, .ofNat 0, .ofNat 0)), (2, 3, (2, .ofNat 1, .ofNat 0), (0, .ofNat 0, .ofNat 0), (0, .ofNat 0, .ofNat 0)), (0, 122, (0, .ofNat 0, .ofNat 0), (4, .ofNat 1, .ofNat 0), (0, .ofNat 0, .ofNat 0)), (2, 1, (0, .ofNat 0, .ofNat 1), (0, .ofNat 0, .ofNat 0), (0, .ofNat 0, .ofNat 0)), (2, 5, (1, .ofNat 1, .ofNat 0), (4, .ofNat 1, .negSucc 0), (0, .ofNat 0, .ofNat 0)), (2, 3, (1, .ofNat 1, .ofNat 0), (0, .ofNat 0, .ofNat 0), (0, .ofNat 0, .ofNat 0)), (0, 122, (0, .ofNat 0, .ofNat 0), (4, .ofNat 1, .ofNat 0), (0, .ofNat 0, .ofNat 0))], [(1, [(.ofNat 0, .ofNat 7)]), (2, [(.ofNat 0, .ofNat 7)]), (3, [(.ofNat 0, .ofNat 3)]), (4, [(.ofNat 1, .ofNat 8)]), (5, [(.ofNat 0, .ofNat 1)]), (6, [(.ofNat 0, .ofNat 9)]), (7, [(.ofNat 0, .ofNat 9)]), (8, [(.ofNat 2, .ofNat 2)]), (9, [(.ofNat 0, .ofNat 1)]), (10, [(.ofNat 1, .ofNat 18)])], [((6, .ofNat 1, .ofNat 0), (7, .ofNat 1, .ofNat 0), (10, .ofNat 1, .ofNat 0)), ((7, .ofNat 1, .ofNat 0), (6, .negSucc 0, .ofNat 0), (8, .ofNat 1, .ofNat 0))], []),
  (0, [], [.inl (false, (0, .ofNat 0, .negSucc 1))], [(2, 0, (0, .ofNat 0, .ofNat 0), (0, .ofNat 0, .ofNat 0), (0, .ofNat 0, .ofNat 0)), (2, 0, (5, .ofNat 1, .ofNat 0), (9, .ofNat 1, .ofNat 0), (0, .ofNat 0, .ofNat 0)), (0, 124, (2, .ofNat 1, .ofNat 0), (9, .ofNat 1, .ofNat 0), (0, .ofNat 0, .ofNat 0)), (0, 125, (2, .ofNat 1, .ofNat 0), (7, .ofNat 1, .ofNat 0), (0, .ofNat 0, .ofNat 0)), (2, 4, (6, .ofNat 1, .ofNat 0), (7, .ofNat 1, .ofNat 0), (0, .ofNat 0, .ofNat 0)), (0, 125, (2, .ofNat 1, .ofNat 0), (7, .ofNat 1, .ofNat 0), (0, .ofNat 0, .ofNat 0)), (0, 125, (1, .ofNat 1, .ofNat 0), (6, .ofNat 1, .ofNat 0), (0, .ofNat 0, .ofNat 0)), (0, 124, (1, .ofNat 1, .ofNat 0), (5, .ofNat 1, .ofNat 0), (0, .ofNat 0, .ofNat 0)), (2, 1, (0, .ofNat 0, .ofNat 1), (0, .ofNat 0, .ofNat 0), (0, .ofNat 0, .ofNat 0)), (2, 5, (3, .ofNat 1, .ofNat 0), (0, .ofNat 0, .ofNat 3), (0, .ofNat 0, .ofNat 0)), (2, 3, (3, .ofNat 1, .ofNat 0), (0, .ofNat 0, .ofNat 0), (0, .ofNat 0, .ofNat 0)), (2, 1, (0, .ofNat 0, .ofNat 1), (0, .ofNat 0, .ofNat 0), (0, .ofNat 0, .ofNat 0)), (2, 5, (2, .ofNat 1, .ofNat 0), (4, .ofNat 1, .negSucc 0), (0, .ofNat 0, .ofNat 0)), (2, 3, (2, .ofNat 1, .ofNat 0), (0, .ofNat 0, .ofNat 0), (0, .ofNat 0, .ofNat 0)), (0, 122, (0, .ofNat 0, .ofNat 0), (4, .ofNat 1, .ofNat 0), (0, .ofNat 0, .ofNat 0)), (2, 1, (0, .ofNat 0, .ofNat 1), (0, .ofNat 0, .ofNat 0), (0, .ofNat 0, .ofNat 0)), (2, 5, (1, .ofNat 1, .ofNat 0), (4, .ofNat 1, .negSucc 0), (0, .ofNat 0, .ofNat 0)), (2, 3, (1, .ofNat 1, .ofNat 0), (0, .ofNat 0, .ofNat 0), (0, .ofNat 0, .ofNat 0)), (0, 122, (0, .ofNat 0, .ofNat 0), (4, .ofNat 1, .ofNat 0), (0, .ofNat 0, .ofNat 0))], [(1, [(.ofNat 0, .ofNat 7)]), (2, [(.ofNat 0, .ofNat 7)]), (3, [(.ofNat 0, .ofNat 3)]), (4, [(.ofNat 1, .ofNat 8)]), (5, [(.ofNat 0, .ofNat 1)]), (6, [(.ofNat 1, .ofNat 9)]), (7, [(.ofNat 0, .ofNat 8)]), (9, [(.ofNat 0, .ofNat 1)])], [], []),
  (46, [(0, .inr (.inl [122])), (1, .inl (false, (1, .ofNat 1, .ofNat 0))), (2, .inl (false, (2, .ofNat 1, .ofNat 0))), (3, .inl (false, (3, .ofNat 1, .ofNat 0)))], [.inl (false, (2, .ofNat 1, .ofNat 0)), .inl (false, (1, .ofNat 1, .ofNat 0)), .inr (.inl [122])], [(2, 1, (0, .ofNat 0, .ofNat 1), (0, .ofNat 0, .ofNat 0), (0, .ofNat 0, .ofNat 0)), (2, 4, (10, .ofNat 1, .ofNat 0), (0, .ofNat 0, .ofNat 0), (0, .ofNat 0, .ofNat 0)), (0, 125, (2, .ofNat 1, .ofNat 0), (7, .ofNat 1, .ofNat 0), (0, .ofNat 0, .ofNat 0)), (2, 0, (8, .ofNat 1, .ofNat 0), (0, .ofNat 0, .ofNat 0), (0, .ofNat 0, .ofNat 0)), (2, 1, (5, .ofNat 1, .ofNat 0), (9, .ofNat 1, .ofNat 0), (0, .ofNat 0, .ofNat 0)), (0, 124, (2, .ofNat 1, .ofNat 0), (9, .ofNat 1, .ofNat 0), (0, .ofNat 0, .ofNat 0)), (0, 125, (2, .ofNat 1, .ofNat 0), (7, .ofNat 1, .ofNat 0), (0, .ofNat 0, .ofNat 0)), (2, 4, (6, .ofNat 1, .ofNat 0), (7, .ofNat 1, .ofNat 0), (0, .ofNat 0, .ofNat 0)), (0, 125, (2, .ofNat 1, .ofNat 0), (7, .ofNat 1, .ofNat 0), (0, .ofNat 0, .ofNat 0)), (0, 125, (1, .ofNat 1, .ofNat 0), (6, .ofNat 1, .ofNat 0), (0, .ofNat 0, .ofNat 0)), (0, 124, (1, .ofNat 1, .ofNat 0), (5, .ofNat 1, .ofNat 0), (0, .ofNat 0, .ofNat 0)), (2, 1, (0, .ofNat 0, .ofNat 1), (0, .ofNat 0, .ofNat 0), (0, .ofNat 0, .ofNat 0)), (2, 5, (3, .ofNat 1, .ofNat 0), (0, .ofNat 0, .ofNat 3), (0, .ofNat 0, .ofNat 0)), (2, 3, (3, .ofNat 1, .ofNat 0), (0, .ofNat 0, .ofNat 0), (0, .ofNat 0, .ofNat 0)), (2, 1, (0, .ofNat 0, .ofNat 1), (0, .ofNat 0, .ofNat 0), (0, .ofNat 0, .ofNat 0)), (2, 5, (2, .ofNat 1, .ofNat 0), (4, .ofNat 1, .negSucc 0), (0, .ofNat 0, .ofNat 0)), (2, 3, (2, .ofNat 1, .ofNat 0), (0, .ofNat 0, .ofNat 0), (0, .ofNat 0, .ofNat 0)), (0, 122, (0, .ofNat 0, .ofNat 0), (4, .ofNat 1, .ofNat 0), (0, .ofNat 0, .ofNat 0)), (2, 1, (0, .ofNat 0, .ofNat 1), (0, .ofNat 0, .ofNat 0), (0, .ofNat 0, .ofNat 0)), (2, 5, (1, .ofNat 1, .ofNat 0), (4, .ofNat 1, .negSucc 0), (0, .ofNat 0, .ofNat 0)), (2, 3, (1, .ofNat 1, .ofNat 0), (0, .ofNat 0, .ofNat 0), (0, .ofNat 0, .ofNat 0)), (0, 122, (0, .ofNat 0, .ofNat 0), (4, .ofNat 1, .ofNat 0), (0, .ofNat 0, .ofNat 0))], [(1, [(.ofNat 0, .ofNat 7)]), (2, [(.ofNat 0, .ofNat 7)]), (3, [(.ofNat 0, .ofNat 3)]), (4, [(.ofNat 1, .ofNat 8)]), (5, [(.ofNat 0, .ofNat 1)]), (6, [(.ofNat 1, .ofNat 9)]), (7, [(.ofNat 0, .ofNat 8)]), (8, [(.ofNat 0, .ofNat 0)]), (9, [(.ofNat 0, .ofNat 1)]), (10, [(.ofNat 1, .ofNat 17)])], [((6, .ofNat 1, .ofNat 0), (7, .ofNat 1, .ofNat 0), (10, .ofNat 1, .ofNat 0)), ((6, .ofNat 1, .ofNat 0), (7, .negSucc 0, .ofNat 0), (8, .ofNat 1, .ofNat 0))], []),
  (0, [], [.inl (false, (0, .ofNat 0, .negSucc 1))], [(2, 0, (0, .ofNat 0, .ofNat 0), (0, .ofNat 0, .ofNat 0), (0, .ofNat 0, .ofNat 0)), (2, 1, (8, .ofNat 1, .ofNat 0), (0, .ofNat 0, .ofNat 2), (0, .ofNat 0, .ofNat 0)), (2, 1, (8, .ofNat 1, .ofNat 0), (0, .ofNat 0, .ofNat 0), (0, .ofNat 0, .ofNat 0)), (2, 1, (5, .ofNat 1, .ofNat 0), (9, .ofNat 1, .ofNat 0), (0, .ofNat 0, .ofNat 0)), (0, 124, (2, .ofNat 1, .ofNat 0), (9, .ofNat 1, .ofNat 0), (0, .ofNat 0, .ofNat 0)), (0, 125, (2, .ofNat 1, .ofNat 0), (7, .ofNat 1, .ofNat 0), (0, .ofNat 0, .ofNat 0)), (2, 4, (6, .ofNat 1, .ofNat 0), (7, .ofNat 1, .ofNat 0), (0, .ofNat 0, .ofNat 0)), (0, 125, (2, .ofNat 1, .ofNat 0), (7, .ofNat 1, .ofNat 0), (0, .ofNat 0, .ofNat 0)), (0, 125, (1, .ofNat 1, .ofNat 0), (6, .ofNat 1, .ofNat 0), (0, .ofNat 0, .ofNat 0)), (0, 124, (1, .ofNat 1, .ofNat 0), (5, .ofNat 1, .ofNat 0), (0, .ofNat 0, .ofNat 0)), (2, 1, (0, .ofNat 0, .ofNat 1), (0, .ofNat 0, .ofNat 0), (0, .ofNat 0, .ofNat 0)), (2, 5, (3, .ofNat 1, .ofNat 0), (0, .ofNat 0, .ofNat 3), (0, .ofNat 0, .ofNat 0)), (2, 3, (3, .ofNat 1, .ofNat 0), (0, .ofNat 0, .ofNat 0), (0, .ofNat 0, .ofNat 0)), (2, 1, (0, .ofNat 0, .ofNat 1), (0, .ofNat 0, .ofNat 0), (0, .ofNat 0, .ofNat 0)), (2, 5, (2, .ofNat 1, .ofNat 0), (4, .ofNat 1, .negSucc 0), (0, .ofNat 0, .ofNat 0)), (2, 3, (2, .ofNat 1, .ofNat 0), (0, .ofNat 0, .ofNat 0), (0, .ofNat 0, .ofNat 0)), (0, 122, (0, .ofNat 0, .ofNat 0), (4, .ofNat 1, .ofNat 0), (0, .ofNat 0, .ofNat 0)), (2, 1, (0, .ofNat 0, .ofNat 1), (0, .ofNat 0, .ofNat 0), (0, .ofNat 0, .ofNat 0)), (2, 5, (1, .ofNat 1, .ofNat 0), (4, .ofNat 1, .negSucc 0), (0, .ofNat 0, .ofNat 0)), (2, 3, (1, .ofNat 1, .ofNat 0), (0, .ofNat 0, .ofNat 0), (0, .ofNat 0, .ofNat 0)), (0, 122, (0, .ofNat 0, .ofNat 0), (4, .ofNat 1, .ofNat 0), (0, .ofNat 0, .ofNat 0))], [(1, [(.ofNat 0, .ofNat 7)]), (2, [(.ofNat 0, .ofNat 7)]), (3, [(.ofNat 0, .ofNat 3)]), (4, [(.ofNat 1, .ofNat 8)]), (5, [(.ofNat 0, .ofNat 1)]), (6, [(.ofNat 1, .ofNat 9)]), (7, [(.ofNat 0, .ofNat 8)]), (8, [(.negSucc 6, .negSucc 0), (.ofNat 1, .ofNat 1), (.ofNat 3, .ofNat 9)]), (9, [(.ofNat 0, .ofNat 1)])], [((6, .ofNat 1, .ofNat 0), (7, .negSucc 0, .ofNat 0), (8, .ofNat 1, .ofNat 0))], []),
  (46, [(0, .inr (.inl [122])), (1, .inl (false, (1, .ofNat 1, .ofNat 0))), (2, .inl (false, (2, .ofNat 1, .ofNat 0))), (3, .inl (false, (3, .ofNat 1, .ofNat 0)))], [.inl (false, (2, .ofNat 1, .ofNat 0)), .inl (false, (1, .ofNat 1, .ofNat 0)), .inr (.inl [122])], [(2, 1, (0, .ofNat 0, .ofNat 1), (0, .ofNat 0, .ofNat 0), (0, .ofNat 0, .ofNat 0)), (2, 4, (10, .ofNat 1, .ofNat 0), (0, .ofNat 0, .ofNat 0), (0, .ofNat 0, .ofNat 0)), (0, 125, (2, .ofNat 1, .ofNat 0), (7, .ofNat 1, .ofNat 0), (0, .ofNat 0, .ofNat 0)), (2, 0, (8, .ofNat 1, .ofNat 0), (0, .ofNat 0, .ofNat 2), (0, .ofNat 0, .ofNat 0)), (2, 1, (8, .ofNat 1, .ofNat 0), (0, .ofNat 0, .ofNat 0), (0, .ofNat 0, .ofNat 0)), (2, 1, (5, .ofNat 1, .ofNat 0), (9, .ofNat 1, .ofNat 0), (0, .ofNat 0, .ofNat 0)), (0, 124, (2, .ofNat 1, .ofNat 0), (9, .ofNat 1, .ofNat 0), (0, .ofNat 0, .ofNat 0)), (0, 125, (2, .ofNat 1, .ofNat 0), (7, .ofNat 1, .ofNat 0), (0, .ofNat 0, .ofNat 0)), (2, 4, (6, .ofNat 1, .ofNat 0), (7, .ofNat 1, .ofNat 0), (0, .ofNat 0, .ofNat 0)), (0, 125, (2, .ofNat 1, .ofNat 0), (7, .ofNat 1, .ofNat 0), (0, .ofNat 0, .ofNat 0)), (0, 125, (1, .ofNat 1, .ofNat 0), (6, .ofNat 1, .ofNat 0), (0, .ofNat 0, .ofNat 0)), (0, 124, (1, .ofNat 1, .ofNat 0), (5, .ofNat 1, .ofNat 0), (0, .ofNat 0, .ofNat 0)), (2, 1, (0, .ofNat 0, .ofNat 1), (0, .ofNat 0, .ofNat 0), (0, .ofNat 0, .ofNat 0)), (2, 5, (3, .ofNat 1, .ofNat 0), (0, .ofNat 0, .ofNat 3), (0, .ofNat 0, .ofNat 0)), (2, 3, (3, .ofNat 1, .ofNat 0), (0, .ofNat 0, .ofNat 0), (0, .ofNat 0, .ofNat 0)), (2, 1, (0, .ofNat 0, .ofNat 1), (0, .ofNat 0, .ofNat 0), (0, .ofNat 0, .ofNat 0)), (2, 5, (2, .ofNat 1, .ofNat 0), (4, .ofNat 1, .negSucc 0), (0, .ofNat 0, .ofNat 0)), (2, 3, (2, .ofNat 1, .ofNat 0), (0, .ofNat 0, .ofNat 0), (0, .ofNat 0, .ofNat 0)), (0, 122, (0, .ofNat 0, .ofNat 0), (4, .ofNat 1, .ofNat 0), (0, .ofNat 0, .ofNat 0)), (2, 1, (0, .ofNat 0, .ofNat 1), (0, .ofNat 0, .ofNat 0), (0, .ofNat 0, .ofNat 0)), (2, 5, (1, .ofNat 1, .ofNat 0), (4, .ofNat 1, .negSucc 0), (0, .ofNat 0, .ofNat 0)), (2, 3, (1, .ofNat 1, .ofNat 0), (0, .ofNat 0, .ofNat 0), (0, .ofNat 0, .ofNat 0)), (0, 122, (0, .ofNat 0, .ofNat 0), (4, .ofNat 1, .ofNat 0), (0, .ofNat 0, .ofNat 0))], [(1, [(.ofNat 0, .ofNat 7)]), (2, [(.ofNat 0, .ofNat 7)]), (3, [(.ofNat 0, .ofNat 3)]), (4, [(.ofNat 1, .ofNat 8)]), (5, [(.ofNat 0, .ofNat 1)]), (6, [(.ofNat 1, .ofNat 9)]), (7, [(.ofNat 0, .ofNat 8)]), (8, [(.ofNat 2, .ofNat 2)]), (9, [(.ofNat 0, .ofNat 1)]), (10, [(.ofNat 1, .ofNat 17)])], [((6, .ofNat 1, .ofNat 0), (7, .ofNat 1, .ofNat 0), (10, .ofNat 1, .ofNat 0)), ((6, .ofNat 1, .ofNat 0), (7, .negSucc 0, .ofNat 0), (8, .ofNat 1, .ofNat 0))], [])]
set_option maxRecDepth 1000000 in
theorem sg_pq_a_g : sg_go [] [45] 3000 232 0 2 4 [(0, [(.ofNat 0, .ofNat 0)]), (1, [(.negSucc 2147483647, .ofNat 2147483647)]), (2, [(.negSucc 2147483647, .ofNat 2147483647)]), (3, [(.negSucc 2147483647, .ofNat 2147483647)])] [] [] [] [(0, .inr (.inl [122])), (1, .inl (false, (1, .ofNat 1, .ofNat 0))), (2, .inl (false, (2, .ofNat 1, .ofNat 0))), (3, .inl (false, (3, .ofNat 1, .ofNat 0)))] [] [] sg_pq_a_Z = true := by decide +kernel
set_option maxRecDepth 100000 in
theorem sg_pq_a {Q : Option Value × am_S → Prop} {d : Nat} {S : am_S} {L : am_L} {x1 x2 x3 : Int} (hd : 2 ≤ d) (hP : ax_P0 none S) (l0 : lc L 0 122) (l1 : li L 1 x1) (l2 : li L 2 x2) (l3 : li L 3 x3) (b1 : ((-2147483648) ≤ x1 ∧ x1 ≤ 2147483647)) (b2 : ((-2147483648) ≤ x2 ∧ x2 ≤ 2147483647)) (b3 : ((-2147483648) ≤ x3 ∧ x3 ≤ 2147483647))
    (k0 : ∀ (x4 : Int) (i1 : Int32), rd S 122 0 = x4 → x1 < 0 → ((-2147483648) ≤ x1 ∧ x1 ≤ (-1)) → (0 ≤ x4 ∧ x4 ≤ 8) → i1.toInt = (-1) → Q (some (.int i1), S))
    (k1 : ∀ (x4 : Int) (i1 : Int32), rd S 122 0 = x4 → 0 ≤ x1 → x4 + (-1) < x1 → (0 ≤ x1 ∧ x1 ≤ 2147483647) → (0 ≤ x4 ∧ x4 ≤ 8) → i1.toInt = (-1) → Q (some (.int i1), S))
    (k2 : ∀ (x4 : Int) (i1 : Int32), rd S 122 0 = x4 → 0 ≤ x1 → x1 ≤ x4 + (-1) → x2 < 0 → (0 ≤ x1 ∧ x1 ≤ 7) → ((-2147483648) ≤ x2 ∧ x2 ≤ (-1)) → (1 ≤ x4 ∧ x4 ≤ 8) → i1.toInt = (-1) → Q (some (.int i1), S))
    (k3 : ∀ (x4 : Int) (i1 : Int32), rd S 122 0 = x4 → 0 ≤ x1 → x1 ≤ x4 + (-1) → 0 ≤ x2 → x4 + (-1) < x2 → (0 ≤ x1 ∧ x1 ≤ 7) → (1 ≤ x2 ∧ x2 ≤ 2147483647) → (1 ≤ x4 ∧ x4 ≤ 8) → i1.toInt = (-1) → Q (some (.int i1), S))
    (k4 : ∀ (x4 : Int) (i1 : Int32), rd S 122 0 = x4 → 0 ≤ x1 → x1 ≤ x4 + (-1) → 0 ≤ x2 → x2 ≤ x4 + (-1) → x3 < 0 → (0 ≤ x1 ∧ x1 ≤ 7) → (0 ≤ x2 ∧ x2 ≤ 7) → ((-2147483648) ≤ x3 ∧ x3 ≤ (-1)) → (1 ≤ x4 ∧ x4 ≤ 8) → i1.toInt = (-1) → Q (some (.int i1), S))
    (k5 : ∀ (x4 : Int) (i1 : Int32), rd S 122 0 = x4 → 0 ≤ x1 → x1 ≤ x4 + (-1) → 0 ≤ x2 → x2 ≤ x4 + (-1) → 0 ≤ x3 → 3 < x3 → (0 ≤ x1 ∧ x1 ≤ 7) → (0 ≤ x2 ∧ x2 ≤ 7) → (4 ≤ x3 ∧ x3 ≤ 2147483647) → (1 ≤ x4 ∧ x4 ≤ 8) → i1.toInt = (-1) → Q (some (.int i1), S))
    (k6 : ∀ (x4 x5 x6 x7 x9 : Int) (i1 : Int32), rd S 122 0 = x4 → 0 ≤ x1 → x1 ≤ x4 + (-1) → 0 ≤ x2 → x2 ≤ x4 + (-1) → 0 ≤ x3 → x3 ≤ 3 → rd S 124 x1 = x5 → rd S 125 x1 = x6 → rd S 125 x2 = x7 → x6 ≤ x7 → rd S 124 x2 = x9 → x5 = x9 → (0 ≤ x1 ∧ x1 ≤ 7) → (0 ≤ x2 ∧ x2 ≤ 7) → (0 ≤ x3 ∧ x3 ≤ 3) → (1 ≤ x4 ∧ x4 ≤ 8) → (0 ≤ x5 ∧ x5 ≤ 1) → (0 ≤ x6 ∧ x6 ≤ 9) → (0 ≤ x7 ∧ x7 ≤ 9) → (0 ≤ x9 ∧ x9 ≤ 1) → i1.toInt = (-2) → Q (some (.int i1), S))
    (k7 : ∀ (x4 x5 x6 x7 x8 x9 x10 : Int) (i1 : Int32), rd S 122 0 = x4 → 0 ≤ x1 → x1 ≤ x4 + (-1) → 0 ≤ x2 → x2 ≤ x4 + (-1) → 0 ≤ x3 → x3 ≤ 3 → rd S 124 x1 = x5 → rd S 125 x1 = x6 → rd S 125 x2 = x7 → x6 ≤ x7 → rd S 124 x2 = x9 → x5 ≠ x9 → x8 = 0 → x10 ≤ 0 → (0 ≤ x1 ∧ x1 ≤ 7) → (0 ≤ x2 ∧ x2 ≤ 7) → (0 ≤ x3 ∧ x3 ≤ 3) → (1 ≤ x4 ∧ x4 ≤ 8) → (0 ≤ x5 ∧ x5 ≤ 1) → (0 ≤ x6 ∧ x6 ≤ 9) → (0 ≤ x7 ∧ x7 ≤ 9) → (0 ≤ x8 ∧ x8 ≤ 0) → (0 ≤ x9 ∧ x9 ≤ 1) → (0 ≤ x10 ∧ x10 ≤ 0) → x6 + x7 = x10 → x7 + ((-1) * x6 + 0) = x8 → i1.toInt = (-2) → Q (some (.int i1), S))
    (k8 : ∀ (x4 x5 x6 x7 x8 x9 x10 : Int) (L' : am_L) (i1 : Int32) (i2 : Int32), rd S 122 0 = x4 → 0 ≤ x1 → x1 ≤ x4 + (-1) → 0 ≤ x2 → x2 ≤ x4 + (-1) → 0 ≤ x3 → x3 ≤ 3 → rd S 124 x1 = x5 → rd S 125 x1 = x6 → rd S 125 x2 = x7 → x6 ≤ x7 → rd S 124 x2 = x9 → x5 ≠ x9 → x8 = 0 → 0 < x10 → (0 ≤ x1 ∧ x1 ≤ 7) → (0 ≤ x2 ∧ x2 ≤ 7) → (0 ≤ x3 ∧ x3 ≤ 3) → (1 ≤ x4 ∧ x4 ≤ 8) → (0 ≤ x5 ∧ x5 ≤ 1) → (0 ≤ x6 ∧ x6 ≤ 9) → (0 ≤ x7 ∧ x7 ≤ 9) → (0 ≤ x8 ∧ x8 ≤ 0) → (0 ≤ x9 ∧ x9 ≤ 1) → (1 ≤ x10 ∧ x10 ≤ 18) → x6 + x7 = x10 → x7 + ((-1) * x6 + 0) = x8 → lc L' 0 122 → li L' 1 x1 → li L' 2 x2 → li L' 3 x3 → i1.toInt = x2 → i2.toInt = x1 → am_V none d 232 45 L' ((.int i1) :: (.int i2) :: (.ref 122) :: []) S Q)
    (k9 : ∀ (x4 x5 x6 x7 x8 x9 : Int) (i1 : Int32), rd S 122 0 = x4 → 0 ≤ x1 → x1 ≤ x4 + (-1) → 0 ≤ x2 → x2 ≤ x4 + (-1) → 0 ≤ x3 → x3 ≤ 3 → rd S 124 x1 = x5 → rd S 125 x1 = x6 → rd S 125 x2 = x7 → x6 ≤ x7 → rd S 124 x2 = x9 → x5 ≠ x9 → x8 ≠ 0 → x8 ≠ 2 → (0 ≤ x1 ∧ x1 ≤ 7) → (0 ≤ x2 ∧ x2 ≤ 7) → (0 ≤ x3 ∧ x3 ≤ 3) → (1 ≤ x4 ∧ x4 ≤ 8) → (0 ≤ x5 ∧ x5 ≤ 1) → (0 ≤ x6 ∧ x6 ≤ 9) → (0 ≤ x7 ∧ x7 ≤ 9) → ((-9) ≤ x8 ∧ x8 ≤ (-1)) ∨ (1 ≤ x8 ∧ x8 ≤ 1) ∨ (3 ≤ x8 ∧ x8 ≤ 9) → (0 ≤ x9 ∧ x9 ≤ 1) → x7 + ((-1) * x6 + 0) = x8 → i1.toInt = (-2) → Q (some (.int i1), S))
    (k10 : ∀ (x4 x5 x6 x7 x8 x9 x10 : Int) (i1 : Int32), rd S 122 0 = x4 → 0 ≤ x1 → x1 ≤ x4 + (-1) → 0 ≤ x2 → x2 ≤ x4 + (-1) → 0 ≤ x3 → x3 ≤ 3 → rd S 124 x1 = x5 → rd S 125 x1 = x6 → rd S 125 x2 = x7 → x6 ≤ x7 → rd S 124 x2 = x9 → x5 ≠ x9 → x8 ≠ 0 → x8 = 2 → x10 ≤ 0 → (0 ≤ x1 ∧ x1 ≤ 7) → (0 ≤ x2 ∧ x2 ≤ 7) → (0 ≤ x3 ∧ x3 ≤ 3) → (1 ≤ x4 ∧ x4 ≤ 8) → (0 ≤ x5 ∧ x5 ≤ 1) → (0 ≤ x6 ∧ x6 ≤ 9) → (0 ≤ x7 ∧ x7 ≤ 9) → (2 ≤ x8 ∧ x8 ≤ 2) → (0 ≤ x9 ∧ x9 ≤ 1) → (0 ≤ x10 ∧ x10 ≤ 0) → x6 + x7 = x10 → x7 + ((-1) * x6 + 0) = x8 → i1.toInt = (-2) → Q (some (.int i1), S))
    (k11 : ∀ (x4 x5 x6 x7 x8 x9 x10 : Int) (L' : am_L) (i1 : Int32) (i2 : Int32), rd S 122 0 = x4 → 0 ≤ x1 → x1 ≤ x4 + (-1) → 0 ≤ x2 → x2 ≤ x4 + (-1) → 0 ≤ x3 → x3 ≤ 3 → rd S 124 x1 = x5 → rd S 125 x1 = x6 → rd S 125 x2 = x7 → x6 ≤ x7 → rd S 124 x2 = x9 → x5 ≠ x9 → x8 ≠ 0 → x8 = 2 → 0 < x10 → (0 ≤ x1 ∧ x1 ≤ 7) → (0 ≤ x2 ∧ x2 ≤ 7) → (0 ≤ x3 ∧ x3 ≤ 3) → (1 ≤ x4 ∧ x4 ≤ 8) → (0 ≤ x5 ∧ x5 ≤ 1) → (0 ≤ x6 ∧ x6 ≤ 9) → (0 ≤ x7 ∧ x7 ≤ 9) → (2 ≤ x8 ∧ x8 ≤ 2) → (0 ≤ x9 ∧ x9 ≤ 1) → (1 ≤ x10 ∧ x10 ≤ 18) → x6 + x7 = x10 → x7 + ((-1) * x6 + 0) = x8 → lc L' 0 122 → li L' 1 x1 → li L' 2 x2 → li L' 3 x3 → i1.toInt = x2 → i2.toInt = x1 → am_V none d 232 45 L' ((.int i1) :: (.int i2) :: (.ref 122) :: []) S Q)
    (k12 : ∀ (x4 x5 x6 x7 x9 : Int) (i1 : Int32), rd S 122 0 = x4 → 0 ≤ x1 → x1 ≤ x4 + (-1) → 0 ≤ x2 → x2 ≤ x4 + (-1) → 0 ≤ x3 → x3 ≤ 3 → rd S 124 x1 = x5 → rd S 125 x1 = x6 → rd S 125 x2 = x7 → x7 < x6 → rd S 124 x2 = x9 → x5 = x9 → (0 ≤ x1 ∧ x1 ≤ 7) → (0 ≤ x2 ∧ x2 ≤ 7) → (0 ≤ x3 ∧ x3 ≤ 3) → (1 ≤ x4 ∧ x4 ≤ 8) → (0 ≤ x5 ∧ x5 ≤ 1) → (1 ≤ x6 ∧ x6 ≤ 9) → (0 ≤ x7 ∧ x7 ≤ 8) → (0 ≤ x9 ∧ x9 ≤ 1) → i1.toInt = (-2) → Q (some (.int i1), S))
    (k13 : ∀ (x4 x5 x6 x7 x8 x9 x10 : Int) (L' : am_L) (i1 : Int32) (i2 : Int32), rd S 122 0 = x4 → 0 ≤ x1 → x1 ≤ x4 + (-1) → 0 ≤ x2 → x2 ≤ x4 + (-1) → 0 ≤ x3 → x3 ≤ 3 → rd S 124 x1 = x5 → rd S 125 x1 = x6 → rd S 125 x2 = x7 → x7 < x6 → rd S 124 x2 = x9 → x5 ≠ x9 → x8 = 0 → 0 < x10 → (0 ≤ x1 ∧ x1 ≤ 7) → (0 ≤ x2 ∧ x2 ≤ 7) → (0 ≤ x3 ∧ x3 ≤ 3) → (1 ≤ x4 ∧ x4 ≤ 8) → (0 ≤ x5 ∧ x5 ≤ 1) → (1 ≤ x6 ∧ x6 ≤ 9) → (0 ≤ x7 ∧ x7 ≤ 8) → (0 ≤ x8 ∧ x8 ≤ 0) → (0 ≤ x9 ∧ x9 ≤ 1) → (1 ≤ x10 ∧ x10 ≤ 17) → x6 + x7 = x10 → x6 + ((-1) * x7 + 0) = x8 → lc L' 0 122 → li L' 1 x1 → li L' 2 x2 → li L' 3 x3 → i1.toInt = x2 → i2.toInt = x1 → am_V none d 232 45 L' ((.int i1) :: (.int i2) :: (.ref 122) :: []) S Q)
    (k14 : ∀ (x4 x5 x6 x7 x8 x9 : Int) (i1 : Int32), rd S 122 0 = x4 → 0 ≤ x1 → x1 ≤ x4 + (-1) → 0 ≤ x2 → x2 ≤ x4 + (-1) → 0 ≤ x3 → x3 ≤ 3 → rd S 124 x1 = x5 → rd S 125 x1 = x6 → rd S 125 x2 = x7 → x7 < x6 → rd S 124 x2 = x9 → x5 ≠ x9 → x8 ≠ 0 → x8 ≠ 2 → (0 ≤ x1 ∧ x1 ≤ 7) → (0 ≤ x2 ∧ x2 ≤ 7) → (0 ≤ x3 ∧ x3 ≤ 3) → (1 ≤ x4 ∧ x4 ≤ 8) → (0 ≤ x5 ∧ x5 ≤ 1) → (1 ≤ x6 ∧ x6 ≤ 9) → (0 ≤ x7 ∧ x7 ≤ 8) → ((-7) ≤ x8 ∧ x8 ≤ (-1)) ∨ (1 ≤ x8 ∧ x8 ≤ 1) ∨ (3 ≤ x8 ∧ x8 ≤ 9) → (0 ≤ x9 ∧ x9 ≤ 1) → x6 + ((-1) * x7 + 0) = x8 → i1.toInt = (-2) → Q (some (.int i1), S))
    (k15 : ∀ (x4 x5 x6 x7 x8 x9 x10 : Int) (L' : am_L) (i1 : Int32) (i2 : Int32), rd S 122 0 = x4 → 0 ≤ x1 → x1 ≤ x4 + (-1) → 0 ≤ x2 → x2 ≤ x4 + (-1) → 0 ≤ x3 → x3 ≤ 3 → rd S 124 x1 = x5 → rd S 125 x1 = x6 → rd S 125 x2 = x7 → x7 < x6 → rd S 124 x2 = x9 → x5 ≠ x9 → x8 ≠ 0 → x8 = 2 → 0 < x10 → (0 ≤ x1 ∧ x1 ≤ 7) → (0 ≤ x2 ∧ x2 ≤ 7) → (0 ≤ x3 ∧ x3 ≤ 3) → (1 ≤ x4 ∧ x4 ≤ 8) → (0 ≤ x5 ∧ x5 ≤ 1) → (1 ≤ x6 ∧ x6 ≤ 9) → (0 ≤ x7 ∧ x7 ≤ 8) → (2 ≤ x8 ∧ x8 ≤ 2) → (0 ≤ x9 ∧ x9 ≤ 1) → (1 ≤ x10 ∧ x10 ≤ 17) → x6 + x7 = x10 → x6 + ((-1) * x7 + 0) = x8 → lc L' 0 122 → li L' 1 x1 → li L' 2 x2 → li L' 3 x3 → i1.toInt = x2 → i2.toInt = x1 → am_V none d 232 45 L' ((.int i1) :: (.int i2) :: (.ref 122) :: []) S Q) : am_V none d 232 0 L ([]) S Q := by
  refine sg_use sg_pq_a_g hd hP (sg_xs [0, x1, x2, x3]) ⟨⟨Int.le_refl 0, Int.le_refl 0⟩, b1, b2, b3, trivial⟩ trivial trivial trivial ⟨l0, l1, l2, l3, trivial⟩ trivial ?_
  intro z hz x' L' st' S' hx hP' hW hL' hs' hJ hE' hT' hD'
  have q1 : x' 1 = x1 := hx 1 (by decide)
  subst q1
  have q2 : x' 2 = x2 := hx 2 (by decide)
  subst q2
  have q3 : x' 3 = x3 := hx 3 (by decide)
  subst q3
  have eS : S' = S := hW.1 rfl
  subst eS
  simp only [sg_pq_a_Z, List.mem_cons, List.not_mem_nil, or_false] at hz
  rcases hz with rfl | rfl | rfl | rfl | rfl | rfl | rfl | rfl | rfl | rfl | rfl | rfl | rfl | rfl | rfl | rfl
  · obtain ⟨f0, f1, -, hσ⟩ := hJ
    obtain ⟨e0, e1, -⟩ := hE'
    intro v hv
    subst hv
    cases v with
    | none => exact hs'.elim
    | some v1 =>
      obtain ⟨⟨i1, rfl, g1⟩, -⟩ := hs'
      exact k0 (x' 4) i1 f0 f1 e0 e1 g1
  · obtain ⟨f0, f1, f2, -, hσ⟩ := hJ
    obtain ⟨e0, e1, -⟩ := hE'
    intro v hv
    subst hv
    cases v with
    | none => exact hs'.elim
    | some v1 =>
      obtain ⟨⟨i1, rfl, g1⟩, -⟩ := hs'
      exact k1 (x' 4) i1 f0 f1 f2 e0 e1 g1
  · obtain ⟨f0, f1, f2, -, -, f5, -, hσ⟩ := hJ
    obtain ⟨e0, e1, e2, -⟩ := hE'
    intro v hv
    subst hv
    cases v with
    | none => exact hs'.elim
    | some v1 =>
      obtain ⟨⟨i1, rfl, g1⟩, -⟩ := hs'
      exact k2 (x' 4) i1 f0 f1 f2 f5 e0 e1 e2 g1
  · obtain ⟨f0, f1, f2, -, -, f5, f6, -, hσ⟩ := hJ
    obtain ⟨e0, e1, e2, -⟩ := hE'
    intro v hv
    subst hv
    cases v with
    | none => exact hs'.elim
    | some v1 =>
      obtain ⟨⟨i1, rfl, g1⟩, -⟩ := hs'
      exact k3 (x' 4) i1 f0 f1 f2 f5 f6 e0 e1 e2 g1
  · obtain ⟨f0, f1, f2, -, -, f5, f6, -, f8, -, hσ⟩ := hJ
    obtain ⟨e0, e1, e2, e3, -⟩ := hE'
    intro v hv
    subst hv
    cases v with
    | none => exact hs'.elim
    | some v1 =>
      obtain ⟨⟨i1, rfl, g1⟩, -⟩ := hs'
      exact k4 (x' 4) i1 f0 f1 f2 f5 f6 f8 e0 e1 e2 e3 g1
  · obtain ⟨f0, f1, f2, -, -, f5, f6, -, f8, f9, -, hσ⟩ := hJ
    obtain ⟨e0, e1, e2, e3, -⟩ := hE'
    intro v hv
    subst hv
    cases v with
    | none => exact hs'.elim
    | some v1 =>
      obtain ⟨⟨i1, rfl, g1⟩, -⟩ := hs'
      exact k5 (x' 4) i1 f0 f1 f2 f5 f6 f8 f9 e0 e1 e2 e3 g1
  · obtain ⟨f0, f1, f2, -, -, f5, f6, -, f8, f9, -, f11, f12, f13, f14, -, f16, f17, -, hσ⟩ := hJ
    obtain ⟨e0, e1, e2, e3, e4, e5, e6, e7, -⟩ := hE'
    intro v hv
    subst hv
    cases v with
    | none => exact hs'.elim
    | some v1 =>
      obtain ⟨⟨i1, rfl, g1⟩, -⟩ := hs'
      exact k6 (x' 4) (x' 5) (x' 6) (x' 7) (x' 9) i1 f0 f1 f2 f5 f6 f8 f9 f11 f12 f13 f14 f16 f17 e0 e1 e2 e3 e4 e5 e6 e7 g1
  · obtain ⟨f0, f1, f2, -, -, f5, f6, -, f8, f9, -, f11, f12, f13, f14, -, f16, f17, f18, -, f20, -, hσ⟩ := hJ
    obtain ⟨e0, e1, e2, e3, e4, e5, e6, e7, e8, e9, -⟩ := hE'
    obtain ⟨t0, t1, -⟩ := hT'
    intro v hv
    subst hv
    cases v with
    | none => exact hs'.elim
    | some v1 =>
      obtain ⟨⟨i1, rfl, g1⟩, -⟩ := hs'
      exact k7 (x' 4) (x' 5) (x' 6) (x' 7) (x' 8) (x' 9) (x' 10) i1 f0 f1 f2 f5 f6 f8 f9 f11 f12 f13 f14 f16 f17 f18 f20 e0 e1 e2 e3 e4 e5 e6 e7 e8 e9 t0 t1 g1
  · obtain ⟨f0, f1, f2, -, -, f5, f6, -, f8, f9, -, f11, f12, f13, f14, -, f16, f17, f18, -, f20, -, hσ⟩ := hJ
    obtain ⟨e0, e1, e2, e3, e4, e5, e6, e7, e8, e9, -⟩ := hE'
    obtain ⟨t0, t1, -⟩ := hT'
    obtain ⟨p0, p1, p2, p3, -⟩ := hL'
    obtain ⟨v1, r1, rfl, ⟨i1, rfl, g1⟩, hs1⟩ := sg_tc hs'
    obtain ⟨v2, r2, rfl, ⟨i2, rfl, g2⟩, hs2⟩ := sg_tc hs1
    obtain ⟨v3, r3, rfl, rfl, hs3⟩ := sg_tc hs2
    obtain rfl := sg_tn hs3
    exact k8 (x' 4) (x' 5) (x' 6) (x' 7) (x' 8) (x' 9) (x' 10) L' i1 i2 f0 f1 f2 f5 f6 f8 f9 f11 f12 f13 f14 f16 f17 f18 f20 e0 e1 e2 e3 e4 e5 e6 e7 e8 e9 t0 t1 p0 p1 p2 p3 g1 g2
  · obtain ⟨f0, f1, f2, -, -, f5, f6, -, f8, f9, -, f11, f12, f13, f14, -, f16, f17, f18, f19, -, hσ⟩ := hJ
    obtain ⟨e0, e1, e2, e3, e4, e5, e6, e7, e8, -⟩ := hE'
    obtain ⟨t0, -⟩ := hT'
    intro v hv
    subst hv
    cases v with
    | none => exact hs'.elim
    | some v1 =>
      obtain ⟨⟨i1, rfl, g1⟩, -⟩ := hs'
      exact k9 (x' 4) (x' 5) (x' 6) (x' 7) (x' 8) (x' 9) i1 f0 f1 f2 f5 f6 f8 f9 f11 f12 f13 f14 f16 f17 f18 f19 e0 e1 e2 e3 e4 e5 e6 e7 e8 t0 g1
  · obtain ⟨f0, f1, f2, -, -, f5, f6, -, f8, f9, -, f11, f12, f13, f14, -, f16, f17, f18, f19, -, f21, -, hσ⟩ := hJ
    obtain ⟨e0, e1, e2, e3, e4, e5, e6, e7, e8, e9, -⟩ := hE'
    obtain ⟨t0, t1, -⟩ := hT'
    intro v hv
    subst hv
    cases v with
    | none => exact hs'.elim
    | some v1 =>
      obtain ⟨⟨i1, rfl, g1⟩, -⟩ := hs'
      exact k10 (x' 4) (x' 5) (x' 6) (x' 7) (x' 8) (x' 9) (x' 10) i1 f0 f1 f2 f5 f6 f8 f9 f11 f12 f13 f14 f16 f17 f18 f19 f21 e0 e1 e2 e3 e4 e5 e6 e7 e8 e9 t0 t1 g1
  · obtain ⟨f0, f1, f2, -, -, f5, f6, -, f8, f9, -, f11, f12, f13, f14, -, f16, f17, f18, f19, -, f21, -, hσ⟩ := hJ
    obtain ⟨e0, e1, e2, e3, e4, e5, e6, e7, e8, e9, -⟩ := hE'
    obtain ⟨t0, t1, -⟩ := hT'
    obtain ⟨p0, p1, p2, p3, -⟩ := hL'
    obtain ⟨v1, r1, rfl, ⟨i1, rfl, g1⟩, hs1⟩ := sg_tc hs'
    obtain ⟨v2, r2, rfl, ⟨i2, rfl, g2⟩, hs2⟩ := sg_tc hs1
    obtain ⟨v3, r3, rfl, rfl, hs3⟩ := sg_tc hs2
    obtain rfl := sg_tn hs3
    exact k11 (x' 4) (x' 5) (x' 6) (x' 7) (x' 8) (x' 9) (x' 10) L' i1 i2 f0 f1 f2 f5 f6 f8 f9 f11 f12 f13 f14 f16 f17 f18 f19 f21 e0 e1 e2 e3 e4 e5 e6 e7 e8 e9 t0 t1 p0 p1 p2 p3 g1 g2
  · obtain ⟨f0, f1, f2, -, -, f5, f6, -, f8, f9, -, f11, f12, f13, f14, -, f16, f17, -, hσ⟩ := hJ
    obtain ⟨e0, e1, e2, e3, e4, e5, e6, e7, -⟩ := hE'
    intro v hv
    subst hv
    cases v with
    | none => exact hs'.elim
    | some v1 =>
      obtain ⟨⟨i1, rfl, g1⟩, -⟩ := hs'
      exact k12 (x' 4) (x' 5) (x' 6) (x' 7) (x' 9) i1 f0 f1 f2 f5 f6 f8 f9 f11 f12 f13 f14 f16 f17 e0 e1 e2 e3 e4 e5 e6 e7 g1
  · obtain ⟨f0, f1, f2, -, -, f5, f6, -, f8, f9, -, f11, f12, f13, f14, -, f16, f17, f18, -, f20, -, hσ⟩ := hJ
    obtain ⟨e0, e1, e2, e3, e4, e5, e6, e7, e8, e9, -⟩ := hE'
    obtain ⟨t0, t1, -⟩ := hT'
    obtain ⟨p0, p1, p2, p3, -⟩ := hL'
    obtain ⟨v1, r1, rfl, ⟨i1, rfl, g1⟩, hs1⟩ := sg_tc hs'
    obtain ⟨v2, r2, rfl, ⟨i2, rfl, g2⟩, hs2⟩ := sg_tc hs1
    obtain ⟨v3, r3, rfl, rfl, hs3⟩ := sg_tc hs2
    obtain rfl := sg_tn hs3
    exact k13 (x' 4) (x' 5) (x' 6) (x' 7) (x' 8) (x' 9) (x' 10) L' i1 i2 f0 f1 f2 f5 f6 f8 f9 f11 f12 f13 f14 f16 f17 f18 f20 e0 e1 e2 e3 e4 e5 e6 e7 e8 e9 t0 t1 p0 p1 p2 p3 g1 g2
  · obtain ⟨f0, f1, f2, -, -, f5, f6, -, f8, f9, -, f11, f12, f13, f14, -, f16, f17, f18, f19, -, hσ⟩ := hJ
    obtain ⟨e0, e1, e2, e3, e4, e5, e6, e7, e8, -⟩ := hE'
    obtain ⟨t0, -⟩ := hT'
    intro v hv
    subst hv
    cases v with
    | none => exact hs'.elim
    | some v1 =>
      obtain ⟨⟨i1, rfl, g1⟩, -⟩ := hs'
      exact k14 (x' 4) (x' 5) (x' 6) (x' 7) (x' 8) (x' 9) i1 f0 f1 f2 f5 f6 f8 f9 f11 f12 f13 f14 f16 f17 f18 f19 e0 e1 e2 e3 e4 e5 e6 e7 e8 t0 g1
  · obtain ⟨f0, f1, f2, -, -, f5, f6, -, f8, f9, -, f11, f12, f13, f14, -, f16, f17, f18, f19, -, f21, -, hσ⟩ := hJ
    obtain ⟨e0, e1, e2, e3, e4, e5, e6, e7, e8, e9, -⟩ := hE'
    obtain ⟨t0, t1, -⟩ := hT'
    obtain ⟨p0, p1, p2, p3, -⟩ := hL'
    obtain ⟨v1, r1, rfl, ⟨i1, rfl, g1⟩, hs1⟩ := sg_tc hs'
    obtain ⟨v2, r2, rfl, ⟨i2, rfl, g2⟩, hs2⟩ := sg_tc hs1
    obtain ⟨v3, r3, rfl, rfl, hs3⟩ := sg_tc hs2
    obtain rfl := sg_tn hs3
    exact k15 (x' 4) (x' 5) (x' 6) (x' 7) (x' 8) (x' 9) (x' 10) L' i1 i2 f0 f1 f2 f5 f6 f8 f9 f11 f12 f13 f14 f16 f17 f18 f19 f21 e0 e1 e2 e3 e4 e5 e6 e7 e8 e9 t0 t1 p0 p1 p2 p3 g1 g2
def sg_pq_b_Z : List sg_z := [(61, [(0, .inr (.inl [122])), (3, .inl (false, (1, .ofNat 1, .ofNat 0))), (4, .inl (false, (0, .ofNat 0, .ofNat 0))), (5, .inl (false, (0, .ofNat 0, .ofNat 0))), (6, .inl (false, (0, .ofNat 0, .ofNat 0))), (7, .inl (false, (0, .ofNat 0, .ofNat 0)))], [], [], [(1, [(.ofNat 0, .ofNat 3)])], [], [])]
set_option maxRecDepth 1000000 in
theorem sg_pq_b_g : sg_go [] [60] 3000 232 48 0 2 [(0, [(.ofNat 0, .ofNat 0)]), (1, [(.ofNat 0, .ofNat 3)])] [] [] [] [(0, .inr (.inl [122])), (3, .inl (false, (1, .ofNat 1, .ofNat 0)))] [] [] sg_pq_b_Z = true := by decide +kernel
set_option maxRecDepth 100000 in
theorem sg_pq_b {Q : Option Value × am_S → Prop} {d : Nat} {S : am_S} {L : am_L} {x1 : Int} (hd : 0 ≤ d) (hP : ax_P0 none S) (l0 : lc L 0 122) (l3 : li L 3 x1) (b1 : (0 ≤ x1 ∧ x1 ≤ 3))
    (k0 : ∀ (L' : am_L), (0 ≤ x1 ∧ x1 ≤ 3) → lc L' 0 122 → li L' 3 x1 → li L' 4 0 → li L' 5 0 → li L' 6 0 → li L' 7 0 → am_V none d 232 60 L' ([]) S Q) : am_V none d 232 48 L ([]) S Q := by
  refine sg_use sg_pq_b_g hd hP (sg_xs [0, x1]) ⟨⟨Int.le_refl 0, Int.le_refl 0⟩, b1, trivial⟩ trivial trivial trivial ⟨l0, l3, trivial⟩ trivial ?_
  intro z hz x' L' st' S' hx hP' hW hL' hs' hJ hE' hT' hD'
  have q1 : x' 1 = x1 := hx 1 (by decide)
  subst q1
  have eS : S' = S := hW.1 rfl
  subst eS
  simp only [sg_pq_b_Z, List.mem_cons, List.not_mem_nil, or_false] at hz
  rcases hz with rfl
  · have hσ := hJ
    obtain ⟨e0, -⟩ := hE'
    obtain ⟨p0, p1, p2, p3, p4, p5, -⟩ := hL'
    obtain rfl := sg_tn hs'
    exact k0 L' e0 p0 p1 p2 p3 p4 p5
def sg_pq_c_Z : List sg_z := [(0, [], [.inl (false, (4, .ofNat 1, .ofNat 0))], [(2, 1, (1, .ofNat 1, .ofNat 0), (0, .ofNat 0, .ofNat 2), (0, .ofNat 0, .ofNat 0)), (2, 1, (1, .ofNat 1, .ofNat 0), (0, .ofNat 0, .ofNat 1), (0, .ofNat 0, .ofNat 0)), (2, 1, (1, .ofNat 1, .ofNat 0), (0, .ofNat 0, .ofNat 0), (0, .ofNat 0, .ofNat 0)), (2, 3, (5, .ofNat 1, .ofNat 0), (6, .ofNat 1, .ofNat 0), (0, .ofNat 0, .ofNat 0)), (0, 122, (0, .ofNat 0, .ofNat 43), (6, .ofNat 1, .ofNat 0), (0, .ofNat 0, .ofNat 0))], [(1, [(.ofNat 3, .ofNat 3)]), (2, [(.ofNat 0, .ofNat 30)]), (5, [(.ofNat 0, .ofNat 30)]), (6, [(.ofNat 0, .ofNat 30)])], [], []),
  (0, [], [.inl (false, (3, .ofNat 1, .ofNat 0))], [(2, 0, (1, .ofNat 1, .ofNat 0), (0, .ofNat 0, .ofNat 2), (0, .ofNat 0, .ofNat 0)), (2, 1, (1, .ofNat 1, .ofNat 0), (0, .ofNat 0, .ofNat 1), (0, .ofNat 0, .ofNat 0)), (2, 1, (1, .ofNat 1, .ofNat 0), (0, .ofNat 0, .ofNat 0), (0, .ofNat 0, .ofNat 0)), (2, 3, (5, .ofNat 1, .ofNat 0), (6, .ofNat 1, .ofNat 0), (0, .ofNat 0, .ofNat 0)), (0, 122, (0, .ofNat 0, .ofNat 43), (6, .ofNat 1, .ofNat 0), (0, .ofNat 0, .ofNat 0))], [(1, [(.ofNat 2, .ofNat 2)]), (2, [(.ofNat 0, .ofNat 30)]), (5, [(.ofNat 0, .ofNat 30)]), (6, [(.ofNat 0, .ofNat 30)])], [], []),
  (0, [], [.inl (false, (2, .ofNat 1, .ofNat 0))], [(2, 0, (1, .ofNat 1, .ofNat 0), (0, .ofNat 0, .ofNat 1), (0, .ofNat 0, .ofNat 0)), (2, 1, (1, .ofNat 1, .ofNat 0), (0, .ofNat 0, .ofNat 0), (0, .ofNat 0, .ofNat 0)), (2, 3, (5, .ofNat 1, .ofNat 0), (6, .ofNat 1, .ofNat 0), (0, .ofNat 0, .ofNat 0)), (0, 122, (0, .ofNat 0, .ofNat 43), (6, .ofNat 1, .ofNat 0), (0, .ofNat 0, .ofNat 0))], [(1, [(.ofNat 1, .ofNat 1)]), (2, [(.ofNat 0, .ofNat 30)]), (5, [(.ofNat 0, .ofNat 30)]), (6, [(.ofNat 0, .ofNat 30)])], [], []),
  (0, [], [.inl (false, (6, .ofNat 1, .ofNat 0))], [(0, 122, (0, .ofNat 0, .ofNat 43), (6, .ofNat 1, .ofNat 0), (0, .ofNat 0, .ofNat 0)), (2, 0, (1, .ofNat 1, .ofNat 0), (0, .ofNat 0, .ofNat 0), (0, .ofNat 0, .ofNat 0)), (2, 3, (5, .ofNat 1, .ofNat 0), (6, .ofNat 1, .ofNat 0), (0, .ofNat 0, .ofNat 0)), (0, 122, (0, .ofNat 0, .ofNat 43), (6, .ofNat 1, .ofNat 0), (0, .ofNat 0, .ofNat 0))], [(1, [(.ofNat 0, .ofNat 0)]), (2, [(.ofNat 0, .ofNat 30)]), (5, [(.ofNat 0, .ofNat 30)]), (6, [(.ofNat 0, .ofNat 30)])], [], []),
  (61, [(0, .inr (.inl [122])), (3, .inl (false, (1, .ofNat 1, .ofNat 0))), (4, .inl (false, (2, .ofNat 1, .ofNat 0))), (5, .inl (false, (3, .ofNat 1, .ofNat 0))), (6, .inl (false, (4, .ofNat 1, .ofNat 0))), (7, .inl (false, (5, .ofNat 1, .ofNat 1)))], [], [(2, 1, (7, .ofNat 1, .ofNat 0), (0, .ofNat 0, .ofNat 1), (0, .ofNat 0, .ofNat 0)), (0, 150, (5, .ofNat 1, .ofNat 0), (7, .ofNat 1, .ofNat 0), (0, .ofNat 0, .ofNat 0)), (2, 1, (7, .ofNat 1, .ofNat 0), (0, .ofNat 0, .ofNat 0), (0, .ofNat 0, .ofNat 0)), (0, 150, (5, .ofNat 1, .ofNat 0), (7, .ofNat 1, .ofNat 0), (0, .ofNat 0, .ofNat 0)), (2, 1, (7, .ofNat 1, .ofNat 0), (0, .ofNat 0, .ofNat 0), (0, .ofNat 0, .ofNat 0)), (0, 150, (5, .ofNat 1, .ofNat 0), (7, .ofNat 1, .ofNat 0), (0, .ofNat 0, .ofNat 0)), (2, 2, (5, .ofNat 1, .ofNat 0), (6, .ofNat 1, .ofNat 0), (0, .ofNat 0, .ofNat 0)), (0, 122, (0, .ofNat 0, .ofNat 43), (6, .ofNat 1, .ofNat 0), (0, .ofNat 0, .ofNat 0))], [(1, [(.ofNat 0, .ofNat 3)]), (2, [(.ofNat 0, .ofNat 30)]), (5, [(.ofNat 0, .ofNat 29)]), (6, [(.ofNat 1, .ofNat 30)]), (7, [(.negSucc 2147483647, .negSucc 0), (.ofNat 2, .ofNat 2147483647)])], [], []),
  (61, [(0, .inr (.inl [122])), (3, .inl (false, (1, .ofNat 1, .ofNat 0))), (4, .inl (false, (2, .ofNat 1, .ofNat 0))), (5, .inl (false, (3, .ofNat 1, .ofNat 0))), (6, .inl (false, (9, .ofNat 1, .ofNat 0))), (7, .inl (false, (5, .ofNat 1, .ofNat 1)))], [], [(3, 9, (4, .ofNat 1, .ofNat 0), (8, .ofNat 1, .ofNat 0), (9, .ofNat 1, .ofNat 0)), (0, 151, (5, .ofNat 1, .ofNat 0), (8, .ofNat 1, .ofNat 0), (0, .ofNat 0, .ofNat 0)), (2, 0, (7, .ofNat 1, .ofNat 0), (0, .ofNat 0, .ofNat 1), (0, .ofNat 0, .ofNat 0)), (0, 150, (5, .ofNat 1, .ofNat 0), (7, .ofNat 1, .ofNat 0), (0, .ofNat 0, .ofNat 0)), (2, 1, (7, .ofNat 1, .ofNat 0), (0, .ofNat 0, .ofNat 0), (0, .ofNat 0, .ofNat 0)), (0, 150, (5, .ofNat 1, .ofNat 0), (7, .ofNat 1, .ofNat 0), (0, .ofNat 0, .ofNat 0)), (2, 1, (7, .ofNat 1, .ofNat 0), (0, .ofNat 0, .ofNat 0), (0, .ofNat 0, .ofNat 0)), (0, 150, (5, .ofNat 1, .ofNat 0), (7, .ofNat 1, .ofNat 0), (0, .ofNat 0, .ofNat 0)), (2, 2, (5, .ofNat 1, .ofNat 0), (6, .ofNat 1, .ofNat 0), (0, .ofNat 0, .ofNat 0)), (0, 122, (0, .ofNat 0, .ofNat 43), (6, .ofNat 1, .ofNat 0), (0, .ofNat 0, .ofNat 0))], [(1, [(.ofNat 0, .ofNat 3)]), (2, [(.ofNat 0, .ofNat 30)]), (5, [(.ofNat 0, .ofNat 29)]), (6, [(.ofNat 1, .ofNat 30)]), (7, [(.ofNat 1, .ofNat 1)])], [], []),
  (61, [(0, .inr (.inl [122])), (3, .inl (false, (1, .ofNat 1, .ofNat 0))), (4, .inl (false, (2, .ofNat 1, .ofNat 1))), (5, .inl (false, (9, .ofNat 1, .ofNat 0))), (6, .inl (false, (4, .ofNat 1, .ofNat 0))), (7, .inl (false, (5, .ofNat 1, .ofNat 1)))], [], [(2, 1, (0, .ofNat 0, .ofNat 0), (0, .ofNat 0, .ofNat 1), (0, .ofNat 0, .ofNat 0)), (0, 150, (5, .ofNat 1, .ofNat 0), (0, .ofNat 0, .ofNat 0), (0, .ofNat 0, .ofNat 0)), (3, 9, (3, .ofNat 1, .ofNat 0), (8, .ofNat 1, .ofNat 0), (9, .ofNat 1, .ofNat 0)), (0, 151, (5, .ofNat 1, .ofNat 0), (8, .ofNat 1, .ofNat 0), (0, .ofNat 0, .ofNat 0)), (2, 0, (0, .ofNat 0, .ofNat 0), (0, .ofNat 0, .ofNat 0), (0, .ofNat 0, .ofNat 0)), (0, 150, (5, .ofNat 1, .ofNat 0), (0, .ofNat 0, .ofNat 0), (0, .ofNat 0, .ofNat 0)), (2, 0, (7, .ofNat 1, .ofNat 0), (0, .ofNat 0, .ofNat 0), (0, .ofNat 0, .ofNat 0)), (0, 150, (5, .ofNat 1, .ofNat 0), (7, .ofNat 1, .ofNat 0), (0, .ofNat 0, .ofNat 0)), (2, 2, (5, .ofNat 1, .ofNat 0), (6, .ofNat 1, .ofNat 0), (0, .ofNat 0, .ofNat 0)), (0, 122, (0, .ofNat 0, .ofNat 43), (6, .ofNat 1, .ofNat 0), (0, .ofNat 0, .ofNat 0))], [(1, [(.ofNat 0, .ofNat 3)]), (2, [(.ofNat 0, .ofNat 30)]), (5, [(.ofNat 0, .ofNat 29)]), (6, [(.ofNat 1, .ofNat 30)]), (7, [(.ofNat 0, .ofNat 0)])], [], [])]
set_option maxRecDepth 1000000 in
theorem sg_pq_c_g : sg_go [] [60] 3000 232 60 0 7 [(0, [(.ofNat 0, .ofNat 0)]), (1, [(.ofNat 0, .ofNat 3)]), (2, [(.ofNat 0, .ofNat 30)]), (3, [(.negSucc 2147483647, .ofNat 2147483647)]), (4, [(.negSucc 2147483647, .ofNat 2147483647)]), (5, [(.ofNat 0, .ofNat 30)]), (6, [(.ofNat 0, .ofNat 30)])] [(122, (0, .ofNat 0, .ofNat 43), (6, .ofNat 1, .ofNat 0))] [] [] [(0, .inr (.inl [122])), (3, .inl (false, (1, .ofNat 1, .ofNat 0))), (4, .inl (false, (2, .ofNat 1, .ofNat 0))), (5, .inl (false, (3, .ofNat 1, .ofNat 0))), (6, .inl (false, (4, .ofNat 1, .ofNat 0))), (7, .inl (false, (5, .ofNat 1, .ofNat 0)))] [] [] sg_pq_c_Z = true := by decide +kernel
set_option maxRecDepth 100000 in
theorem sg_pq_c {Q : Option Value × am_S → Prop} {d : Nat} {S : am_S} {L : am_L} {x1 x2 x3 x4 x5 x6 : Int} (hd : 0 ≤ d) (hP : ax_P0 none S) (l0 : lc L 0 122) (l3 : li L 3 x1) (l4 : li L 4 x2) (l5 : li L 5 x3) (l6 : li L 6 x4) (l7 : li L 7 x5) (b1 : (0 ≤ x1 ∧ x1 ≤ 3)) (b2 : (0 ≤ x2 ∧ x2 ≤ 30)) (b3 : ((-2147483648) ≤ x3 ∧ x3 ≤ 2147483647)) (b4 : ((-2147483648) ≤ x4 ∧ x4 ≤ 2147483647)) (b5 : (0 ≤ x5 ∧ x5 ≤ 30)) (b6 : (0 ≤ x6 ∧ x6 ≤ 30)) (m122_43 : rd S 122 43 = x6)
    (k0 : ∀ (i1 : Int32), rd S 122 43 = x6 → x6 ≤ x5 → x1 ≠ 0 → x1 ≠ 1 → x1 ≠ 2 → (3 ≤ x1 ∧ x1 ≤ 3) → (0 ≤ x2 ∧ x2 ≤ 30) → (0 ≤ x5 ∧ x5 ≤ 30) → (0 ≤ x6 ∧ x6 ≤ 30) → i1.toInt = x4 → Q (some (.int i1), S))
    (k1 : ∀ (i1 : Int32), rd S 122 43 = x6 → x6 ≤ x5 → x1 ≠ 0 → x1 ≠ 1 → x1 = 2 → (2 ≤ x1 ∧ x1 ≤ 2) → (0 ≤ x2 ∧ x2 ≤ 30) → (0 ≤ x5 ∧ x5 ≤ 30) → (0 ≤ x6 ∧ x6 ≤ 30) → i1.toInt = x3 → Q (some (.int i1), S))
    (k2 : ∀ (i1 : Int32), rd S 122 43 = x6 → x6 ≤ x5 → x1 ≠ 0 → x1 = 1 → (1 ≤ x1 ∧ x1 ≤ 1) → (0 ≤ x2 ∧ x2 ≤ 30) → (0 ≤ x5 ∧ x5 ≤ 30) → (0 ≤ x6 ∧ x6 ≤ 30) → i1.toInt = x2 → Q (some (.int i1), S))
    (k3 : ∀ (i1 : Int32), rd S 122 43 = x6 → x6 ≤ x5 → x1 = 0 → (0 ≤ x1 ∧ x1 ≤ 0) → (0 ≤ x2 ∧ x2 ≤ 30) → (0 ≤ x5 ∧ x5 ≤ 30) → (0 ≤ x6 ∧ x6 ≤ 30) → i1.toInt = x6 → Q (some (.int i1), S))
    (k4 : ∀ (x7 : Int) (L' : am_L), rd S 122 43 = x6 → x5 < x6 → rd S 150 x5 = x7 → x7 ≠ 0 → x7 ≠ 0 → x7 ≠ 1 → (0 ≤ x1 ∧ x1 ≤ 3) → (0 ≤ x2 ∧ x2 ≤ 30) → (0 ≤ x5 ∧ x5 ≤ 29) → (1 ≤ x6 ∧ x6 ≤ 30) → ((-2147483648) ≤ x7 ∧ x7 ≤ (-1)) ∨ (2 ≤ x7 ∧ x7 ≤ 2147483647) → lc L' 0 122 → li L' 3 x1 → li L' 4 x2 → li L' 5 x3 → li L' 6 x4 → li L' 7 (x5 + 1) → am_V none d 232 60 L' ([]) S Q)
    (k5 : ∀ (x7 x8 x9 : Int) (L' : am_L), rd S 122 43 = x6 → x5 < x6 → rd S 150 x5 = x7 → x7 ≠ 0 → x7 ≠ 0 → x7 = 1 → rd S 151 x5 = x8 → (∃ a b : Int32, a.toInt = x4 ∧ b.toInt = x8 ∧ (a + b).toInt = x9) → (0 ≤ x1 ∧ x1 ≤ 3) → (0 ≤ x2 ∧ x2 ≤ 30) → (0 ≤ x5 ∧ x5 ≤ 29) → (1 ≤ x6 ∧ x6 ≤ 30) → (1 ≤ x7 ∧ x7 ≤ 1) → lc L' 0 122 → li L' 3 x1 → li L' 4 x2 → li L' 5 x3 → li L' 6 x9 → li L' 7 (x5 + 1) → am_V none d 232 60 L' ([]) S Q)
    (k6 : ∀ (x7 x8 x9 : Int) (L' : am_L), rd S 122 43 = x6 → x5 < x6 → rd S 150 x5 = x7 → x7 = 0 → rd S 150 x5 = 0 → rd S 151 x5 = x8 → (∃ a b : Int32, a.toInt = x3 ∧ b.toInt = x8 ∧ (a + b).toInt = x9) → (0 ≤ x1 ∧ x1 ≤ 3) → (0 ≤ x2 ∧ x2 ≤ 30) → (0 ≤ x5 ∧ x5 ≤ 29) → (1 ≤ x6 ∧ x6 ≤ 30) → (0 ≤ x7 ∧ x7 ≤ 0) → lc L' 0 122 → li L' 3 x1 → li L' 4 (x2 + 1) → li L' 5 x9 → li L' 6 x4 → li L' 7 (x5 + 1) → am_V none d 232 60 L' ([]) S Q) : am_V none d 232 60 L ([]) S Q := by
  refine sg_use sg_pq_c_g hd hP (sg_xs [0, x1, x2, x3, x4, x5, x6]) ⟨⟨Int.le_refl 0, Int.le_refl 0⟩, b1, b2, b3, b4, b5, b6, trivial⟩ ⟨sg_fs hP rfl m122_43, trivial⟩ trivial trivial ⟨l0, l3, l4, l5, l6, l7, trivial⟩ trivial ?_
  intro z hz x' L' st' S' hx hP' hW hL' hs' hJ hE' hT' hD'
  have q1 : x' 1 = x1 := hx 1 (by decide)
  subst q1
  have q2 : x' 2 = x2 := hx 2 (by decide)
  subst q2
  have q3 : x' 3 = x3 := hx 3 (by decide)
  subst q3
  have q4 : x' 4 = x4 := hx 4 (by decide)
  subst q4
  have q5 : x' 5 = x5 := hx 5 (by decide)
  subst q5
  have q6 : x' 6 = x6 := hx 6 (by decide)
  subst q6
  have eS : S' = S := hW.1 rfl
  subst eS
  simp only [sg_pq_c_Z, List.mem_cons, List.not_mem_nil, or_false] at hz
  rcases hz with rfl | rfl | rfl | rfl | rfl | rfl | rfl
  · obtain ⟨f0, f1, f2, f3, f4, hσ⟩ := hJ
    obtain ⟨e0, e1, e2, e3, -⟩ := hE'
    intro v hv
    subst hv
    cases v with
    | none => exact hs'.elim
    | some v1 =>
      obtain ⟨⟨i1, rfl, g1⟩, -⟩ := hs'
      exact k0 i1 f0 f1 f2 f3 f4 e0 e1 e2 e3 g1
  · obtain ⟨f0, f1, f2, f3, f4, hσ⟩ := hJ
    obtain ⟨e0, e1, e2, e3, -⟩ := hE'
    intro v hv
    subst hv
    cases v with
    | none => exact hs'.elim
    | some v1 =>
      obtain ⟨⟨i1, rfl, g1⟩, -⟩ := hs'
      exact k1 i1 f0 f1 f2 f3 f4 e0 e1 e2 e3 g1
  · obtain ⟨f0, f1, f2, f3, hσ⟩ := hJ
    obtain ⟨e0, e1, e2, e3, -⟩ := hE'
    intro v hv
    subst hv
    cases v with
    | none => exact hs'.elim
    | some v1 =>
      obtain ⟨⟨i1, rfl, g1⟩, -⟩ := hs'
      exact k2 i1 f0 f1 f2 f3 e0 e1 e2 e3 g1
  · obtain ⟨f0, f1, f2, -, hσ⟩ := hJ
    obtain ⟨e0, e1, e2, e3, -⟩ := hE'
    intro v hv
    subst hv
    cases v with
    | none => exact hs'.elim
    | some v1 =>
      obtain ⟨⟨i1, rfl, g1⟩, -⟩ := hs'
      exact k3 i1 f0 f1 f2 e0 e1 e2 e3 g1
  · obtain ⟨f0, f1, f2, f3, -, f5, -, f7, hσ⟩ := hJ
    obtain ⟨e0, e1, e2, e3, e4, -⟩ := hE'
    obtain ⟨p0, p1, p2, p3, p4, p5, -⟩ := hL'
    obtain rfl := sg_tn hs'
    exact k4 (x' 7) L' f0 f1 f2 f3 f5 f7 e0 e1 e2 e3 e4 p0 p1 p2 p3 p4 p5
  · obtain ⟨f0, f1, f2, f3, -, f5, -, f7, f8, f9, hσ⟩ := hJ
    obtain ⟨e0, e1, e2, e3, e4, -⟩ := hE'
    obtain ⟨p0, p1, p2, p3, p4, p5, -⟩ := hL'
    obtain rfl := sg_tn hs'
    exact k5 (x' 7) (x' 8) (x' 9) L' f0 f1 f2 f3 f5 f7 f8 f9 e0 e1 e2 e3 e4 p0 p1 p2 p3 p4 p5
  · obtain ⟨f0, f1, f2, f3, f4, -, f6, f7, -, -, hσ⟩ := hJ
    obtain ⟨e0, e1, e2, e3, e4, -⟩ := hE'
    obtain ⟨p0, p1, p2, p3, p4, p5, -⟩ := hL'
    obtain rfl := sg_tn hs'
    exact k6 (x' 7) (x' 8) (x' 9) L' f0 f1 f2 f3 f4 f6 f7 e0 e1 e2 e3 e4 p0 p1 p2 p3 p4 p5
