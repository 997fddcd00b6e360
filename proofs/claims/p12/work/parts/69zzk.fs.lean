/-! ===== seek, score: what happens from place to place ===== -/
def sg_sp_a_Z : List sg_z := [(9, [(0, .inr (.inl [40])), (1, .inr (.inl [1])), (2, .inl (false, (1, .ofNat 1, .ofNat 0))), (3, .inl (false, (2, .ofNat 1, .ofNat 0))), (4, .inl (false, (0, .ofNat 0, .ofNat 0)))], [], [(1, 40, (0, .ofNat 0, .ofNat 1), (0, .ofNat 0, .ofNat 0), (0, .ofNat 0, .ofNat 0))], [(1, [(.ofNat 0, .ofNat 1)]), (2, [(.ofNat 0, .ofNat 9)])], [], [])]
set_option maxRecDepth 1000000 in
theorem sg_sp_a_g : sg_go [] [8] 3000 51 0 0 3 [(0, [(.ofNat 0, .ofNat 0)]), (1, [(.ofNat 0, .ofNat 1)]), (2, [(.ofNat 0, .ofNat 9)])] [] [] [] [(0, .inr (.inl [40])), (1, .inr (.inl [1])), (2, .inl (false, (1, .ofNat 1, .ofNat 0))), (3, .inl (false, (2, .ofNat 1, .ofNat 0)))] [] [(40, some 1)] sg_sp_a_Z = true := by decide +kernel
set_option maxRecDepth 100000 in
theorem sg_sp_a {Q : Option Value × am_S → Prop} {d : Nat} {S : am_S} {L : am_L} {x1 x2 : Int} (hd : 0 ≤ d) (hP : ax_P0 none S) (l0 : lc L 0 40) (l1 : lc L 1 1) (l2 : li L 2 x1) (l3 : li L 3 x2) (b1 : (0 ≤ x1 ∧ x1 ≤ 1)) (b2 : (0 ≤ x2 ∧ x2 ≤ 9))
    (k0 : ∀ (L' : am_L) (S' : am_S), ax_P0 none S' → rd S' = sg_up (rd S) 40 1 0 → (0 ≤ x1 ∧ x1 ≤ 1) → (0 ≤ x2 ∧ x2 ≤ 9) → lc L' 0 40 → lc L' 1 1 → li L' 2 x1 → li L' 3 x2 → li L' 4 0 → am_V none d 51 8 L' ([]) S' Q) : am_V none d 51 0 L ([]) S Q := by
  refine sg_use sg_sp_a_g hd hP (sg_xs [0, x1, x2]) ⟨⟨Int.le_refl 0, Int.le_refl 0⟩, b1, b2, trivial⟩ trivial trivial trivial ⟨l0, l1, l2, l3, trivial⟩ trivial ?_
  intro z hz x' L' st' S' hx hP' hW hL' hs' hJ hE' hT' hD'
  have q1 : x' 1 = x1 := hx 1 (by decide)
  subst q1
  have q2 : x' 2 = x2 := hx 2 (by decide)
  subst q2
  simp only [sg_sp_a_Z, List.mem_cons, List.not_mem_nil, or_false] at hz
  rcases hz with rfl
  · have hσ := hJ
    obtain ⟨e0, e1, -⟩ := hE'
    obtain ⟨p0, p1, p2, p3, p4, -⟩ := hL'
    obtain rfl := sg_tn hs'
    exact k0 L' S' hP' hσ e0 e1 p0 p1 p2 p3 p4
def sg_sp_b_Z : List sg_z := [(0, [], [], [(2, 3, (3, .ofNat 1, .ofNat 0), (5, .ofNat 1, .ofNat 0), (0, .ofNat 0, .ofNat 0)), (0, 1, (0, .ofNat 0, .ofNat 0), (5, .ofNat 1, .ofNat 0), (0, .ofNat 0, .ofNat 0))], [(1, [(.ofNat 0, .ofNat 1)]), (2, [(.ofNat 0, .ofNat 9)]), (3, [(.ofNat 0, .ofNat 8)]), (4, [(.ofNat 0, .ofNat 8)]), (5, [(.ofNat 0, .ofNat 8)])], [], []),
  (9, [(0, .inr (.inl [40])), (1, .inr (.inl [1])), (2, .inl (false, (1, .ofNat 1, .ofNat 0))), (3, .inl (false, (2, .ofNat 1, .ofNat 0))), (4, .inl (false, (3, .ofNat 1, .ofNat 1)))], [], [(2, 0, (0, .ofNat 0, .ofNat 0), (0, .ofNat 0, .ofNat 0), (0, .ofNat 0, .ofNat 0)), (2, 0, (8, .ofNat 1, .ofNat 0), (1, .ofNat 1, .ofNat 0), (0, .ofNat 0, .ofNat 0)), (0, 3, (3, .ofNat 1, .ofNat 0), (8, .ofNat 1, .ofNat 0), (0, .ofNat 0, .ofNat 0)), (2, 3, (7, .ofNat 1, .ofNat 0), (0, .ofNat 0, .ofNat 0), (0, .ofNat 0, .ofNat 0)), (0, 4, (3, .ofNat 1, .ofNat 0), (6, .ofNat 1, .ofNat 0), (0, .ofNat 0, .ofNat 0)), (2, 2, (3, .ofNat 1, .ofNat 0), (5, .ofNat 1, .ofNat 0), (0, .ofNat 0, .ofNat 0)), (0, 1, (0, .ofNat 0, .ofNat 0), (5, .ofNat 1, .ofNat 0), (0, .ofNat 0, .ofNat 0))], [(1, [(.ofNat 0, .ofNat 1)]), (2, [(.ofNat 0, .ofNat 9)]), (3, [(.ofNat 0, .ofNat 7)]), (4, [(.ofNat 0, .ofNat 8)]), (5, [(.ofNat 1, .ofNat 8)]), (6, [(.ofNat 0, .ofNat 9)]), (7, [(.ofNat 0, .ofNat 9)]), (8, [(.ofNat 0, .ofNat 1)])], [((6, .ofNat 1, .ofNat 0), (2, .negSucc 0, .ofNat 0), (7, .ofNat 1, .ofNat 0))], []),
  (9, [(0, .inr (.inl [40])), (1, .inr (.inl [1])), (2, .inl (false, (1, .ofNat 1, .ofNat 0))), (3, .inl (false, (2, .ofNat 1, .ofNat 0))), (4, .inl (false, (3, .ofNat 1, .ofNat 1)))], [], [(2, 0, (0, .ofNat 0, .ofNat 0), (0, .ofNat 0, .ofNat 0), (0, .ofNat 0, .ofNat 0)), (2, 5, (9, .ofNat 1, .ofNat 0), (0, .ofNat 0, .ofNat 0), (0, .ofNat 0, .ofNat 0)), (0, 4, (3, .ofNat 1, .ofNat 0), (6, .ofNat 1, .ofNat 0), (0, .ofNat 0, .ofNat 0)), (2, 0, (7, .ofNat 1, .ofNat 0), (0, .ofNat 0, .ofNat 0), (0, .ofNat 0, .ofNat 0)), (2, 1, (8, .ofNat 1, .ofNat 0), (1, .ofNat 1, .ofNat 0), (0, .ofNat 0, .ofNat 0)), (0, 3, (3, .ofNat 1, .ofNat 0), (8, .ofNat 1, .ofNat 0), (0, .ofNat 0, .ofNat 0)), (2, 3, (7, .ofNat 1, .ofNat 0), (0, .ofNat 0, .ofNat 0), (0, .ofNat 0, .ofNat 0)), (0, 4, (3, .ofNat 1, .ofNat 0), (6, .ofNat 1, .ofNat 0), (0, .ofNat 0, .ofNat 0)), (2, 2, (3, .ofNat 1, .ofNat 0), (5, .ofNat 1, .ofNat 0), (0, .ofNat 0, .ofNat 0)), (0, 1, (0, .ofNat 0, .ofNat 0), (5, .ofNat 1, .ofNat 0), (0, .ofNat 0, .ofNat 0))], [(1, [(.ofNat 0, .ofNat 1)]), (2, [(.ofNat 0, .ofNat 9)]), (3, [(.ofNat 0, .ofNat 7)]), (4, [(.ofNat 0, .ofNat 8)]), (5, [(.ofNat 1, .ofNat 8)]), (6, [(.ofNat 0, .ofNat 9)]), (7, [(.ofNat 0, .ofNat 0)]), (8, [(.ofNat 0, .ofNat 1)]), (9, [(.ofNat 0, .ofNat 0)])], [((6, .ofNat 1, .ofNat 0), (2, .ofNat 1, .ofNat 0), (9, .ofNat 1, .ofNat 0)), ((6, .ofNat 1, .ofNat 0), (2, .negSucc 0, .ofNat 0), (7, .ofNat 1, .ofNat 0))], []),
  (9, [(0, .inr (.inl [40])), (1, .inr (.inl [1])), (2, .inl (false, (1, .ofNat 1, .ofNat 0))), (3, .inl (false, (2, .ofNat 1, .ofNat 0))), (4, .inl (false, (3, .ofNat 1, .ofNat 1)))], [], [(1, 40, (0, .ofNat 0, .ofNat 1), (4, .ofNat 1, .ofNat 1), (0, .ofNat 0, .ofNat 0)), (0, 40, (0, .ofNat 0, .ofNat 1), (4, .ofNat 1, .ofNat 0), (0, .ofNat 0, .ofNat 0)), (1, 41, (4, .ofNat 1, .ofNat 0), (10, .ofNat 1, .ofNat 0), (0, .ofNat 0, .ofNat 0)), (0, 2, (3, .ofNat 1, .ofNat 0), (10, .ofNat 1, .ofNat 0), (0, .ofNat 0, .ofNat 0)), (0, 40, (0, .ofNat 0, .ofNat 1), (4, .ofNat 1, .ofNat 0), (0, .ofNat 0, .ofNat 0)), (2, 1, (0, .ofNat 0, .ofNat 1), (0, .ofNat 0, .ofNat 0), (0, .ofNat 0, .ofNat 0)), (2, 4, (9, .ofNat 1, .ofNat 0), (0, .ofNat 0, .ofNat 0), (0, .ofNat 0, .ofNat 0)), (0, 4, (3, .ofNat 1, .ofNat 0), (6, .ofNat 1, .ofNat 0), (0, .ofNat 0, .ofNat 0)), (2, 0, (7, .ofNat 1, .ofNat 0), (0, .ofNat 0, .ofNat 0), (0, .ofNat 0, .ofNat 0)), (2, 1, (8, .ofNat 1, .ofNat 0), (1, .ofNat 1, .ofNat 0), (0, .ofNat 0, .ofNat 0)), (0, 3, (3, .ofNat 1, .ofNat 0), (8, .ofNat 1, .ofNat 0), (0, .ofNat 0, .ofNat 0)), (2, 3, (7, .ofNat 1, .ofNat 0), (0, .ofNat 0, .ofNat 0), (0, .ofNat 0, .ofNat 0)), (0, 4, (3, .ofNat 1, .ofNat 0), (6, .ofNat 1, .ofNat 0), (0, .ofNat 0, .ofNat 0)), (2, 2, (3, .ofNat 1, .ofNat 0), (5, .ofNat 1, .ofNat 0), (0, .ofNat 0, .ofNat 0)), (0, 1, (0, .ofNat 0, .ofNat 0), (5, .ofNat 1, .ofNat 0), (0, .ofNat 0, .ofNat 0))], [(1, [(.ofNat 0, .ofNat 1)]), (2, [(.ofNat 0, .ofNat 9)]), (3, [(.ofNat 0, .ofNat 7)]), (4, [(.ofNat 0, .ofNat 7)]), (5, [(.ofNat 1, .ofNat 8)]), (6, [(.ofNat 0, .ofNat 9)]), (7, [(.ofNat 0, .ofNat 0)]), (8, [(.ofNat 0, .ofNat 1)]), (9, [(.ofNat 1, .ofNat 18)]), (10, [(.ofNat 0, .ofNat 1000000)])], [((6, .ofNat 1, .ofNat 0), (2, .ofNat 1, .ofNat 0), (9, .ofNat 1, .ofNat 0)), ((6, .ofNat 1, .ofNat 0), (2, .negSucc 0, .ofNat 0), (7, .ofNat 1, .ofNat 0))], []),
  (9, [(0, .inr (.inl [40])), (1, .inr (.inl [1])), (2, .inl (false, (1, .ofNat 1, .ofNat 0))), (3, .inl (false, (2, .ofNat 1, .ofNat 0))), (4, .inl (false, (3, .ofNat 1, .ofNat 1)))], [], [(2, 0, (0, .ofNat 0, .ofNat 0), (0, .ofNat 0, .ofNat 0), (0, .ofNat 0, .ofNat 0)), (2, 1, (7, .ofNat 1, .ofNat 0), (0, .ofNat 0, .ofNat 2), (0, .ofNat 0, .ofNat 0)), (2, 1, (7, .ofNat 1, .ofNat 0), (0, .ofNat 0, .ofNat 0), (0, .ofNat 0, .ofNat 0)), (2, 1, (8, .ofNat 1, .ofNat 0), (1, .ofNat 1, .ofNat 0), (0, .ofNat 0, .ofNat 0)), (0, 3, (3, .ofNat 1, .ofNat 0), (8, .ofNat 1, .ofNat 0), (0, .ofNat 0, .ofNat 0)), (2, 3, (7, .ofNat 1, .ofNat 0), (0, .ofNat 0, .ofNat 0), (0, .ofNat 0, .ofNat 0)), (0, 4, (3, .ofNat 1, .ofNat 0), (6, .ofNat 1, .ofNat 0), (0, .ofNat 0, .ofNat 0)), (2, 2, (3, .ofNat 1, .ofNat 0), (5, .ofNat 1, .ofNat 0), (0, .ofNat 0, .ofNat 0)), (0, 1, (0, .ofNat 0, .ofNat 0), (5, .ofNat 1, .ofNat 0), (0, .ofNat 0, .ofNat 0))], [(1, [(.ofNat 0, .ofNat 1)]), (2, [(.ofNat 0, .ofNat 9)]), (3, [(.ofNat 0, .ofNat 7)]), (4, [(.ofNat 0, .ofNat 8)]), (5, [(.ofNat 1, .ofNat 8)]), (6, [(.ofNat 0, .ofNat 9)]), (7, [(.ofNat 1, .ofNat 1), (.ofNat 3, .ofNat 9)]), (8, [(.ofNat 0, .ofNat 1)])], [((6, .ofNat 1, .ofNat 0), (2, .negSucc 0, .ofNat 0), (7, .ofNat 1, .ofNat 0))], []),
  (9, [(0, .inr (.inl [40])), (1, .inr (.inl [1])), (2, .inl (false, (1, .ofNat 1, .ofNat 0))), (3, .inl (false, (2, .ofNat 1, .ofNat 0))), (4, .inl (false, (3, .ofNat 1, .ofNat 1)))], [], [(2, 0, (0, .ofNat 0, .ofNat 0), (0, .ofNat 0, .ofNat 0), (0, .ofNat 0, .ofNat 0)), (2, 5, (9, .ofNat 1, .ofNat 0), (0, .ofNat 0, .ofNat 0), (0, .ofNat 0, .ofNat 0)), (0, 4, (3, .ofNat 1, .ofNat 0), (6, .ofNat 1, .ofNat 0), (0, .ofNat 0, .ofNat 0)), (2, 0, (7, .ofNat 1, .ofNat 0), (0, .ofNat 0, .ofNat 2), (0, .ofNat 0, .ofNat 0)), (2, 1, (7, .ofNat 1, .ofNat 0), (0, .ofNat 0, .ofNat 0), (0, .ofNat 0, .ofNat 0)), (2, 1, (8, .ofNat 1, .ofNat 0), (1, .ofNat 1, .ofNat 0), (0, .ofNat 0, .ofNat 0)), (0, 3, (3, .ofNat 1, .ofNat 0), (8, .ofNat 1, .ofNat 0), (0, .ofNat 0, .ofNat 0)), (2, 3, (7, .ofNat 1, .ofNat 0), (0, .ofNat 0, .ofNat 0), (0, .ofNat 0, .ofNat 0)), (0, 4, (3, .ofNat 1, .ofNat 0), (6, .ofNat 1, .ofNat 0), (0, .ofNat 0, .ofNat 0)), (2, 2, (3, .ofNat 1, .ofNat 0), (5, .ofNat 1, .ofNat 0), (0, .ofNat 0, .ofNat 0)), (0, 1, (0, .ofNat 0, .ofNat 0), (5, .ofNat 1, .ofNat 0), (0, .ofNat 0, .ofNat 0))], [(1, [(.ofNat 0, .ofNat 1)]), (2, [(.ofNat 0, .ofNat 9)]), (3, [(.ofNat 0, .ofNat 7)]), (4, [(.ofNat 0, .ofNat 8)]), (5, [(.ofNat 1, .ofNat 8)]), (6, [(.ofNat 0, .ofNat 9)]), (7, [(.ofNat 2, .ofNat 2)]), (8, [(.ofNat 0, .ofNat 1)]), (9, [(.ofNat 0, .ofNat 0)])], [((6, .ofNat 1, .ofNat 0), (2, .ofNat 1, .ofNat 0), (9, .ofNat 1, .ofNat 0)), ((6, .ofNat 1, .ofNat 0), (2, .negSucc 0, .ofNat 0), (7, .ofNat 1, .ofNat 0))], []),
  (9, [(0, .inr (.inl [40])), (1, .inr (.inl [1])), (2, .inl (false, (1, .ofNat 1, .ofNat 0))), (3, .inl (false, (2, .ofNat 1, .ofNat 0))), (4, .inl (false, (3, .ofNat 1, .ofNat 1)))], [], [(1, 40, (0, .ofNat 0, .ofNat 1), (4, .ofNat 1, .ofNat 1), (0, .ofNat 0, .ofNat 0)), (0, 40, (0, .ofNat 0, .ofNat 1), (4, .ofNat 1, .ofNat 0), (0, .ofNat 0, .ofNat 0)), (1, 41, (4, .ofNat 1, .ofNat 0), (10, .ofNat 1, .ofNat 0), (0, .ofNat 0, .ofNat 0)), (0, 2, (3, .ofNat 1, .ofNat 0), (10, .ofNat 1, .ofNat 0), (0, .ofNat 0, .ofNat 0)), (0, 40, (0, .ofNat 0, .ofNat 1), (4, .ofNat 1, .ofNat 0), (0, .ofNat 0, .ofNat 0)), (2, 1, (0, .ofNat 0, .ofNat 1), (0, .ofNat 0, .ofNat 0), (0, .ofNat 0, .ofNat 0)), (2, 4, (9, .ofNat 1, .ofNat 0), (0, .ofNat 0, .ofNat 0), (0, .ofNat 0, .ofNat 0)), (0, 4, (3, .ofNat 1, .ofNat 0), (6, .ofNat 1, .ofNat 0), (0, .ofNat 0, .ofNat 0)), (2, 0, (7, .ofNat 1, .ofNat 0), (0, .ofNat 0, .ofNat 2), (0, .ofNat 0, .ofNat 0)), (2, 1, (7, .ofNat 1, .ofNat 0), (0, .ofNat 0, .ofNat 0), (0, .ofNat 0, .ofNat 0)), (2, 1, (8, .ofNat 1, .ofNat 0), (1, .ofNat 1, .ofNat 0), (0, .ofNat 0, .ofNat 0)), (0, 3, (3, .ofNat 1, .ofNat 0), (8, .ofNat 1, .ofNat 0), (0, .ofNat 0, .ofNat 0)), (2, 3, (7, .ofNat 1, .ofNat 0), (0, .ofNat 0, .ofNat 0), (0, .ofNat 0, .ofNat 0)), (0, 4, (3, .ofNat 1, .ofNat 0), (6, .ofNat 1, .ofNat 0), (0, .ofNat 0, .ofNat 0)), (2, 2, (3, .ofNat 1, .ofNat 0), (5, .ofNat 1, .ofNat 0), (0, .ofNat 0, .ofNat 0)), (0, 1, (0, .ofNat 0, .ofNat 0), (5, .ofNat 1, .ofNat 0), (0, .ofNat 0, .ofNat 0))], [(1, [(.ofNat 0, .ofNat 1)]), (2, [(.ofNat 0, .ofNat 9)]), (3, [(.ofNat 0, .ofNat 7)]), (4, [(.ofNat 0, .ofNat 7)]), (5, [(.ofNat 1, .ofNat 8)]), (6, [(.ofNat 0, .ofNat 9)]), (7, [(.ofNat 2, .ofNat 2)]), (8, [(.ofNat 0, .ofNat 1)]), (9, [(.ofNat 1, .ofNat 18)]), (10, [(.ofNat 0, .ofNat 1000000)])], [((6, .ofNat 1, .ofNat 0), (2, .ofNat 1, .ofNat 0), (9, .ofNat 1, .ofNat 0)), ((6, .ofNat 1, .ofNat 0), (2, .negSucc 0, .ofNat 0), (7, .ofNat 1, .ofNat 0))], []),
  (9, [(0, .inr (.inl [40])), (1, .inr (.inl [1])), (2, .inl (false, (1, .ofNat 1, .ofNat 0))), (3, .inl (false, (2, .ofNat 1, .ofNat 0))), (4, .inl (false, (3, .ofNat 1, .ofNat 1)))], [], [(2, 0, (0, .ofNat 0, .ofNat 0), (0, .ofNat 0, .ofNat 0), (0, .ofNat 0, .ofNat 0)), (2, 0, (8, .ofNat 1, .ofNat 0), (1, .ofNat 1, .ofNat 0), (0, .ofNat 0, .ofNat 0)), (0, 3, (3, .ofNat 1, .ofNat 0), (8, .ofNat 1, .ofNat 0), (0, .ofNat 0, .ofNat 0)), (2, 2, (7, .ofNat 1, .ofNat 0), (0, .ofNat 0, .ofNat 0), (0, .ofNat 0, .ofNat 0)), (0, 4, (3, .ofNat 1, .ofNat 0), (6, .ofNat 1, .ofNat 0), (0, .ofNat 0, .ofNat 0)), (2, 2, (3, .ofNat 1, .ofNat 0), (5, .ofNat 1, .ofNat 0), (0, .ofNat 0, .ofNat 0)), (0, 1, (0, .ofNat 0, .ofNat 0), (5, .ofNat 1, .ofNat 0), (0, .ofNat 0, .ofNat 0))], [(1, [(.ofNat 0, .ofNat 1)]), (2, [(.ofNat 0, .ofNat 9)]), (3, [(.ofNat 0, .ofNat 7)]), (4, [(.ofNat 0, .ofNat 8)]), (5, [(.ofNat 1, .ofNat 8)]), (6, [(.ofNat 0, .ofNat 9)]), (7, [(.negSucc 8, .negSucc 0)]), (8, [(.ofNat 0, .ofNat 1)])], [((6, .ofNat 1, .ofNat 0), (2, .negSucc 0, .ofNat 0), (7, .ofNat 1, .ofNat 0))], []),
  (9, [(0, .inr (.inl [40])), (1, .inr (.inl [1])), (2, .inl (false, (1, .ofNat 1, .ofNat 0))), (3, .inl (false, (2, .ofNat 1, .ofNat 0))), (4, .inl (false, (3, .ofNat 1, .ofNat 1)))], [], [(2, 0, (0, .ofNat 0, .ofNat 0), (0, .ofNat 0, .ofNat 0), (0, .ofNat 0, .ofNat 0)), (2, 1, (7, .negSucc 0, .ofNat 0), (0, .ofNat 0, .ofNat 2), (0, .ofNat 0, .ofNat 0)), (2, 1, (7, .negSucc 0, .ofNat 0), (0, .ofNat 0, .ofNat 0), (0, .ofNat 0, .ofNat 0)), (2, 1, (8, .ofNat 1, .ofNat 0), (1, .ofNat 1, .ofNat 0), (0, .ofNat 0, .ofNat 0)), (0, 3, (3, .ofNat 1, .ofNat 0), (8, .ofNat 1, .ofNat 0), (0, .ofNat 0, .ofNat 0)), (2, 2, (7, .ofNat 1, .ofNat 0), (0, .ofNat 0, .ofNat 0), (0, .ofNat 0, .ofNat 0)), (0, 4, (3, .ofNat 1, .ofNat 0), (6, .ofNat 1, .ofNat 0), (0, .ofNat 0, .ofNat 0)), (2, 2, (3, .ofNat 1, .ofNat 0), (5, .ofNat 1, .ofNat 0), (0, .ofNat 0, .ofNat 0)), (0, 1, (0, .ofNat 0, .ofNat 0), (5, .ofNat 1, .ofNat 0), (0, .ofNat 0, .ofNat 0))], [(1, [(.ofNat 0, .ofNat 1)]), (2, [(.ofNat 0, .ofNat 9)]), (3, [(.ofNat 0, .ofNat 7)]), (4, [(.ofNat 0, .ofNat 8)]), (5, [(.ofNat 1, .ofNat 8)]), (6, [(.ofNat 0, .ofNat 9)]), (7, [(.negSucc 8, .negSucc 2), (.negSucc 0, .negSucc 0)]), (8, [(.ofNat 0, .ofNat 1)])], [((6, .ofNat 1, .ofNat 0), (2, .negSucc 0, .ofNat 0), (7, .ofNat 1, .ofNat 0))], []),
  (9, [(0, .inr (.inl [40])), (1, .inr (.inl [1])), (2, .inl (false, (1, .ofNat 1, .ofNat 0))), (3, .inl (false, (2, .ofNat 1, .ofNat 0))), (4, .inl (false, (3, .ofNat 1, .ofNat 1)))], [], [(2, 0, (0, .ofNat 0, .ofNat 0), (0, .ofNat 0, .ofNat 0), (0, .ofNat 0, .ofNat 0)), (2, 5, (9, .ofNat 1, .ofNat 0), (0, .ofNat 0, .ofNat 0), (0, .ofNat 0, .ofNat 0)), (0, 4, (3, .ofNat 1, .ofNat 0), (6, .ofNat 1, .ofNat 0), (0, .ofNat 0, .ofNat 0)), (2, 0, (7, .negSucc 0, .ofNat 0), (0, .ofNat 0, .ofNat 2), (0, .ofNat 0, .ofNat 0)), (2, 1, (7, .negSucc 0, .ofNat 0), (0, .ofNat 0, .ofNat 0), (0, .ofNat 0, .ofNat 0)), (2, 1, (8, .ofNat 1, .ofNat 0), (1, .ofNat 1, .ofNat 0), (0, .ofNat 0, .ofNat 0)), (0, 3, (3, .ofNat 1, .ofNat 0), (8, .ofNat 1, .ofNat 0), (0, .ofNat 0, .ofNat 0)), (2, 2, (7, .ofNat 1, .ofNat 0), (0, .ofNat 0, .ofNat 0), (0, .ofNat 0, .ofNat 0)), (0, 4, (3, .ofNat 1, .ofNat 0), (6, .ofNat 1, .ofNat 0), (0, .ofNat 0, .ofNat 0)), (2, 2, (3, .ofNat 1, .ofNat 0), (5, .ofNat 1, .ofNat 0), (0, .ofNat 0, .ofNat 0)), (0, 1, (0, .ofNat 0, .ofNat 0), (5, .ofNat 1, .ofNat 0), (0, .ofNat 0, .ofNat 0))], [(1, [(.ofNat 0, .ofNat 1)]), (2, [(.ofNat 0, .ofNat 9)]), (3, [(.ofNat 0, .ofNat 7)]), (4, [(.ofNat 0, .ofNat 8)]), (5, [(.ofNat 1, .ofNat 8)]), (6, [(.ofNat 0, .ofNat 9)]), (7, [(.negSucc 1, .negSucc 1)]), (8, [(.ofNat 0, .ofNat 1)]), (9, [(.ofNat 0, .ofNat 0)])], [((6, .ofNat 1, .ofNat 0), (2, .ofNat 1, .ofNat 0), (9, .ofNat 1, .ofNat 0)), ((6, .ofNat 1, .ofNat 0), (2, .negSucc 0, .ofNat 0), (7, .ofNat 1, .ofNat 0))], []),
  (9, [(0, .inr (.inl [40])), (1, .inr (.inl [1])), (2, .inl (false, (1, .ofNat 1, .ofNat 0))), (3, .inl (false, (2, .ofNat 1, .ofNat 0))), (4, .inl (false, (3, .ofNat 1, .ofNat 1)))], [], [(1, 40, (0, .ofNat 0, .ofNat 1), (4, .ofNat 1, .ofNat 1), (0, .ofNat 0, .ofNat 0)), (0, 40, (0, .ofNat 0, .ofNat 1), (4, .ofNat 1, .ofNat 0), (0, .ofNat 0, .ofNat 0)), (1, 41, (4, .ofNat 1, .ofNat 0), (10, .ofNat 1, .ofNat 0), (0, .ofNat 0, .ofNat 0)), (0, 2, (3, .ofNat 1, .ofNat 0), (10, .ofNat 1, .ofNat 0), (0, .ofNat 0, .ofNat 0)), (0, 40, (0, .ofNat 0, .ofNat 1), (4, .ofNat 1, .ofNat 0), (0, .ofNat 0, .ofNat 0)), (2, 1, (0, .ofNat 0, .ofNat 1), (0, .ofNat 0, .ofNat 0), (0, .ofNat 0, .ofNat 0)), (2, 4, (9, .ofNat 1, .ofNat 0), (0, .ofNat 0, .ofNat 0), (0, .ofNat 0, .ofNat 0)), (0, 4, (3, .ofNat 1, .ofNat 0), (6, .ofNat 1, .ofNat 0), (0, .ofNat 0, .ofNat 0)), (2, 0, (7, .negSucc 0, .ofNat 0), (0, .ofNat 0, .ofNat 2), (0, .ofNat 0, .ofNat 0)), (2, 1, (7, .negSucc 0, .ofNat 0), (0, .ofNat 0, .ofNat 0), (0, .ofNat 0, .ofNat 0)), (2, 1, (8, .ofNat 1, .ofNat 0), (1, .ofNat 1, .ofNat 0), (0, .ofNat 0, .ofNat 0)), (0, 3, (3, .ofNat 1, .ofNat 0), (8, .ofNat 1, .ofNat 0), (0, .ofNat 0, .ofNat 0)), (2, 2, (7, .ofNat 1, .ofNat 0), (0, .ofNat 0, .ofNat 0), (0, .ofNat 0, .ofNat 0)), (0, 4, (3, .ofNat 1, .ofNat 0), (6, .ofNat 1, .ofNat 0), (0, .ofNat 0, .ofNat 0)), (2, 2, (3, .ofNat 1, .ofNat 0), (5, .ofNat 1, .ofNat 0), (0, .ofNat 0, .ofNat 0)), (0, 1, (0, .ofNat 0, .ofNat 0), (5, .ofNat 1, .ofNat 0), (0, .ofNat 0, .ofNat 0))], [(1, [(.ofNat 0, .ofNat 1)]), (2, [(.ofNat 0, .ofNat 9)]), (3, [(.ofNat 0, .ofNat 7)]), (4, [(.ofNat 0, .ofNat 7)]), (5, [(.ofNat 1, .ofNat 8)]), (6, [(.ofNat 0, .ofNat 9)]), (7, [(.negSucc 1, .negSucc 1)]), (8, [(.ofNat 0, .ofNat 1)]), (9, [(.ofNat 1, .ofNat 18)]), (10, [(.ofNat 0, .ofNat 1000000)])], [((6, .ofNat 1, .ofNat 0), (2, .ofNat 1, .ofNat 0), (9, .ofNat 1, .ofNat 0)), ((6, .ofNat 1, .ofNat 0), (2, .negSucc 0, .ofNat 0), (7, .ofNat 1, .ofNat 0))], [])]
set_option maxRecDepth 1000000 in
theorem sg_sp_b_g : sg_go [] [8] 3000 51 8 2 5 [(0, [(.ofNat 0, .ofNat 0)]), (1, [(.ofNat 0, .ofNat 1)]), (2, [(.ofNat 0, .ofNat 9)]), (3, [(.ofNat 0, .ofNat 8)]), (4, [(.ofNat 0, .ofNat 8)])] [(40, (0, .ofNat 0, .ofNat 1), (4, .ofNat 1, .ofNat 0))] [] [((4, .ofNat 1, .ofNat 0), (3, .ofNat 1, .ofNat 0))] [(0, .inr (.inl [40])), (1, .inr (.inl [1])), (2, .inl (false, (1, .ofNat 1, .ofNat 0))), (3, .inl (false, (2, .ofNat 1, .ofNat 0))), (4, .inl (false, (3, .ofNat 1, .ofNat 0)))] [] [(40, some 1), (41, none)] sg_sp_b_Z = true := by decide +kernel
set_option maxRecDepth 100000 in
theorem sg_sp_b {Q : Option Value × am_S → Prop} {d : Nat} {S : am_S} {L : am_L} {x1 x2 x3 x4 : Int} (hd : 2 ≤ d) (hP : ax_P0 none S) (l0 : lc L 0 40) (l1 : lc L 1 1) (l2 : li L 2 x1) (l3 : li L 3 x2) (l4 : li L 4 x3) (b1 : (0 ≤ x1 ∧ x1 ≤ 1)) (b2 : (0 ≤ x2 ∧ x2 ≤ 9)) (b3 : (0 ≤ x3 ∧ x3 ≤ 8)) (b4 : (0 ≤ x4 ∧ x4 ≤ 8)) (m40_1 : rd S 40 1 = x4) (c0 : x4 ≤ x3)
    (k0 : ∀ (x5 : Int) (S' : am_S), ax_P0 none S' → rd S' = rd S → rd S 1 0 = x5 → x5 ≤ x3 → (0 ≤ x1 ∧ x1 ≤ 1) → (0 ≤ x2 ∧ x2 ≤ 9) → (0 ≤ x3 ∧ x3 ≤ 8) → (0 ≤ x4 ∧ x4 ≤ 8) → (0 ≤ x5 ∧ x5 ≤ 8) → Q (none, S'))
    (k1 : ∀ (x5 x6 x7 x8 : Int) (L' : am_L) (S' : am_S), ax_P0 none S' → rd S' = rd S → rd S 1 0 = x5 → x3 < x5 → rd S 4 x3 = x6 → 0 ≤ x7 → rd S 3 x3 = x8 → x8 = x1 → (0 ≤ x1 ∧ x1 ≤ 1) → (0 ≤ x2 ∧ x2 ≤ 9) → (0 ≤ x3 ∧ x3 ≤ 7) → (0 ≤ x4 ∧ x4 ≤ 8) → (1 ≤ x5 ∧ x5 ≤ 8) → (0 ≤ x6 ∧ x6 ≤ 9) → (0 ≤ x7 ∧ x7 ≤ 9) → (0 ≤ x8 ∧ x8 ≤ 1) → x6 + ((-1) * x2 + 0) = x7 → lc L' 0 40 → lc L' 1 1 → li L' 2 x1 → li L' 3 x2 → li L' 4 (x3 + 1) → am_V none d 51 8 L' ([]) S' Q)
    (k2 : ∀ (x5 x6 x7 x8 x9 : Int) (L' : am_L) (S' : am_S), ax_P0 none S' → rd S' = rd S → rd S 1 0 = x5 → x3 < x5 → rd S 4 x3 = x6 → 0 ≤ x7 → rd S 3 x3 = x8 → x8 ≠ x1 → x7 = 0 → x9 ≤ 0 → (0 ≤ x1 ∧ x1 ≤ 1) → (0 ≤ x2 ∧ x2 ≤ 9) → (0 ≤ x3 ∧ x3 ≤ 7) → (0 ≤ x4 ∧ x4 ≤ 8) → (1 ≤ x5 ∧ x5 ≤ 8) → (0 ≤ x6 ∧ x6 ≤ 9) → (0 ≤ x7 ∧ x7 ≤ 0) → (0 ≤ x8 ∧ x8 ≤ 1) → (0 ≤ x9 ∧ x9 ≤ 0) → x6 + x2 = x9 → x6 + ((-1) * x2 + 0) = x7 → lc L' 0 40 → lc L' 1 1 → li L' 2 x1 → li L' 3 x2 → li L' 4 (x3 + 1) → am_V none d 51 8 L' ([]) S' Q)
    (k3 : ∀ (x5 x6 x7 x8 x9 x10 : Int) (L' : am_L) (S' : am_S), ax_P0 none S' → rd S' = sg_up (sg_up (rd S) 41 x4 x10) 40 1 (x4 + 1) → rd S 1 0 = x5 → x3 < x5 → rd S 4 x3 = x6 → 0 ≤ x7 → rd S 3 x3 = x8 → x8 ≠ x1 → x7 = 0 → 0 < x9 → rd S 40 1 = x4 → rd S 2 x3 = x10 → (0 ≤ x1 ∧ x1 ≤ 1) → (0 ≤ x2 ∧ x2 ≤ 9) → (0 ≤ x3 ∧ x3 ≤ 7) → (0 ≤ x4 ∧ x4 ≤ 7) → (1 ≤ x5 ∧ x5 ≤ 8) → (0 ≤ x6 ∧ x6 ≤ 9) → (0 ≤ x7 ∧ x7 ≤ 0) → (0 ≤ x8 ∧ x8 ≤ 1) → (1 ≤ x9 ∧ x9 ≤ 18) → (0 ≤ x10 ∧ x10 ≤ 1000000) → x6 + x2 = x9 → x6 + ((-1) * x2 + 0) = x7 → lc L' 0 40 → lc L' 1 1 → li L' 2 x1 → li L' 3 x2 → li L' 4 (x3 + 1) → am_V none d 51 8 L' ([]) S' Q)
    (k4 : ∀ (x5 x6 x7 x8 : Int) (L' : am_L) (S' : am_S), ax_P0 none S' → rd S' = rd S → rd S 1 0 = x5 → x3 < x5 → rd S 4 x3 = x6 → 0 ≤ x7 → rd S 3 x3 = x8 → x8 ≠ x1 → x7 ≠ 0 → x7 ≠ 2 → (0 ≤ x1 ∧ x1 ≤ 1) → (0 ≤ x2 ∧ x2 ≤ 9) → (0 ≤ x3 ∧ x3 ≤ 7) → (0 ≤ x4 ∧ x4 ≤ 8) → (1 ≤ x5 ∧ x5 ≤ 8) → (0 ≤ x6 ∧ x6 ≤ 9) → (1 ≤ x7 ∧ x7 ≤ 1) ∨ (3 ≤ x7 ∧ x7 ≤ 9) → (0 ≤ x8 ∧ x8 ≤ 1) → x6 + ((-1) * x2 + 0) = x7 → lc L' 0 40 → lc L' 1 1 → li L' 2 x1 → li L' 3 x2 → li L' 4 (x3 + 1) → am_V none d 51 8 L' ([]) S' Q)
    (k5 : ∀ (x5 x6 x7 x8 x9 : Int) (L' : am_L) (S' : am_S), ax_P0 none S' → rd S' = rd S → rd S 1 0 = x5 → x3 < x5 → rd S 4 x3 = x6 → 0 ≤ x7 → rd S 3 x3 = x8 → x8 ≠ x1 → x7 ≠ 0 → x7 = 2 → x9 ≤ 0 → (0 ≤ x1 ∧ x1 ≤ 1) → (0 ≤ x2 ∧ x2 ≤ 9) → (0 ≤ x3 ∧ x3 ≤ 7) → (0 ≤ x4 ∧ x4 ≤ 8) → (1 ≤ x5 ∧ x5 ≤ 8) → (0 ≤ x6 ∧ x6 ≤ 9) → (2 ≤ x7 ∧ x7 ≤ 2) → (0 ≤ x8 ∧ x8 ≤ 1) → (0 ≤ x9 ∧ x9 ≤ 0) → x6 + x2 = x9 → x6 + ((-1) * x2 + 0) = x7 → lc L' 0 40 → lc L' 1 1 → li L' 2 x1 → li L' 3 x2 → li L' 4 (x3 + 1) → am_V none d 51 8 L' ([]) S' Q)
    (k6 : ∀ (x5 x6 x7 x8 x9 x10 : Int) (L' : am_L) (S' : am_S), ax_P0 none S' → rd S' = sg_up (sg_up (rd S) 41 x4 x10) 40 1 (x4 + 1) → rd S 1 0 = x5 → x3 < x5 → rd S 4 x3 = x6 → 0 ≤ x7 → rd S 3 x3 = x8 → x8 ≠ x1 → x7 ≠ 0 → x7 = 2 → 0 < x9 → rd S 40 1 = x4 → rd S 2 x3 = x10 → (0 ≤ x1 ∧ x1 ≤ 1) → (0 ≤ x2 ∧ x2 ≤ 9) → (0 ≤ x3 ∧ x3 ≤ 7) → (0 ≤ x4 ∧ x4 ≤ 7) → (1 ≤ x5 ∧ x5 ≤ 8) → (0 ≤ x6 ∧ x6 ≤ 9) → (2 ≤ x7 ∧ x7 ≤ 2) → (0 ≤ x8 ∧ x8 ≤ 1) → (1 ≤ x9 ∧ x9 ≤ 18) → (0 ≤ x10 ∧ x10 ≤ 1000000) → x6 + x2 = x9 → x6 + ((-1) * x2 + 0) = x7 → lc L' 0 40 → lc L' 1 1 → li L' 2 x1 → li L' 3 x2 → li L' 4 (x3 + 1) → am_V none d 51 8 L' ([]) S' Q)
    (k7 : ∀ (x5 x6 x7 x8 : Int) (L' : am_L) (S' : am_S), ax_P0 none S' → rd S' = rd S → rd S 1 0 = x5 → x3 < x5 → rd S 4 x3 = x6 → x7 < 0 → rd S 3 x3 = x8 → x8 = x1 → (0 ≤ x1 ∧ x1 ≤ 1) → (0 ≤ x2 ∧ x2 ≤ 9) → (0 ≤ x3 ∧ x3 ≤ 7) → (0 ≤ x4 ∧ x4 ≤ 8) → (1 ≤ x5 ∧ x5 ≤ 8) → (0 ≤ x6 ∧ x6 ≤ 9) → ((-9) ≤ x7 ∧ x7 ≤ (-1)) → (0 ≤ x8 ∧ x8 ≤ 1) → x6 + ((-1) * x2 + 0) = x7 → lc L' 0 40 → lc L' 1 1 → li L' 2 x1 → li L' 3 x2 → li L' 4 (x3 + 1) → am_V none d 51 8 L' ([]) S' Q)
    (k8 : ∀ (x5 x6 x7 x8 : Int) (L' : am_L) (S' : am_S), ax_P0 none S' → rd S' = rd S → rd S 1 0 = x5 → x3 < x5 → rd S 4 x3 = x6 → x7 < 0 → rd S 3 x3 = x8 → x8 ≠ x1 → (-1) * x7 + 0 ≠ 0 → (-1) * x7 + 0 ≠ 2 → (0 ≤ x1 ∧ x1 ≤ 1) → (0 ≤ x2 ∧ x2 ≤ 9) → (0 ≤ x3 ∧ x3 ≤ 7) → (0 ≤ x4 ∧ x4 ≤ 8) → (1 ≤ x5 ∧ x5 ≤ 8) → (0 ≤ x6 ∧ x6 ≤ 9) → ((-9) ≤ x7 ∧ x7 ≤ (-3)) ∨ ((-1) ≤ x7 ∧ x7 ≤ (-1)) → (0 ≤ x8 ∧ x8 ≤ 1) → x6 + ((-1) * x2 + 0) = x7 → lc L' 0 40 → lc L' 1 1 → li L' 2 x1 → li L' 3 x2 → li L' 4 (x3 + 1) → am_V none d 51 8 L' ([]) S' Q)
    (k9 : ∀ (x5 x6 x7 x8 x9 : Int) (L' : am_L) (S' : am_S), ax_P0 none S' → rd S' = rd S → rd S 1 0 = x5 → x3 < x5 → rd S 4 x3 = x6 → x7 < 0 → rd S 3 x3 = x8 → x8 ≠ x1 → (-1) * x7 + 0 ≠ 0 → (-1) * x7 + 0 = 2 → x9 ≤ 0 → (0 ≤ x1 ∧ x1 ≤ 1) → (0 ≤ x2 ∧ x2 ≤ 9) → (0 ≤ x3 ∧ x3 ≤ 7) → (0 ≤ x4 ∧ x4 ≤ 8) → (1 ≤ x5 ∧ x5 ≤ 8) → (0 ≤ x6 ∧ x6 ≤ 9) → ((-2) ≤ x7 ∧ x7 ≤ (-2)) → (0 ≤ x8 ∧ x8 ≤ 1) → (0 ≤ x9 ∧ x9 ≤ 0) → x6 + x2 = x9 → x6 + ((-1) * x2 + 0) = x7 → lc L' 0 40 → lc L' 1 1 → li L' 2 x1 → li L' 3 x2 → li L' 4 (x3 + 1) → am_V none d 51 8 L' ([]) S' Q)
    (k10 : ∀ (x5 x6 x7 x8 x9 x10 : Int) (L' : am_L) (S' : am_S), ax_P0 none S' → rd S' = sg_up (sg_up (rd S) 41 x4 x10) 40 1 (x4 + 1) → rd S 1 0 = x5 → x3 < x5 → rd S 4 x3 = x6 → x7 < 0 → rd S 3 x3 = x8 → x8 ≠ x1 → (-1) * x7 + 0 ≠ 0 → (-1) * x7 + 0 = 2 → 0 < x9 → rd S 40 1 = x4 → rd S 2 x3 = x10 → (0 ≤ x1 ∧ x1 ≤ 1) → (0 ≤ x2 ∧ x2 ≤ 9) → (0 ≤ x3 ∧ x3 ≤ 7) → (0 ≤ x4 ∧ x4 ≤ 7) → (1 ≤ x5 ∧ x5 ≤ 8) → (0 ≤ x6 ∧ x6 ≤ 9) → ((-2) ≤ x7 ∧ x7 ≤ (-2)) → (0 ≤ x8 ∧ x8 ≤ 1) → (1 ≤ x9 ∧ x9 ≤ 18) → (0 ≤ x10 ∧ x10 ≤ 1000000) → x6 + x2 = x9 → x6 + ((-1) * x2 + 0) = x7 → lc L' 0 40 → lc L' 1 1 → li L' 2 x1 → li L' 3 x2 → li L' 4 (x3 + 1) → am_V none d 51 8 L' ([]) S' Q) : am_V none d 51 8 L ([]) S Q := by
  refine sg_use sg_sp_b_g hd hP (sg_xs [0, x1, x2, x3, x4]) ⟨⟨Int.le_refl 0, Int.le_refl 0⟩, b1, b2, b3, b4, trivial⟩ ⟨sg_fs hP rfl m40_1, trivial⟩ trivial ⟨c0, trivial⟩ ⟨l0, l1, l2, l3, l4, trivial⟩ trivial ?_
  intro z hz x' L' st' S' hx hP' hW hL' hs' hJ hE' hT' hD'
  have q1 : x' 1 = x1 := hx 1 (by decide)
  subst q1
  have q2 : x' 2 = x2 := hx 2 (by decide)
  subst q2
  have q3 : x' 3 = x3 := hx 3 (by decide)
  subst q3
  have q4 : x' 4 = x4 := hx 4 (by decide)
  subst q4
  simp only [sg_sp_b_Z, List.mem_cons, List.not_mem_nil, or_false] at hz
  rcases hz with rfl | rfl | rfl | rfl | rfl | rfl | rfl | rfl | rfl | rfl | rfl
  · obtain ⟨f0, f1, hσ⟩ := hJ
    obtain ⟨e0, e1, e2, e3, e4, -⟩ := hE'
    intro v hv
    subst hv
    cases v with
    | some _ => exact hs'.elim
    | none =>
      exact k0 (x' 5) S' hP' hσ f0 f1 e0 e1 e2 e3 e4
  · obtain ⟨f0, f1, f2, f3, f4, f5, -, hσ⟩ := hJ
    obtain ⟨e0, e1, e2, e3, e4, e5, e6, e7, -⟩ := hE'
    obtain ⟨t0, -⟩ := hT'
    obtain ⟨p0, p1, p2, p3, p4, -⟩ := hL'
    obtain rfl := sg_tn hs'
    exact k1 (x' 5) (x' 6) (x' 7) (x' 8) L' S' hP' hσ f0 f1 f2 f3 f4 f5 e0 e1 e2 e3 e4 e5 e6 e7 t0 p0 p1 p2 p3 p4
  · obtain ⟨f0, f1, f2, f3, f4, f5, f6, -, f8, -, hσ⟩ := hJ
    obtain ⟨e0, e1, e2, e3, e4, e5, e6, e7, e8, -⟩ := hE'
    obtain ⟨t0, t1, -⟩ := hT'
    obtain ⟨p0, p1, p2, p3, p4, -⟩ := hL'
    obtain rfl := sg_tn hs'
    exact k2 (x' 5) (x' 6) (x' 7) (x' 8) (x' 9) L' S' hP' hσ f0 f1 f2 f3 f4 f5 f6 f8 e0 e1 e2 e3 e4 e5 e6 e7 e8 t0 t1 p0 p1 p2 p3 p4
  · obtain ⟨f0, f1, f2, f3, f4, f5, f6, -, f8, -, f10, f11, -, hσ⟩ := hJ
    obtain ⟨e0, e1, e2, e3, e4, e5, e6, e7, e8, e9, -⟩ := hE'
    obtain ⟨t0, t1, -⟩ := hT'
    obtain ⟨p0, p1, p2, p3, p4, -⟩ := hL'
    obtain rfl := sg_tn hs'
    exact k3 (x' 5) (x' 6) (x' 7) (x' 8) (x' 9) (x' 10) L' S' hP' hσ f0 f1 f2 f3 f4 f5 f6 f8 f10 f11 e0 e1 e2 e3 e4 e5 e6 e7 e8 e9 t0 t1 p0 p1 p2 p3 p4
  · obtain ⟨f0, f1, f2, f3, f4, f5, f6, f7, -, hσ⟩ := hJ
    obtain ⟨e0, e1, e2, e3, e4, e5, e6, e7, -⟩ := hE'
    obtain ⟨t0, -⟩ := hT'
    obtain ⟨p0, p1, p2, p3, p4, -⟩ := hL'
    obtain rfl := sg_tn hs'
    exact k4 (x' 5) (x' 6) (x' 7) (x' 8) L' S' hP' hσ f0 f1 f2 f3 f4 f5 f6 f7 e0 e1 e2 e3 e4 e5 e6 e7 t0 p0 p1 p2 p3 p4
  · obtain ⟨f0, f1, f2, f3, f4, f5, f6, f7, -, f9, -, hσ⟩ := hJ
    obtain ⟨e0, e1, e2, e3, e4, e5, e6, e7, e8, -⟩ := hE'
    obtain ⟨t0, t1, -⟩ := hT'
    obtain ⟨p0, p1, p2, p3, p4, -⟩ := hL'
    obtain rfl := sg_tn hs'
    exact k5 (x' 5) (x' 6) (x' 7) (x' 8) (x' 9) L' S' hP' hσ f0 f1 f2 f3 f4 f5 f6 f7 f9 e0 e1 e2 e3 e4 e5 e6 e7 e8 t0 t1 p0 p1 p2 p3 p4
  · obtain ⟨f0, f1, f2, f3, f4, f5, f6, f7, -, f9, -, f11, f12, -, hσ⟩ := hJ
    obtain ⟨e0, e1, e2, e3, e4, e5, e6, e7, e8, e9, -⟩ := hE'
    obtain ⟨t0, t1, -⟩ := hT'
    obtain ⟨p0, p1, p2, p3, p4, -⟩ := hL'
    obtain rfl := sg_tn hs'
    exact k6 (x' 5) (x' 6) (x' 7) (x' 8) (x' 9) (x' 10) L' S' hP' hσ f0 f1 f2 f3 f4 f5 f6 f7 f9 f11 f12 e0 e1 e2 e3 e4 e5 e6 e7 e8 e9 t0 t1 p0 p1 p2 p3 p4
  · obtain ⟨f0, f1, f2, f3, f4, f5, -, hσ⟩ := hJ
    obtain ⟨e0, e1, e2, e3, e4, e5, e6, e7, -⟩ := hE'
    obtain ⟨t0, -⟩ := hT'
    obtain ⟨p0, p1, p2, p3, p4, -⟩ := hL'
    obtain rfl := sg_tn hs'
    exact k7 (x' 5) (x' 6) (x' 7) (x' 8) L' S' hP' hσ f0 f1 f2 f3 f4 f5 e0 e1 e2 e3 e4 e5 e6 e7 t0 p0 p1 p2 p3 p4
  · obtain ⟨f0, f1, f2, f3, f4, f5, f6, f7, -, hσ⟩ := hJ
    obtain ⟨e0, e1, e2, e3, e4, e5, e6, e7, -⟩ := hE'
    obtain ⟨t0, -⟩ := hT'
    obtain ⟨p0, p1, p2, p3, p4, -⟩ := hL'
    obtain rfl := sg_tn hs'
    exact k8 (x' 5) (x' 6) (x' 7) (x' 8) L' S' hP' hσ f0 f1 f2 f3 f4 f5 f6 f7 e0 e1 e2 e3 e4 e5 e6 e7 t0 p0 p1 p2 p3 p4
  · obtain ⟨f0, f1, f2, f3, f4, f5, f6, f7, -, f9, -, hσ⟩ := hJ
    obtain ⟨e0, e1, e2, e3, e4, e5, e6, e7, e8, -⟩ := hE'
    obtain ⟨t0, t1, -⟩ := hT'
    obtain ⟨p0, p1, p2, p3, p4, -⟩ := hL'
    obtain rfl := sg_tn hs'
    exact k9 (x' 5) (x' 6) (x' 7) (x' 8) (x' 9) L' S' hP' hσ f0 f1 f2 f3 f4 f5 f6 f7 f9 e0 e1 e2 e3 e4 e5 e6 e7 e8 t0 t1 p0 p1 p2 p3 p4
  · obtain ⟨f0, f1, f2, f3, f4, f5, f6, f7, -, f9, -, f11, f12, -, hσ⟩ := hJ
    obtain ⟨e0, e1, e2, e3, e4, e5, e6, e7, e8, e9, -⟩ := hE'
    obtain ⟨t0, t1, -⟩ := hT'
    obtain ⟨p0, p1, p2, p3, p4, -⟩ := hL'
    obtain rfl := sg_tn hs'
    exact k10 (x' 5) (x' 6) (x' 7) (x' 8) (x' 9) (x' 10) L' S' hP' hσ f0 f1 f2 f3 f4 f5 f6 f7 f9 f11 f12 e0 e1 e2 e3 e4 e5 e6 e7 e8 e9 t0 t1 p0 p1 p2 p3 p4
def sg_re_a_Z : List sg_z := [(4, [(0, .inr (.inl [40])), (1, .inr (.inl [6])), (2, .inl (false, (1, .ofNat 1, .ofNat 0))), (3, .inl (false, (2, .ofNat 1, .ofNat 0))), (4, .inl (false, (0, .ofNat 0, .ofNat 0)))], [], [], [(1, [(.ofNat 0, .ofNat 15)]), (2, [(.ofNat 0, .ofNat 1003700)])], [], [])]
set_option maxRecDepth 1000000 in
theorem sg_re_a_g : sg_go [] [3] 3000 53 0 0 3 [(0, [(.ofNat 0, .ofNat 0)]), (1, [(.ofNat 0, .ofNat 15)]), (2, [(.ofNat 0, .ofNat 1003700)])] [] [] [] [(0, .inr (.inl [40])), (1, .inr (.inl [6])), (2, .inl (false, (1, .ofNat 1, .ofNat 0))), (3, .inl (false, (2, .ofNat 1, .ofNat 0)))] [] [] sg_re_a_Z = true := by decide +kernel
set_option maxRecDepth 100000 in
theorem sg_re_a {Q : Option Value × am_S → Prop} {d : Nat} {S : am_S} {L : am_L} {x1 x2 : Int} (hd : 0 ≤ d) (hP : ax_P0 none S) (l0 : lc L 0 40) (l1 : lc L 1 6) (l2 : li L 2 x1) (l3 : li L 3 x2) (b1 : (0 ≤ x1 ∧ x1 ≤ 15)) (b2 : (0 ≤ x2 ∧ x2 ≤ 1003700))
    (k0 : ∀ (L' : am_L), (0 ≤ x1 ∧ x1 ≤ 15) → (0 ≤ x2 ∧ x2 ≤ 1003700) → lc L' 0 40 → lc L' 1 6 → li L' 2 x1 → li L' 3 x2 → li L' 4 0 → am_V none d 53 3 L' ([]) S Q) : am_V none d 53 0 L ([]) S Q := by
  refine sg_use sg_re_a_g hd hP (sg_xs [0, x1, x2]) ⟨⟨Int.le_refl 0, Int.le_refl 0⟩, b1, b2, trivial⟩ trivial trivial trivial ⟨l0, l1, l2, l3, trivial⟩ trivial ?_
  intro z hz x' L' st' S' hx hP' hW hL' hs' hJ hE' hT' hD'
  have q1 : x' 1 = x1 := hx 1 (by decide)
  subst q1
  have q2 : x' 2 = x2 := hx 2 (by decide)
  subst q2
  have eS : S' = S := hW.1 rfl
  subst eS
  simp only [sg_re_a_Z, List.mem_cons, List.not_mem_nil, or_false] at hz
  rcases hz with rfl
  · have hσ := hJ
    obtain ⟨e0, e1, -⟩ := hE'
    obtain ⟨p0, p1, p2, p3, p4, -⟩ := hL'
    obtain rfl := sg_tn hs'
    exact k0 L' e0 e1 p0 p1 p2 p3 p4
def sg_re_b_Z : List sg_z := [(0, [], [.inl (false, (0, .ofNat 0, .ofNat 0))], [(2, 3, (3, .ofNat 1, .ofNat 0), (4, .ofNat 1, .ofNat 0), (0, .ofNat 0, .ofNat 0)), (0, 40, (0, .ofNat 0, .ofNat 1), (4, .ofNat 1, .ofNat 0), (0, .ofNat 0, .ofNat 0))], [(1, [(.ofNat 0, .ofNat 15)]), (2, [(.ofNat 0, .ofNat 1003700)]), (3, [(.ofNat 0, .ofNat 8)]), (4, [(.ofNat 0, .ofNat 8)])], [], []),
  (4, [(0, .inr (.inl [40])), (1, .inr (.inl [6])), (2, .inl (false, (1, .ofNat 1, .ofNat 0))), (3, .inl (false, (2, .ofNat 1, .ofNat 0))), (4, .inl (false, (3, .ofNat 1, .ofNat 1)))], [], [(2, 0, (0, .ofNat 0, .ofNat 0), (0, .ofNat 0, .ofNat 0), (0, .ofNat 0, .ofNat 0)), (2, 4, (8, .ofNat 1, .ofNat 0), (9, .ofNat 1, .ofNat 0), (0, .ofNat 0, .ofNat 0)), (0, 8, (1, .ofNat 1, .ofNat 0), (9, .ofNat 1, .ofNat 0), (0, .ofNat 0, .ofNat 0)), (2, 3, (8, .ofNat 1, .ofNat 0), (0, .ofNat 0, .ofNat 0), (0, .ofNat 0, .ofNat 0)), (0, 7, (1, .ofNat 1, .ofNat 0), (7, .ofNat 1, .ofNat 0), (0, .ofNat 0, .ofNat 0)), (2, 3, (6, .ofNat 1, .ofNat 0), (0, .ofNat 0, .ofNat 0), (0, .ofNat 0, .ofNat 0)), (0, 41, (3, .ofNat 1, .ofNat 0), (5, .ofNat 1, .ofNat 0), (0, .ofNat 0, .ofNat 0)), (2, 2, (3, .ofNat 1, .ofNat 0), (4, .ofNat 1, .ofNat 0), (0, .ofNat 0, .ofNat 0)), (0, 40, (0, .ofNat 0, .ofNat 1), (4, .ofNat 1, .ofNat 0), (0, .ofNat 0, .ofNat 0))], [(1, [(.ofNat 0, .ofNat 15)]), (2, [(.ofNat 0, .ofNat 1003700)]), (3, [(.ofNat 0, .ofNat 7)]), (4, [(.ofNat 1, .ofNat 8)]), (5, [(.ofNat 0, .ofNat 1000000)]), (6, [(.ofNat 0, .ofNat 1000000)]), (7, [(.ofNat 0, .ofNat 1000000)]), (8, [(.ofNat 1, .ofNat 1000000)]), (9, [(.ofNat 0, .ofNat 1000)])], [((6, .ofNat 1, .ofNat 0), (7, .negSucc 0, .ofNat 0), (8, .ofNat 1, .ofNat 0)), ((5, .ofNat 1, .ofNat 0), (2, .negSucc 0, .ofNat 0), (6, .ofNat 1, .ofNat 0))], []),
  (0, [], [.inl (false, (0, .ofNat 0, .ofNat 1))], [(2, 1, (0, .ofNat 0, .ofNat 1), (0, .ofNat 0, .ofNat 0), (0, .ofNat 0, .ofNat 0)), (2, 5, (8, .ofNat 1, .ofNat 0), (9, .ofNat 1, .ofNat 0), (0, .ofNat 0, .ofNat 0)), (0, 8, (1, .ofNat 1, .ofNat 0), (9, .ofNat 1, .ofNat 0), (0, .ofNat 0, .ofNat 0)), (2, 3, (8, .ofNat 1, .ofNat 0), (0, .ofNat 0, .ofNat 0), (0, .ofNat 0, .ofNat 0)), (0, 7, (1, .ofNat 1, .ofNat 0), (7, .ofNat 1, .ofNat 0), (0, .ofNat 0, .ofNat 0)), (2, 3, (6, .ofNat 1, .ofNat 0), (0, .ofNat 0, .ofNat 0), (0, .ofNat 0, .ofNat 0)), (0, 41, (3, .ofNat 1, .ofNat 0), (5, .ofNat 1, .ofNat 0), (0, .ofNat 0, .ofNat 0)), (2, 2, (3, .ofNat 1, .ofNat 0), (4, .ofNat 1, .ofNat 0), (0, .ofNat 0, .ofNat 0)), (0, 40, (0, .ofNat 0, .ofNat 1), (4, .ofNat 1, .ofNat 0), (0, .ofNat 0, .ofNat 0))], [(1, [(.ofNat 0, .ofNat 15)]), (2, [(.ofNat 0, .ofNat 1003700)]), (3, [(.ofNat 0, .ofNat 7)]), (4, [(.ofNat 1, .ofNat 8)]), (5, [(.ofNat 0, .ofNat 1000000)]), (6, [(.ofNat 0, .ofNat 1000000)]), (7, [(.ofNat 0, .ofNat 1000000)]), (8, [(.ofNat 0, .ofNat 1000)]), (9, [(.ofNat 0, .ofNat 1000)])], [((6, .ofNat 1, .ofNat 0), (7, .negSucc 0, .ofNat 0), (8, .ofNat 1, .ofNat 0)), ((5, .ofNat 1, .ofNat 0), (2, .negSucc 0, .ofNat 0), (6, .ofNat 1, .ofNat 0))], []),
  (4, [(0, .inr (.inl [40])), (1, .inr (.inl [6])), (2, .inl (false, (1, .ofNat 1, .ofNat 0))), (3, .inl (false, (2, .ofNat 1, .ofNat 0))), (4, .inl (false, (3, .ofNat 1, .ofNat 1)))], [], [(2, 0, (0, .ofNat 0, .ofNat 0), (0, .ofNat 0, .ofNat 0), (0, .ofNat 0, .ofNat 0)), (2, 4, (8, .negSucc 0, .ofNat 0), (9, .ofNat 1, .ofNat 0), (0, .ofNat 0, .ofNat 0)), (0, 8, (1, .ofNat 1, .ofNat 0), (9, .ofNat 1, .ofNat 0), (0, .ofNat 0, .ofNat 0)), (2, 2, (8, .ofNat 1, .ofNat 0), (0, .ofNat 0, .ofNat 0), (0, .ofNat 0, .ofNat 0)), (0, 7, (1, .ofNat 1, .ofNat 0), (7, .ofNat 1, .ofNat 0), (0, .ofNat 0, .ofNat 0)), (2, 3, (6, .ofNat 1, .ofNat 0), (0, .ofNat 0, .ofNat 0), (0, .ofNat 0, .ofNat 0)), (0, 41, (3, .ofNat 1, .ofNat 0), (5, .ofNat 1, .ofNat 0), (0, .ofNat 0, .ofNat 0)), (2, 2, (3, .ofNat 1, .ofNat 0), (4, .ofNat 1, .ofNat 0), (0, .ofNat 0, .ofNat 0)), (0, 40, (0, .ofNat 0, .ofNat 1), (4, .ofNat 1, .ofNat 0), (0, .ofNat 0, .ofNat 0))], [(1, [(.ofNat 0, .ofNat 15)]), (2, [(.ofNat 0, .ofNat 1003700)]), (3, [(.ofNat 0, .ofNat 7)]), (4, [(.ofNat 1, .ofNat 8)]), (5, [(.ofNat 0, .ofNat 1000000)]), (6, [(.ofNat 0, .ofNat 1000000)]), (7, [(.ofNat 0, .ofNat 1000000)]), (8, [(.negSucc 999999, .negSucc 0)]), (9, [(.ofNat 0, .ofNat 1000)])], [((6, .ofNat 1, .ofNat 0), (7, .negSucc 0, .ofNat 0), (8, .ofNat 1, .ofNat 0)), ((5, .ofNat 1, .ofNat 0), (2, .negSucc 0, .ofNat 0), (6, .ofNat 1, .ofNat 0))], []),
  (0, [], [.inl (false, (0, .ofNat 0, .ofNat 1))], [(2, 1, (0, .ofNat 0, .ofNat 1), (0, .ofNat 0, .ofNat 0), (0, .ofNat 0, .ofNat 0)), (2, 5, (8, .negSucc 0, .ofNat 0), (9, .ofNat 1, .ofNat 0), (0, .ofNat 0, .ofNat 0)), (0, 8, (1, .ofNat 1, .ofNat 0), (9, .ofNat 1, .ofNat 0), (0, .ofNat 0, .ofNat 0)), (2, 2, (8, .ofNat 1, .ofNat 0), (0, .ofNat 0, .ofNat 0), (0, .ofNat 0, .ofNat 0)), (0, 7, (1, .ofNat 1, .ofNat 0), (7, .ofNat 1, .ofNat 0), (0, .ofNat 0, .ofNat 0)), (2, 3, (6, .ofNat 1, .ofNat 0), (0, .ofNat 0, .ofNat 0), (0, .ofNat 0, .ofNat 0)), (0, 41, (3, .ofNat 1, .ofNat 0), (5, .ofNat 1, .ofNat 0), (0, .ofNat 0, .ofNat 0)), (2, 2, (3, .ofNat 1, .ofNat 0), (4, .ofNat 1, .ofNat 0), (0, .ofNat 0, .ofNat 0)), (0, 40, (0, .ofNat 0, .ofNat 1), (4, .ofNat 1, .ofNat 0), (0, .ofNat 0, .ofNat 0))], [(1, [(.ofNat 0, .ofNat 15)]), (2, [(.ofNat 0, .ofNat 1003700)]), (3, [(.ofNat 0, .ofNat 7)]), (4, [(.ofNat 1, .ofNat 8)]), (5, [(.ofNat 0, .ofNat 1000000)]), (6, [(.ofNat 0, .ofNat 1000000)]), (7, [(.ofNat 0, .ofNat 1000000)]), (8, [(.negSucc 999, .negSucc 0)]), (9, [(.ofNat 1, .ofNat 1000)])], [((6, .ofNat 1, .ofNat 0), (7, .negSucc 0, .ofNat 0), (8, .ofNat 1, .ofNat 0)), ((5, .ofNat 1, .ofNat 0), (2, .negSucc 0, .ofNat 0), (6, .ofNat 1, .ofNat 0))], []),
  (4, [(0, .inr (.inl [40])), (1, .inr (.inl [6])), (2, .inl (false, (1, .ofNat 1, .ofNat 0))), (3, .inl (false, (2, .ofNat 1, .ofNat 0))), (4, .inl (false, (3, .ofNat 1, .ofNat 1)))], [], [(2, 0, (0, .ofNat 0, .ofNat 0), (0, .ofNat 0, .ofNat 0), (0, .ofNat 0, .ofNat 0)), (2, 4, (8, .ofNat 1, .ofNat 0), (9, .ofNat 1, .ofNat 0), (0, .ofNat 0, .ofNat 0)), (0, 8, (1, .ofNat 1, .ofNat 0), (9, .ofNat 1, .ofNat 0), (0, .ofNat 0, .ofNat 0)), (2, 3, (8, .ofNat 1, .ofNat 0), (0, .ofNat 0, .ofNat 0), (0, .ofNat 0, .ofNat 0)), (0, 7, (1, .ofNat 1, .ofNat 0), (7, .ofNat 1, .ofNat 0), (0, .ofNat 0, .ofNat 0)), (2, 2, (6, .ofNat 1, .ofNat 0), (0, .ofNat 0, .ofNat 0), (0, .ofNat 0, .ofNat 0)), (0, 41, (3, .ofNat 1, .ofNat 0), (5, .ofNat 1, .ofNat 0), (0, .ofNat 0, .ofNat 0)), (2, 2, (3, .ofNat 1, .ofNat 0), (4, .ofNat 1, .ofNat 0), (0, .ofNat 0, .ofNat 0)), (0, 40, (0, .ofNat 0, .ofNat 1), (4, .ofNat 1, .ofNat 0), (0, .ofNat 0, .ofNat 0))], [(1, [(.ofNat 0, .ofNat 15)]), (2, [(.ofNat 0, .ofNat 1003700)]), (3, [(.ofNat 0, .ofNat 7)]), (4, [(.ofNat 1, .ofNat 8)]), (5, [(.ofNat 0, .ofNat 1000000)]), (6, [(.negSucc 1003699, .negSucc 0)]), (7, [(.ofNat 0, .ofNat 1000000)]), (8, [(.ofNat 1, .ofNat 1003700)]), (9, [(.ofNat 0, .ofNat 1000)])], [((6, .negSucc 0, .ofNat 0), (7, .negSucc 0, .ofNat 0), (8, .ofNat 1, .ofNat 0)), ((5, .ofNat 1, .ofNat 0), (2, .negSucc 0, .ofNat 0), (6, .ofNat 1, .ofNat 0))], []),
  (0, [], [.inl (false, (0, .ofNat 0, .ofNat 1))], [(2, 1, (0, .ofNat 0, .ofNat 1), (0, .ofNat 0, .ofNat 0), (0, .ofNat 0, .ofNat 0)), (2, 5, (8, .ofNat 1, .ofNat 0), (9, .ofNat 1, .ofNat 0), (0, .ofNat 0, .ofNat 0)), (0, 8, (1, .ofNat 1, .ofNat 0), (9, .ofNat 1, .ofNat 0), (0, .ofNat 0, .ofNat 0)), (2, 3, (8, .ofNat 1, .ofNat 0), (0, .ofNat 0, .ofNat 0), (0, .ofNat 0, .ofNat 0)), (0, 7, (1, .ofNat 1, .ofNat 0), (7, .ofNat 1, .ofNat 0), (0, .ofNat 0, .ofNat 0)), (2, 2, (6, .ofNat 1, .ofNat 0), (0, .ofNat 0, .ofNat 0), (0, .ofNat 0, .ofNat 0)), (0, 41, (3, .ofNat 1, .ofNat 0), (5, .ofNat 1, .ofNat 0), (0, .ofNat 0, .ofNat 0)), (2, 2, (3, .ofNat 1, .ofNat 0), (4, .ofNat 1, .ofNat 0), (0, .ofNat 0, .ofNat 0)), (0, 40, (0, .ofNat 0, .ofNat 1), (4, .ofNat 1, .ofNat 0), (0, .ofNat 0, .ofNat 0))], [(1, [(.ofNat 0, .ofNat 15)]), (2, [(.ofNat 0, .ofNat 1003700)]), (3, [(.ofNat 0, .ofNat 7)]), (4, [(.ofNat 1, .ofNat 8)]), (5, [(.ofNat 0, .ofNat 1000000)]), (6, [(.negSucc 1003699, .negSucc 0)]), (7, [(.ofNat 0, .ofNat 1000000)]), (8, [(.ofNat 0, .ofNat 1000)]), (9, [(.ofNat 0, .ofNat 1000)])], [((6, .negSucc 0, .ofNat 0), (7, .negSucc 0, .ofNat 0), (8, .ofNat 1, .ofNat 0)), ((5, .ofNat 1, .ofNat 0), (2, .negSucc 0, .ofNat 0), (6, .ofNat 1, .ofNat 0))], []),
  (4, [(0, .inr (.inl [40])), (1, .inr (.inl [6])), (2, .inl (false, (1, .ofNat 1, .ofNat 0))), (3, .inl (false, (2, .ofNat 1, .ofNat 0))), (4, .inl (false, (3, .ofNat 1, .ofNat 1)))], [], [(2, 0, (0, .ofNat 0, .ofNat 0), (0, .ofNat 0, .ofNat 0), (0, .ofNat 0, .ofNat 0)), (2, 4, (8, .negSucc 0, .ofNat 0), (9, .ofNat 1, .ofNat 0), (0, .ofNat 0, .ofNat 0)), (0, 8, (1, .ofNat 1, .ofNat 0), (9, .ofNat 1, .ofNat 0), (0, .ofNat 0, .ofNat 0)), (2, 2, (8, .ofNat 1, .ofNat 0), (0, .ofNat 0, .ofNat 0), (0, .ofNat 0, .ofNat 0)), (0, 7, (1, .ofNat 1, .ofNat 0), (7, .ofNat 1, .ofNat 0), (0, .ofNat 0, .ofNat 0)), (2, 2, (6, .ofNat 1, .ofNat 0), (0, .ofNat 0, .ofNat 0), (0, .ofNat 0, .ofNat 0)), (0, 41, (3, .ofNat 1, .ofNat 0), (5, .ofNat 1, .ofNat 0), (0, .ofNat 0, .ofNat 0)), (2, 2, (3, .ofNat 1, .ofNat 0), (4, .ofNat 1, .ofNat 0), (0, .ofNat 0, .ofNat 0)), (0, 40, (0, .ofNat 0, .ofNat 1), (4, .ofNat 1, .ofNat 0), (0, .ofNat 0, .ofNat 0))], [(1, [(.ofNat 0, .ofNat 15)]), (2, [(.ofNat 0, .ofNat 1003700)]), (3, [(.ofNat 0, .ofNat 7)]), (4, [(.ofNat 1, .ofNat 8)]), (5, [(.ofNat 0, .ofNat 1000000)]), (6, [(.negSucc 1003699, .negSucc 0)]), (7, [(.ofNat 0, .ofNat 1000000)]), (8, [(.negSucc 999998, .negSucc 0)]), (9, [(.ofNat 0, .ofNat 1000)])], [((6, .negSucc 0, .ofNat 0), (7, .negSucc 0, .ofNat 0), (8, .ofNat 1, .ofNat 0)), ((5, .ofNat 1, .ofNat 0), (2, .negSucc 0, .ofNat 0), (6, .ofNat 1, .ofNat 0))], []),
  (0, [], [.inl (false, (0, .ofNat 0, .ofNat 1))], [(2, 1, (0, .ofNat 0, .ofNat 1), (0, .ofNat 0, .ofNat 0), (0, .ofNat 0, .ofNat 0)), (2, 5, (8, .negSucc 0, .ofNat 0), (9, .ofNat 1, .ofNat 0), (0, .ofNat 0, .ofNat 0)), (0, 8, (1, .ofNat 1, .ofNat 0), (9, .ofNat 1, .ofNat 0), (0, .ofNat 0, .ofNat 0)), (2, 2, (8, .ofNat 1, .ofNat 0), (0, .ofNat 0, .ofNat 0), (0, .ofNat 0, .ofNat 0)), (0, 7, (1, .ofNat 1, .ofNat 0), (7, .ofNat 1, .ofNat 0), (0, .ofNat 0, .ofNat 0)), (2, 2, (6, .ofNat 1, .ofNat 0), (0, .ofNat 0, .ofNat 0), (0, .ofNat 0, .ofNat 0)), (0, 41, (3, .ofNat 1, .ofNat 0), (5, .ofNat 1, .ofNat 0), (0, .ofNat 0, .ofNat 0)), (2, 2, (3, .ofNat 1, .ofNat 0), (4, .ofNat 1, .ofNat 0), (0, .ofNat 0, .ofNat 0)), (0, 40, (0, .ofNat 0, .ofNat 1), (4, .ofNat 1, .ofNat 0), (0, .ofNat 0, .ofNat 0))], [(1, [(.ofNat 0, .ofNat 15)]), (2, [(.ofNat 0, .ofNat 1003700)]), (3, [(.ofNat 0, .ofNat 7)]), (4, [(.ofNat 1, .ofNat 8)]), (5, [(.ofNat 0, .ofNat 1000000)]), (6, [(.negSucc 1003699, .negSucc 0)]), (7, [(.ofNat 0, .ofNat 1000000)]), (8, [(.negSucc 999, .negSucc 0)]), (9, [(.ofNat 1, .ofNat 1000)])], [((6, .negSucc 0, .ofNat 0), (7, .negSucc 0, .ofNat 0), (8, .ofNat 1, .ofNat 0)), ((5, .ofNat 1, .ofNat 0), (2, .negSucc 0, .ofNat 0), (6, .ofNat 1, .ofNat 0))], [])]
set_option maxRecDepth 1000000 in
theorem sg_re_b_g : sg_go [] [3] 3000 53 3 2 4 [(0, [(.ofNat 0, .ofNat 0)]), (1, [(.ofNat 0, .ofNat 15)]), (2, [(.ofNat 0, .ofNat 1003700)]), (3, [(.ofNat 0, .ofNat 8)])] [] [] [] [(0, .inr (.inl [40])), (1, .inr (.inl [6])), (2, .inl (false, (1, .ofNat 1, .ofNat 0))), (3, .inl (false, (2, .ofNat 1, .ofNat 0))), (4, .inl (false, (3, .ofNat 1, .ofNat 0)))] [] [] sg_re_b_Z = true := by decide +kernel
set_option maxRecDepth 100000 in
theorem sg_re_b {Q : Option Value × am_S → Prop} {d : Nat} {S : am_S} {L : am_L} {x1 x2 x3 : Int} (hd : 2 ≤ d) (hP : ax_P0 none S) (l0 : lc L 0 40) (l1 : lc L 1 6) (l2 : li L 2 x1) (l3 : li L 3 x2) (l4 : li L 4 x3) (b1 : (0 ≤ x1 ∧ x1 ≤ 15)) (b2 : (0 ≤ x2 ∧ x2 ≤ 1003700)) (b3 : (0 ≤ x3 ∧ x3 ≤ 8))
    (k0 : ∀ (x4 : Int) (i1 : Int32), rd S 40 1 = x4 → x4 ≤ x3 → (0 ≤ x1 ∧ x1 ≤ 15) → (0 ≤ x2 ∧ x2 ≤ 1003700) → (0 ≤ x3 ∧ x3 ≤ 8) → (0 ≤ x4 ∧ x4 ≤ 8) → i1.toInt = 0 → Q (some (.int i1), S))
    (k1 : ∀ (x4 x5 x6 x7 x8 x9 : Int) (L' : am_L), rd S 40 1 = x4 → x3 < x4 → rd S 41 x3 = x5 → 0 ≤ x6 → rd S 7 x1 = x7 → 0 ≤ x8 → rd S 8 x1 = x9 → x9 < x8 → (0 ≤ x1 ∧ x1 ≤ 15) → (0 ≤ x2 ∧ x2 ≤ 1003700) → (0 ≤ x3 ∧ x3 ≤ 7) → (1 ≤ x4 ∧ x4 ≤ 8) → (0 ≤ x5 ∧ x5 ≤ 1000000) → (0 ≤ x6 ∧ x6 ≤ 1000000) → (0 ≤ x7 ∧ x7 ≤ 1000000) → (1 ≤ x8 ∧ x8 ≤ 1000000) → (0 ≤ x9 ∧ x9 ≤ 1000) → x6 + ((-1) * x7 + 0) = x8 → x5 + ((-1) * x2 + 0) = x6 → lc L' 0 40 → lc L' 1 6 → li L' 2 x1 → li L' 3 x2 → li L' 4 (x3 + 1) → am_V none d 53 3 L' ([]) S Q)
    (k2 : ∀ (x4 x5 x6 x7 x8 x9 : Int) (i1 : Int32), rd S 40 1 = x4 → x3 < x4 → rd S 41 x3 = x5 → 0 ≤ x6 → rd S 7 x1 = x7 → 0 ≤ x8 → rd S 8 x1 = x9 → x8 ≤ x9 → (0 ≤ x1 ∧ x1 ≤ 15) → (0 ≤ x2 ∧ x2 ≤ 1003700) → (0 ≤ x3 ∧ x3 ≤ 7) → (1 ≤ x4 ∧ x4 ≤ 8) → (0 ≤ x5 ∧ x5 ≤ 1000000) → (0 ≤ x6 ∧ x6 ≤ 1000000) → (0 ≤ x7 ∧ x7 ≤ 1000000) → (0 ≤ x8 ∧ x8 ≤ 1000) → (0 ≤ x9 ∧ x9 ≤ 1000) → x6 + ((-1) * x7 + 0) = x8 → x5 + ((-1) * x2 + 0) = x6 → i1.toInt = 1 → Q (some (.int i1), S))
    (k3 : ∀ (x4 x5 x6 x7 x8 x9 : Int) (L' : am_L), rd S 40 1 = x4 → x3 < x4 → rd S 41 x3 = x5 → 0 ≤ x6 → rd S 7 x1 = x7 → x8 < 0 → rd S 8 x1 = x9 → x9 < (-1) * x8 + 0 → (0 ≤ x1 ∧ x1 ≤ 15) → (0 ≤ x2 ∧ x2 ≤ 1003700) → (0 ≤ x3 ∧ x3 ≤ 7) → (1 ≤ x4 ∧ x4 ≤ 8) → (0 ≤ x5 ∧ x5 ≤ 1000000) → (0 ≤ x6 ∧ x6 ≤ 1000000) → (0 ≤ x7 ∧ x7 ≤ 1000000) → ((-1000000) ≤ x8 ∧ x8 ≤ (-1)) → (0 ≤ x9 ∧ x9 ≤ 1000) → x6 + ((-1) * x7 + 0) = x8 → x5 + ((-1) * x2 + 0) = x6 → lc L' 0 40 → lc L' 1 6 → li L' 2 x1 → li L' 3 x2 → li L' 4 (x3 + 1) → am_V none d 53 3 L' ([]) S Q)
    (k4 : ∀ (x4 x5 x6 x7 x8 x9 : Int) (i1 : Int32), rd S 40 1 = x4 → x3 < x4 → rd S 41 x3 = x5 → 0 ≤ x6 → rd S 7 x1 = x7 → x8 < 0 → rd S 8 x1 = x9 → (-1) * x8 + 0 ≤ x9 → (0 ≤ x1 ∧ x1 ≤ 15) → (0 ≤ x2 ∧ x2 ≤ 1003700) → (0 ≤ x3 ∧ x3 ≤ 7) → (1 ≤ x4 ∧ x4 ≤ 8) → (0 ≤ x5 ∧ x5 ≤ 1000000) → (0 ≤ x6 ∧ x6 ≤ 1000000) → (0 ≤ x7 ∧ x7 ≤ 1000000) → ((-1000) ≤ x8 ∧ x8 ≤ (-1)) → (1 ≤ x9 ∧ x9 ≤ 1000) → x6 + ((-1) * x7 + 0) = x8 → x5 + ((-1) * x2 + 0) = x6 → i1.toInt = 1 → Q (some (.int i1), S))
    (k5 : ∀ (x4 x5 x6 x7 x8 x9 : Int) (L' : am_L), rd S 40 1 = x4 → x3 < x4 → rd S 41 x3 = x5 → x6 < 0 → rd S 7 x1 = x7 → 0 ≤ x8 → rd S 8 x1 = x9 → x9 < x8 → (0 ≤ x1 ∧ x1 ≤ 15) → (0 ≤ x2 ∧ x2 ≤ 1003700) → (0 ≤ x3 ∧ x3 ≤ 7) → (1 ≤ x4 ∧ x4 ≤ 8) → (0 ≤ x5 ∧ x5 ≤ 1000000) → ((-1003700) ≤ x6 ∧ x6 ≤ (-1)) → (0 ≤ x7 ∧ x7 ≤ 1000000) → (1 ≤ x8 ∧ x8 ≤ 1003700) → (0 ≤ x9 ∧ x9 ≤ 1000) → ((-1) * x6 + 0) + ((-1) * x7 + 0) = x8 → x5 + ((-1) * x2 + 0) = x6 → lc L' 0 40 → lc L' 1 6 → li L' 2 x1 → li L' 3 x2 → li L' 4 (x3 + 1) → am_V none d 53 3 L' ([]) S Q)
    (k6 : ∀ (x4 x5 x6 x7 x8 x9 : Int) (i1 : Int32), rd S 40 1 = x4 → x3 < x4 → rd S 41 x3 = x5 → x6 < 0 → rd S 7 x1 = x7 → 0 ≤ x8 → rd S 8 x1 = x9 → x8 ≤ x9 → (0 ≤ x1 ∧ x1 ≤ 15) → (0 ≤ x2 ∧ x2 ≤ 1003700) → (0 ≤ x3 ∧ x3 ≤ 7) → (1 ≤ x4 ∧ x4 ≤ 8) → (0 ≤ x5 ∧ x5 ≤ 1000000) → ((-1003700) ≤ x6 ∧ x6 ≤ (-1)) → (0 ≤ x7 ∧ x7 ≤ 1000000) → (0 ≤ x8 ∧ x8 ≤ 1000) → (0 ≤ x9 ∧ x9 ≤ 1000) → ((-1) * x6 + 0) + ((-1) * x7 + 0) = x8 → x5 + ((-1) * x2 + 0) = x6 → i1.toInt = 1 → Q (some (.int i1), S))
    (k7 : ∀ (x4 x5 x6 x7 x8 x9 : Int) (L' : am_L), rd S 40 1 = x4 → x3 < x4 → rd S 41 x3 = x5 → x6 < 0 → rd S 7 x1 = x7 → x8 < 0 → rd S 8 x1 = x9 → x9 < (-1) * x8 + 0 → (0 ≤ x1 ∧ x1 ≤ 15) → (0 ≤ x2 ∧ x2 ≤ 1003700) → (0 ≤ x3 ∧ x3 ≤ 7) → (1 ≤ x4 ∧ x4 ≤ 8) → (0 ≤ x5 ∧ x5 ≤ 1000000) → ((-1003700) ≤ x6 ∧ x6 ≤ (-1)) → (0 ≤ x7 ∧ x7 ≤ 1000000) → ((-999999) ≤ x8 ∧ x8 ≤ (-1)) → (0 ≤ x9 ∧ x9 ≤ 1000) → ((-1) * x6 + 0) + ((-1) * x7 + 0) = x8 → x5 + ((-1) * x2 + 0) = x6 → lc L' 0 40 → lc L' 1 6 → li L' 2 x1 → li L' 3 x2 → li L' 4 (x3 + 1) → am_V none d 53 3 L' ([]) S Q)
    (k8 : ∀ (x4 x5 x6 x7 x8 x9 : Int) (i1 : Int32), rd S 40 1 = x4 → x3 < x4 → rd S 41 x3 = x5 → x6 < 0 → rd S 7 x1 = x7 → x8 < 0 → rd S 8 x1 = x9 → (-1) * x8 + 0 ≤ x9 → (0 ≤ x1 ∧ x1 ≤ 15) → (0 ≤ x2 ∧ x2 ≤ 1003700) → (0 ≤ x3 ∧ x3 ≤ 7) → (1 ≤ x4 ∧ x4 ≤ 8) → (0 ≤ x5 ∧ x5 ≤ 1000000) → ((-1003700) ≤ x6 ∧ x6 ≤ (-1)) → (0 ≤ x7 ∧ x7 ≤ 1000000) → ((-1000) ≤ x8 ∧ x8 ≤ (-1)) → (1 ≤ x9 ∧ x9 ≤ 1000) → ((-1) * x6 + 0) + ((-1) * x7 + 0) = x8 → x5 + ((-1) * x2 + 0) = x6 → i1.toInt = 1 → Q (some (.int i1), S)) : am_V none d 53 3 L ([]) S Q := by
  refine sg_use sg_re_b_g hd hP (sg_xs [0, x1, x2, x3]) ⟨⟨Int.le_refl 0, Int.le_refl 0⟩, b1, b2, b3, trivial⟩ trivial trivial trivial ⟨l0, l1, l2, l3, l4, trivial⟩ trivial ?_
  intro z hz x' L' st' S' hx hP' hW hL' hs' hJ hE' hT' hD'
  have q1 : x' 1 = x1 := hx 1 (by decide)
  subst q1
  have q2 : x' 2 = x2 := hx 2 (by decide)
  subst q2
  have q3 : x' 3 = x3 := hx 3 (by decide)
  subst q3
  have eS : S' = S := hW.1 rfl
  subst eS
  simp only [sg_re_b_Z, List.mem_cons, List.not_mem_nil, or_false] at hz
  rcases hz with rfl | rfl | rfl | rfl | rfl | rfl | rfl | rfl | rfl
  · obtain ⟨f0, f1, hσ⟩ := hJ
    obtain ⟨e0, e1, e2, e3, -⟩ := hE'
    intro v hv
    subst hv
    cases v with
    | none => exact hs'.elim
    | some v1 =>
      obtain ⟨⟨i1, rfl, g1⟩, -⟩ := hs'
      exact k0 (x' 4) i1 f0 f1 e0 e1 e2 e3 g1
  · obtain ⟨f0, f1, f2, f3, f4, f5, f6, f7, -, hσ⟩ := hJ
    obtain ⟨e0, e1, e2, e3, e4, e5, e6, e7, e8, -⟩ := hE'
    obtain ⟨t0, t1, -⟩ := hT'
    obtain ⟨p0, p1, p2, p3, p4, -⟩ := hL'
    obtain rfl := sg_tn hs'
    exact k1 (x' 4) (x' 5) (x' 6) (x' 7) (x' 8) (x' 9) L' f0 f1 f2 f3 f4 f5 f6 f7 e0 e1 e2 e3 e4 e5 e6 e7 e8 t0 t1 p0 p1 p2 p3 p4
  · obtain ⟨f0, f1, f2, f3, f4, f5, f6, f7, -, hσ⟩ := hJ
    obtain ⟨e0, e1, e2, e3, e4, e5, e6, e7, e8, -⟩ := hE'
    obtain ⟨t0, t1, -⟩ := hT'
    intro v hv
    subst hv
    cases v with
    | none => exact hs'.elim
    | some v1 =>
      obtain ⟨⟨i1, rfl, g1⟩, -⟩ := hs'
      exact k2 (x' 4) (x' 5) (x' 6) (x' 7) (x' 8) (x' 9) i1 f0 f1 f2 f3 f4 f5 f6 f7 e0 e1 e2 e3 e4 e5 e6 e7 e8 t0 t1 g1
  · obtain ⟨f0, f1, f2, f3, f4, f5, f6, f7, -, hσ⟩ := hJ
    obtain ⟨e0, e1, e2, e3, e4, e5, e6, e7, e8, -⟩ := hE'
    obtain ⟨t0, t1, -⟩ := hT'
    obtain ⟨p0, p1, p2, p3, p4, -⟩ := hL'
    obtain rfl := sg_tn hs'
    exact k3 (x' 4) (x' 5) (x' 6) (x' 7) (x' 8) (x' 9) L' f0 f1 f2 f3 f4 f5 f6 f7 e0 e1 e2 e3 e4 e5 e6 e7 e8 t0 t1 p0 p1 p2 p3 p4
  · obtain ⟨f0, f1, f2, f3, f4, f5, f6, f7, -, hσ⟩ := hJ
    obtain ⟨e0, e1, e2, e3, e4, e5, e6, e7, e8, -⟩ := hE'
    obtain ⟨t0, t1, -⟩ := hT'
    intro v hv
    subst hv
    cases v with
    | none => exact hs'.elim
    | some v1 =>
      obtain ⟨⟨i1, rfl, g1⟩, -⟩ := hs'
      exact k4 (x' 4) (x' 5) (x' 6) (x' 7) (x' 8) (x' 9) i1 f0 f1 f2 f3 f4 f5 f6 f7 e0 e1 e2 e3 e4 e5 e6 e7 e8 t0 t1 g1
  · obtain ⟨f0, f1, f2, f3, f4, f5, f6, f7, -, hσ⟩ := hJ
    obtain ⟨e0, e1, e2, e3, e4, e5, e6, e7, e8, -⟩ := hE'
    obtain ⟨t0, t1, -⟩ := hT'
    obtain ⟨p0, p1, p2, p3, p4, -⟩ := hL'
    obtain rfl := sg_tn hs'
    exact k5 (x' 4) (x' 5) (x' 6) (x' 7) (x' 8) (x' 9) L' f0 f1 f2 f3 f4 f5 f6 f7 e0 e1 e2 e3 e4 e5 e6 e7 e8 t0 t1 p0 p1 p2 p3 p4
  · obtain ⟨f0, f1, f2, f3, f4, f5, f6, f7, -, hσ⟩ := hJ
    obtain ⟨e0, e1, e2, e3, e4, e5, e6, e7, e8, -⟩ := hE'
    obtain ⟨t0, t1, -⟩ := hT'
    intro v hv
    subst hv
    cases v with
    | none => exact hs'.elim
    | some v1 =>
      obtain ⟨⟨i1, rfl, g1⟩, -⟩ := hs'
      exact k6 (x' 4) (x' 5) (x' 6) (x' 7) (x' 8) (x' 9) i1 f0 f1 f2 f3 f4 f5 f6 f7 e0 e1 e2 e3 e4 e5 e6 e7 e8 t0 t1 g1
  · obtain ⟨f0, f1, f2, f3, f4, f5, f6, f7, -, hσ⟩ := hJ
    obtain ⟨e0, e1, e2, e3, e4, e5, e6, e7, e8, -⟩ := hE'
    obtain ⟨t0, t1, -⟩ := hT'
    obtain ⟨p0, p1, p2, p3, p4, -⟩ := hL'
    obtain rfl := sg_tn hs'
    exact k7 (x' 4) (x' 5) (x' 6) (x' 7) (x' 8) (x' 9) L' f0 f1 f2 f3 f4 f5 f6 f7 e0 e1 e2 e3 e4 e5 e6 e7 e8 t0 t1 p0 p1 p2 p3 p4
  · obtain ⟨f0, f1, f2, f3, f4, f5, f6, f7, -, hσ⟩ := hJ
    obtain ⟨e0, e1, e2, e3, e4, e5, e6, e7, e8, -⟩ := hE'
    obtain ⟨t0, t1, -⟩ := hT'
    intro v hv
    subst hv
    cases v with
    | none => exact hs'.elim
    | some v1 =>
      obtain ⟨⟨i1, rfl, g1⟩, -⟩ := hs'
      exact k8 (x' 4) (x' 5) (x' 6) (x' 7) (x' 8) (x' 9) i1 f0 f1 f2 f3 f4 f5 f6 f7 e0 e1 e2 e3 e4 e5 e6 e7 e8 t0 t1 g1
def sg_sa_a_Z : List sg_z := [(6, [(0, .inr (.inl [40])), (1, .inr (.inl [6])), (2, .inl (false, (1, .ofNat 1, .ofNat 0))), (3, .inl (false, (0, .ofNat 0, .ofNat 0))), (4, .inl (false, (0, .ofNat 0, .ofNat 0)))], [], [], [(1, [(.ofNat 0, .ofNat 1003700)])], [], [])]
set_option maxRecDepth 1000000 in
theorem sg_sa_a_g : sg_go [] [5] 3000 52 0 0 2 [(0, [(.ofNat 0, .ofNat 0)]), (1, [(.ofNat 0, .ofNat 1003700)])] [] [] [] [(0, .inr (.inl [40])), (1, .inr (.inl [6])), (2, .inl (false, (1, .ofNat 1, .ofNat 0)))] [] [] sg_sa_a_Z = true := by decide +kernel
set_option maxRecDepth 100000 in
theorem sg_sa_a {Q : Option Value × am_S → Prop} {d : Nat} {S : am_S} {L : am_L} {x1 : Int} (hd : 0 ≤ d) (hP : ax_P0 none S) (l0 : lc L 0 40) (l1 : lc L 1 6) (l2 : li L 2 x1) (b1 : (0 ≤ x1 ∧ x1 ≤ 1003700))
    (k0 : ∀ (L' : am_L), (0 ≤ x1 ∧ x1 ≤ 1003700) → lc L' 0 40 → lc L' 1 6 → li L' 2 x1 → li L' 3 0 → li L' 4 0 → am_V none d 52 5 L' ([]) S Q) : am_V none d 52 0 L ([]) S Q := by
  refine sg_use sg_sa_a_g hd hP (sg_xs [0, x1]) ⟨⟨Int.le_refl 0, Int.le_refl 0⟩, b1, trivial⟩ trivial trivial trivial ⟨l0, l1, l2, trivial⟩ trivial ?_
  intro z hz x' L' st' S' hx hP' hW hL' hs' hJ hE' hT' hD'
  have q1 : x' 1 = x1 := hx 1 (by decide)
  subst q1
  have eS : S' = S := hW.1 rfl
  subst eS
  simp only [sg_sa_a_Z, List.mem_cons, List.not_mem_nil, or_false] at hz
  rcases hz with rfl
  · have hσ := hJ
    obtain ⟨e0, -⟩ := hE'
    obtain ⟨p0, p1, p2, p3, p4, -⟩ := hL'
    obtain rfl := sg_tn hs'
    exact k0 L' e0 p0 p1 p2 p3 p4
def sg_sa_b_Z : List sg_z := [(0, [], [.inl (false, (2, .ofNat 1, .ofNat 0))], [(2, 3, (3, .ofNat 1, .ofNat 0), (4, .ofNat 1, .ofNat 0), (0, .ofNat 0, .ofNat 0)), (0, 6, (0, .ofNat 0, .ofNat 0), (4, .ofNat 1, .ofNat 0), (0, .ofNat 0, .ofNat 0))], [(1, [(.ofNat 0, .ofNat 1003700)]), (2, [(.ofNat 0, .ofNat 16)]), (3, [(.ofNat 0, .ofNat 16)]), (4, [(.ofNat 0, .ofNat 16)])], [], []),
  (30, [(0, .inr (.inl [40])), (1, .inr (.inl [6])), (2, .inl (false, (1, .ofNat 1, .ofNat 0))), (3, .inl (false, (2, .ofNat 1, .ofNat 0))), (4, .inl (false, (3, .ofNat 1, .ofNat 0)))], [.inl (false, (1, .ofNat 1, .ofNat 0)), .inl (false, (3, .ofNat 1, .ofNat 0)), .inr (.inl [6]), .inr (.inl [40]), .inl (false, (2, .ofNat 1, .ofNat 0))], [(2, 0, (0, .ofNat 0, .ofNat 0), (0, .ofNat 0, .ofNat 0), (0, .ofNat 0, .ofNat 0)), (2, 0, (5, .ofNat 1, .ofNat 0), (0, .ofNat 0, .negSucc 3), (0, .ofNat 0, .ofNat 0)), (0, 11, (3, .ofNat 1, .ofNat 0), (5, .ofNat 1, .ofNat 0), (0, .ofNat 0, .ofNat 0)), (2, 2, (3, .ofNat 1, .ofNat 0), (4, .ofNat 1, .ofNat 0), (0, .ofNat 0, .ofNat 0)), (0, 6, (0, .ofNat 0, .ofNat 0), (4, .ofNat 1, .ofNat 0), (0, .ofNat 0, .ofNat 0))], [(1, [(.ofNat 0, .ofNat 1003700)]), (2, [(.ofNat 0, .ofNat 16)]), (3, [(.ofNat 0, .ofNat 15)]), (4, [(.ofNat 1, .ofNat 16)]), (5, [(.negSucc 3, .negSucc 3)])], [], []),
  (6, [(0, .inr (.inl [40])), (1, .inr (.inl [6])), (2, .inl (false, (1, .ofNat 1, .ofNat 0))), (3, .inl (false, (2, .ofNat 1, .ofNat 0))), (4, .inl (false, (3, .ofNat 1, .ofNat 1)))], [], [(2, 1, (0, .ofNat 0, .ofNat 1), (0, .ofNat 0, .ofNat 0), (0, .ofNat 0, .ofNat 0)), (2, 1, (5, .ofNat 1, .ofNat 0), (0, .ofNat 0, .negSucc 3), (0, .ofNat 0, .ofNat 0)), (0, 11, (3, .ofNat 1, .ofNat 0), (5, .ofNat 1, .ofNat 0), (0, .ofNat 0, .ofNat 0)), (2, 2, (3, .ofNat 1, .ofNat 0), (4, .ofNat 1, .ofNat 0), (0, .ofNat 0, .ofNat 0)), (0, 6, (0, .ofNat 0, .ofNat 0), (4, .ofNat 1, .ofNat 0), (0, .ofNat 0, .ofNat 0))], [(1, [(.ofNat 0, .ofNat 1003700)]), (2, [(.ofNat 0, .ofNat 16)]), (3, [(.ofNat 0, .ofNat 15)]), (4, [(.ofNat 1, .ofNat 16)]), (5, [(.ofNat 0, .ofNat 7)])], [], [])]
set_option maxRecDepth 1000000 in
theorem sg_sa_b_g : sg_go [] [5, 29] 3000 52 5 1 4 [(0, [(.ofNat 0, .ofNat 0)]), (1, [(.ofNat 0, .ofNat 1003700)]), (2, [(.ofNat 0, .ofNat 16)]), (3, [(.ofNat 0, .ofNat 16)])] [] [] [] [(0, .inr (.inl [40])), (1, .inr (.inl [6])), (2, .inl (false, (1, .ofNat 1, .ofNat 0))), (3, .inl (false, (2, .ofNat 1, .ofNat 0))), (4, .inl (false, (3, .ofNat 1, .ofNat 0)))] [] [] sg_sa_b_Z = true := by decide +kernel
set_option maxRecDepth 100000 in
theorem sg_sa_b {Q : Option Value × am_S → Prop} {d : Nat} {S : am_S} {L : am_L} {x1 x2 x3 : Int} (hd : 1 ≤ d) (hP : ax_P0 none S) (l0 : lc L 0 40) (l1 : lc L 1 6) (l2 : li L 2 x1) (l3 : li L 3 x2) (l4 : li L 4 x3) (b1 : (0 ≤ x1 ∧ x1 ≤ 1003700)) (b2 : (0 ≤ x2 ∧ x2 ≤ 16)) (b3 : (0 ≤ x3 ∧ x3 ≤ 16))
    (k0 : ∀ (x4 : Int) (i1 : Int32), rd S 6 0 = x4 → x4 ≤ x3 → (0 ≤ x1 ∧ x1 ≤ 1003700) → (0 ≤ x2 ∧ x2 ≤ 16) → (0 ≤ x3 ∧ x3 ≤ 16) → (0 ≤ x4 ∧ x4 ≤ 16) → i1.toInt = x2 → Q (some (.int i1), S))
    (k1 : ∀ (x4 x5 : Int) (L' : am_L) (i1 : Int32) (i2 : Int32) (i5 : Int32), rd S 6 0 = x4 → x3 < x4 → rd S 11 x3 = x5 → x5 = (-4) → (0 ≤ x1 ∧ x1 ≤ 1003700) → (0 ≤ x2 ∧ x2 ≤ 16) → (0 ≤ x3 ∧ x3 ≤ 15) → (1 ≤ x4 ∧ x4 ≤ 16) → ((-4) ≤ x5 ∧ x5 ≤ (-4)) → lc L' 0 40 → lc L' 1 6 → li L' 2 x1 → li L' 3 x2 → li L' 4 x3 → i1.toInt = x1 → i2.toInt = x3 → i5.toInt = x2 → am_V none d 52 29 L' ((.int i1) :: (.int i2) :: (.ref 6) :: (.ref 40) :: (.int i5) :: []) S Q)
    (k2 : ∀ (x4 x5 : Int) (L' : am_L), rd S 6 0 = x4 → x3 < x4 → rd S 11 x3 = x5 → x5 ≠ (-4) → (0 ≤ x1 ∧ x1 ≤ 1003700) → (0 ≤ x2 ∧ x2 ≤ 16) → (0 ≤ x3 ∧ x3 ≤ 15) → (1 ≤ x4 ∧ x4 ≤ 16) → (0 ≤ x5 ∧ x5 ≤ 7) → lc L' 0 40 → lc L' 1 6 → li L' 2 x1 → li L' 3 x2 → li L' 4 (x3 + 1) → am_V none d 52 5 L' ([]) S Q) : am_V none d 52 5 L ([]) S Q := by
  refine sg_use sg_sa_b_g hd hP (sg_xs [0, x1, x2, x3]) ⟨⟨Int.le_refl 0, Int.le_refl 0⟩, b1, b2, b3, trivial⟩ trivial trivial trivial ⟨l0, l1, l2, l3, l4, trivial⟩ trivial ?_
  intro z hz x' L' st' S' hx hP' hW hL' hs' hJ hE' hT' hD'
  have q1 : x' 1 = x1 := hx 1 (by decide)
  subst q1
  have q2 : x' 2 = x2 := hx 2 (by decide)
  subst q2
  have q3 : x' 3 = x3 := hx 3 (by decide)
  subst q3
  have eS : S' = S := hW.1 rfl
  subst eS
  simp only [sg_sa_b_Z, List.mem_cons, List.not_mem_nil, or_false] at hz
  rcases hz with rfl | rfl | rfl
  · obtain ⟨f0, f1, hσ⟩ := hJ
    obtain ⟨e0, e1, e2, e3, -⟩ := hE'
    intro v hv
    subst hv
    cases v with
    | none => exact hs'.elim
    | some v1 =>
      obtain ⟨⟨i1, rfl, g1⟩, -⟩ := hs'
      exact k0 (x' 4) i1 f0 f1 e0 e1 e2 e3 g1
  · obtain ⟨f0, f1, f2, f3, -, hσ⟩ := hJ
    obtain ⟨e0, e1, e2, e3, e4, -⟩ := hE'
    obtain ⟨p0, p1, p2, p3, p4, -⟩ := hL'
    obtain ⟨v1, r1, rfl, ⟨i1, rfl, g1⟩, hs1⟩ := sg_tc hs'
    obtain ⟨v2, r2, rfl, ⟨i2, rfl, g2⟩, hs2⟩ := sg_tc hs1
    obtain ⟨v3, r3, rfl, rfl, hs3⟩ := sg_tc hs2
    obtain ⟨v4, r4, rfl, rfl, hs4⟩ := sg_tc hs3
    obtain ⟨v5, r5, rfl, ⟨i5, rfl, g5⟩, hs5⟩ := sg_tc hs4
    obtain rfl := sg_tn hs5
    exact k1 (x' 4) (x' 5) L' i1 i2 i5 f0 f1 f2 f3 e0 e1 e2 e3 e4 p0 p1 p2 p3 p4 g1 g2 g5
  · obtain ⟨f0, f1, f2, f3, -, hσ⟩ := hJ
    obtain ⟨e0, e1, e2, e3, e4, -⟩ := hE'
    obtain ⟨p0, p1, p2, p3, p4, -⟩ := hL'
    obtain rfl := sg_tn hs'
    exact k2 (x' 4) (x' 5) L' f0 f1 f2 f3 e0 e1 e2 e3 e4 p0 p1 p2 p3 p4
def sg_sa_c_Z : List sg_z := [(6, [(0, .inr (.inl [40])), (1, .inr (.inl [6])), (2, .inl (false, (1, .ofNat 1, .ofNat 0))), (3, .inl (false, (4, .ofNat 1, .ofNat 0))), (4, .inl (false, (2, .ofNat 1, .ofNat 1)))], [], [(2, 0, (3, .ofNat 1, .ofNat 0), (0, .ofNat 0, .ofNat 0), (0, .ofNat 0, .ofNat 0))], [(1, [(.ofNat 0, .ofNat 1003700)]), (2, [(.ofNat 0, .ofNat 15)]), (3, [(.ofNat 0, .ofNat 0)]), (4, [(.ofNat 0, .ofNat 16)])], [], []),
  (6, [(0, .inr (.inl [40])), (1, .inr (.inl [6])), (2, .inl (false, (1, .ofNat 1, .ofNat 0))), (3, .inl (false, (4, .ofNat 1, .ofNat 1))), (4, .inl (false, (2, .ofNat 1, .ofNat 1)))], [], [(2, 1, (3, .ofNat 1, .ofNat 0), (0, .ofNat 0, .ofNat 0), (0, .ofNat 0, .ofNat 0))], [(1, [(.ofNat 0, .ofNat 1003700)]), (2, [(.ofNat 0, .ofNat 15)]), (3, [(.ofNat 1, .ofNat 1)]), (4, [(.ofNat 0, .ofNat 16)])], [], [])]
set_option maxRecDepth 1000000 in
theorem sg_sa_c_g : sg_go [] [5] 3000 52 32 0 5 [(0, [(.ofNat 0, .ofNat 0)]), (1, [(.ofNat 0, .ofNat 1003700)]), (2, [(.ofNat 0, .ofNat 15)]), (3, [(.ofNat 0, .ofNat 1)]), (4, [(.ofNat 0, .ofNat 16)])] [] [] [] [(0, .inr (.inl [40])), (1, .inr (.inl [6])), (2, .inl (false, (1, .ofNat 1, .ofNat 0))), (4, .inl (false, (2, .ofNat 1, .ofNat 0)))] [.inl (false, (3, .ofNat 1, .ofNat 0)), .inl (false, (4, .ofNat 1, .ofNat 0))] [] sg_sa_c_Z = true := by decide +kernel
set_option maxRecDepth 100000 in
theorem sg_sa_c {Q : Option Value × am_S → Prop} {d : Nat} {S : am_S} {L : am_L} {x1 x2 x3 x4 : Int} {i1 : Int32} {i2 : Int32} (hd : 0 ≤ d) (hP : ax_P0 none S) (l0 : lc L 0 40) (l1 : lc L 1 6) (l2 : li L 2 x1) (l4 : li L 4 x2) (b1 : (0 ≤ x1 ∧ x1 ≤ 1003700)) (b2 : (0 ≤ x2 ∧ x2 ≤ 15)) (b3 : (0 ≤ x3 ∧ x3 ≤ 1)) (b4 : (0 ≤ x4 ∧ x4 ≤ 16)) (s1 : i1.toInt = x3) (s2 : i2.toInt = x4)
    (k0 : ∀ (L' : am_L), x3 = 0 → (0 ≤ x1 ∧ x1 ≤ 1003700) → (0 ≤ x2 ∧ x2 ≤ 15) → (0 ≤ x3 ∧ x3 ≤ 0) → (0 ≤ x4 ∧ x4 ≤ 16) → lc L' 0 40 → lc L' 1 6 → li L' 2 x1 → li L' 3 x4 → li L' 4 (x2 + 1) → am_V none d 52 5 L' ([]) S Q)
    (k1 : ∀ (L' : am_L), x3 ≠ 0 → (0 ≤ x1 ∧ x1 ≤ 1003700) → (0 ≤ x2 ∧ x2 ≤ 15) → (1 ≤ x3 ∧ x3 ≤ 1) → (0 ≤ x4 ∧ x4 ≤ 16) → lc L' 0 40 → lc L' 1 6 → li L' 2 x1 → li L' 3 (x4 + 1) → li L' 4 (x2 + 1) → am_V none d 52 5 L' ([]) S Q) : am_V none d 52 32 L ((.int i1) :: (.int i2) :: []) S Q := by
  refine sg_use sg_sa_c_g hd hP (sg_xs [0, x1, x2, x3, x4]) ⟨⟨Int.le_refl 0, Int.le_refl 0⟩, b1, b2, b3, b4, trivial⟩ trivial trivial trivial ⟨l0, l1, l2, l4, trivial⟩ ⟨⟨_, rfl, s1⟩, ⟨_, rfl, s2⟩, trivial⟩ ?_
  intro z hz x' L' st' S' hx hP' hW hL' hs' hJ hE' hT' hD'
  have q1 : x' 1 = x1 := hx 1 (by decide)
  subst q1
  have q2 : x' 2 = x2 := hx 2 (by decide)
  subst q2
  have q3 : x' 3 = x3 := hx 3 (by decide)
  subst q3
  have q4 : x' 4 = x4 := hx 4 (by decide)
  subst q4
  have eS : S' = S := hW.1 rfl
  subst eS
  simp only [sg_sa_c_Z, List.mem_cons, List.not_mem_nil, or_false] at hz
  rcases hz with rfl | rfl
  · obtain ⟨f0, hσ⟩ := hJ
    obtain ⟨e0, e1, e2, e3, -⟩ := hE'
    obtain ⟨p0, p1, p2, p3, p4, -⟩ := hL'
    obtain rfl := sg_tn hs'
    exact k0 L' f0 e0 e1 e2 e3 p0 p1 p2 p3 p4
  · obtain ⟨f0, hσ⟩ := hJ
    obtain ⟨e0, e1, e2, e3, -⟩ := hE'
    obtain ⟨p0, p1, p2, p3, p4, -⟩ := hL'
    obtain rfl := sg_tn hs'
    exact k1 L' f0 e0 e1 e2 e3 p0 p1 p2 p3 p4
def sg_th_a_Z : List sg_z := [(0, [], [], [(2, 0, (0, .ofNat 0, .ofNat 0), (0, .ofNat 0, .ofNat 0), (0, .ofNat 0, .ofNat 0)), (2, 2, (1, .ofNat 1, .ofNat 0), (0, .ofNat 0, .ofNat 0), (0, .ofNat 0, .ofNat 0))], [(1, [(.negSucc 999999, .negSucc 0)])], [], []),
  (0, [], [], [(2, 0, (0, .ofNat 0, .ofNat 0), (0, .ofNat 0, .ofNat 0), (0, .ofNat 0, .ofNat 0)), (2, 4, (1, .ofNat 1, .ofNat 0), (0, .ofNat 0, .ofNat 1000000), (0, .ofNat 0, .ofNat 0)), (2, 3, (1, .ofNat 1, .ofNat 0), (0, .ofNat 0, .ofNat 0), (0, .ofNat 0, .ofNat 0))], [(1, [(.ofNat 1000001, .ofNat 2000000)])], [], []),
  (12, [(0, .inr (.inl [40])), (1, .inr (.inl [6])), (2, .inl (false, (1, .ofNat 1, .ofNat 0)))], [.inl (false, (1, .ofNat 1, .ofNat 0)), .inr (.inl [6]), .inr (.inl [40])], [(2, 1, (0, .ofNat 0, .ofNat 1), (0, .ofNat 0, .ofNat 0), (0, .ofNat 0, .ofNat 0)), (2, 5, (1, .ofNat 1, .ofNat 0), (0, .ofNat 0, .ofNat 1000000), (0, .ofNat 0, .ofNat 0)), (2, 3, (1, .ofNat 1, .ofNat 0), (0, .ofNat 0, .ofNat 0), (0, .ofNat 0, .ofNat 0))], [(1, [(.ofNat 0, .ofNat 1000000)])], [], [])]
set_option maxRecDepth 1000000 in
theorem sg_th_a_g : sg_go [] [11] 3000 55 0 1 2 [(0, [(.ofNat 0, .ofNat 0)]), (1, [(.negSucc 999999, .ofNat 2000000)])] [] [] [] [(0, .inr (.inl [40])), (1, .inr (.inl [6])), (2, .inl (false, (1, .ofNat 1, .ofNat 0)))] [] [] sg_th_a_Z = true := by decide +kernel
set_option maxRecDepth 100000 in
theorem sg_th_a {Q : Option Value × am_S → Prop} {d : Nat} {S : am_S} {L : am_L} {x1 : Int} (hd : 1 ≤ d) (hP : ax_P0 none S) (l0 : lc L 0 40) (l1 : lc L 1 6) (l2 : li L 2 x1) (b1 : ((-1000000) ≤ x1 ∧ x1 ≤ 2000000))
    (k0 : x1 < 0 → ((-1000000) ≤ x1 ∧ x1 ≤ (-1)) → Q (none, S))
    (k1 : 0 ≤ x1 → 1000000 < x1 → (1000001 ≤ x1 ∧ x1 ≤ 2000000) → Q (none, S))
    (k2 : ∀ (L' : am_L) (i1 : Int32), 0 ≤ x1 → x1 ≤ 1000000 → (0 ≤ x1 ∧ x1 ≤ 1000000) → lc L' 0 40 → lc L' 1 6 → li L' 2 x1 → i1.toInt = x1 → am_V none d 55 11 L' ((.int i1) :: (.ref 6) :: (.ref 40) :: []) S Q) : am_V none d 55 0 L ([]) S Q := by
  refine sg_use sg_th_a_g hd hP (sg_xs [0, x1]) ⟨⟨Int.le_refl 0, Int.le_refl 0⟩, b1, trivial⟩ trivial trivial trivial ⟨l0, l1, l2, trivial⟩ trivial ?_
  intro z hz x' L' st' S' hx hP' hW hL' hs' hJ hE' hT' hD'
  have q1 : x' 1 = x1 := hx 1 (by decide)
  subst q1
  have eS : S' = S := hW.1 rfl
  subst eS
  simp only [sg_th_a_Z, List.mem_cons, List.not_mem_nil, or_false] at hz
  rcases hz with rfl | rfl | rfl
  · obtain ⟨f0, -, hσ⟩ := hJ
    obtain ⟨e0, -⟩ := hE'
    intro v hv
    subst hv
    cases v with
    | some _ => exact hs'.elim
    | none =>
      exact k0 f0 e0
  · obtain ⟨f0, f1, -, hσ⟩ := hJ
    obtain ⟨e0, -⟩ := hE'
    intro v hv
    subst hv
    cases v with
    | some _ => exact hs'.elim
    | none =>
      exact k1 f0 f1 e0
  · obtain ⟨f0, f1, -, hσ⟩ := hJ
    obtain ⟨e0, -⟩ := hE'
    obtain ⟨p0, p1, p2, -⟩ := hL'
    obtain ⟨v1, r1, rfl, ⟨i1, rfl, g1⟩, hs1⟩ := sg_tc hs'
    obtain ⟨v2, r2, rfl, rfl, hs2⟩ := sg_tc hs1
    obtain ⟨v3, r3, rfl, rfl, hs3⟩ := sg_tc hs2
    obtain rfl := sg_tn hs3
    exact k2 L' i1 f0 f1 e0 p0 p1 p2 g1
def sg_th_b_Z : List sg_z := [(0, [], [], [(1, 40, (0, .ofNat 0, .ofNat 3), (2, .ofNat 1, .ofNat 0), (0, .ofNat 0, .ofNat 0)), (1, 40, (0, .ofNat 0, .ofNat 2), (1, .ofNat 1, .ofNat 0), (0, .ofNat 0, .ofNat 0)), (2, 4, (2, .ofNat 1, .ofNat 0), (3, .ofNat 1, .ofNat 0), (0, .ofNat 0, .ofNat 0)), (0, 40, (0, .ofNat 0, .ofNat 3), (3, .ofNat 1, .ofNat 0), (0, .ofNat 0, .ofNat 0))], [(1, [(.ofNat 0, .ofNat 1000000)]), (2, [(.ofNat 0, .ofNat 16)]), (3, [(.negSucc 2147483647, .ofNat 15)])], [], []),
  (0, [], [], [(2, 1, (2, .ofNat 1, .ofNat 0), (3, .ofNat 1, .ofNat 0), (0, .ofNat 0, .ofNat 0)), (0, 40, (0, .ofNat 0, .ofNat 3), (3, .ofNat 1, .ofNat 0), (0, .ofNat 0, .ofNat 0)), (2, 5, (2, .ofNat 1, .ofNat 0), (3, .ofNat 1, .ofNat 0), (0, .ofNat 0, .ofNat 0)), (0, 40, (0, .ofNat 0, .ofNat 3), (3, .ofNat 1, .ofNat 0), (0, .ofNat 0, .ofNat 0))], [(1, [(.ofNat 0, .ofNat 1000000)]), (2, [(.ofNat 0, .ofNat 16)]), (3, [(.ofNat 0, .ofNat 2147483647)])], [], []),
  (0, [], [], [(2, 3, (1, .ofNat 1, .ofNat 0), (4, .ofNat 1, .ofNat 0), (0, .ofNat 0, .ofNat 0)), (0, 40, (0, .ofNat 0, .ofNat 2), (4, .ofNat 1, .ofNat 0), (0, .ofNat 0, .ofNat 0)), (2, 0, (2, .ofNat 1, .ofNat 0), (3, .ofNat 1, .ofNat 0), (0, .ofNat 0, .ofNat 0)), (0, 40, (0, .ofNat 0, .ofNat 3), (3, .ofNat 1, .ofNat 0), (0, .ofNat 0, .ofNat 0)), (2, 5, (2, .ofNat 1, .ofNat 0), (3, .ofNat 1, .ofNat 0), (0, .ofNat 0, .ofNat 0)), (0, 40, (0, .ofNat 0, .ofNat 3), (3, .ofNat 1, .ofNat 0), (0, .ofNat 0, .ofNat 0))], [(1, [(.ofNat 0, .ofNat 1000000)]), (2, [(.ofNat 0, .ofNat 16)]), (3, [(.ofNat 0, .ofNat 16)]), (4, [(.negSucc 3, .negSucc 3), (.ofNat 0, .ofNat 1000000)])], [], []),
  (0, [], [], [(1, 40, (0, .ofNat 0, .ofNat 3), (2, .ofNat 1, .ofNat 0), (0, .ofNat 0, .ofNat 0)), (1, 40, (0, .ofNat 0, .ofNat 2), (1, .ofNat 1, .ofNat 0), (0, .ofNat 0, .ofNat 0)), (2, 2, (1, .ofNat 1, .ofNat 0), (4, .ofNat 1, .ofNat 0), (0, .ofNat 0, .ofNat 0)), (0, 40, (0, .ofNat 0, .ofNat 2), (4, .ofNat 1, .ofNat 0), (0, .ofNat 0, .ofNat 0)), (2, 0, (2, .ofNat 1, .ofNat 0), (3, .ofNat 1, .ofNat 0), (0, .ofNat 0, .ofNat 0)), (0, 40, (0, .ofNat 0, .ofNat 3), (3, .ofNat 1, .ofNat 0), (0, .ofNat 0, .ofNat 0)), (2, 5, (2, .ofNat 1, .ofNat 0), (3, .ofNat 1, .ofNat 0), (0, .ofNat 0, .ofNat 0)), (0, 40, (0, .ofNat 0, .ofNat 3), (3, .ofNat 1, .ofNat 0), (0, .ofNat 0, .ofNat 0))], [(1, [(.ofNat 0, .ofNat 999999)]), (2, [(.ofNat 0, .ofNat 16)]), (3, [(.ofNat 0, .ofNat 16)]), (4, [(.ofNat 1, .ofNat 1000000)])], [], [])]
set_option maxRecDepth 1000000 in
theorem sg_th_b_g : sg_go [] [] 3000 55 14 0 3 [(0, [(.ofNat 0, .ofNat 0)]), (1, [(.ofNat 0, .ofNat 1000000)]), (2, [(.ofNat 0, .ofNat 16)])] [] [] [] [(0, .inr (.inl [40])), (1, .inr (.inl [6])), (2, .inl (false, (1, .ofNat 1, .ofNat 0)))] [.inl (false, (2, .ofNat 1, .ofNat 0))] [(40, some 2), (40, some 3)] sg_th_b_Z = true := by decide +kernel
set_option maxRecDepth 100000 in
theorem sg_th_b {Q : Option Value × am_S → Prop} {d : Nat} {S : am_S} {L : am_L} {x1 x2 : Int} {i1 : Int32} (hd : 0 ≤ d) (hP : ax_P0 none S) (l0 : lc L 0 40) (l1 : lc L 1 6) (l2 : li L 2 x1) (b1 : (0 ≤ x1 ∧ x1 ≤ 1000000)) (b2 : (0 ≤ x2 ∧ x2 ≤ 16)) (s1 : i1.toInt = x2)
    (k0 : ∀ (x3 : Int) (S' : am_S), ax_P0 none S' → rd S' = sg_up (sg_up (rd S) 40 2 x1) 40 3 x2 → rd S 40 3 = x3 → x3 < x2 → (0 ≤ x1 ∧ x1 ≤ 1000000) → (0 ≤ x2 ∧ x2 ≤ 16) → ((-2147483648) ≤ x3 ∧ x3 ≤ 15) → Q (none, S'))
    (k1 : ∀ (x3 : Int) (S' : am_S), ax_P0 none S' → rd S' = rd S → rd S 40 3 = x3 → x2 ≤ x3 → x2 ≠ x3 → (0 ≤ x1 ∧ x1 ≤ 1000000) → (0 ≤ x2 ∧ x2 ≤ 16) → (0 ≤ x3 ∧ x3 ≤ 2147483647) → Q (none, S'))
    (k2 : ∀ (x3 x4 : Int) (S' : am_S), ax_P0 none S' → rd S' = rd S → rd S 40 3 = x3 → x2 ≤ x3 → x2 = x3 → rd S 40 2 = x4 → x4 ≤ x1 → (0 ≤ x1 ∧ x1 ≤ 1000000) → (0 ≤ x2 ∧ x2 ≤ 16) → (0 ≤ x3 ∧ x3 ≤ 16) → ((-4) ≤ x4 ∧ x4 ≤ (-4)) ∨ (0 ≤ x4 ∧ x4 ≤ 1000000) → Q (none, S'))
    (k3 : ∀ (x3 x4 : Int) (S' : am_S), ax_P0 none S' → rd S' = sg_up (sg_up (rd S) 40 2 x1) 40 3 x2 → rd S 40 3 = x3 → x2 ≤ x3 → x2 = x3 → rd S 40 2 = x4 → x1 < x4 → (0 ≤ x1 ∧ x1 ≤ 999999) → (0 ≤ x2 ∧ x2 ≤ 16) → (0 ≤ x3 ∧ x3 ≤ 16) → (1 ≤ x4 ∧ x4 ≤ 1000000) → Q (none, S')) : am_V none d 55 14 L ((.int i1) :: []) S Q := by
  refine sg_use sg_th_b_g hd hP (sg_xs [0, x1, x2]) ⟨⟨Int.le_refl 0, Int.le_refl 0⟩, b1, b2, trivial⟩ trivial trivial trivial ⟨l0, l1, l2, trivial⟩ ⟨⟨_, rfl, s1⟩, trivial⟩ ?_
  intro z hz x' L' st' S' hx hP' hW hL' hs' hJ hE' hT' hD'
  have q1 : x' 1 = x1 := hx 1 (by decide)
  subst q1
  have q2 : x' 2 = x2 := hx 2 (by decide)
  subst q2
  simp only [sg_th_b_Z, List.mem_cons, List.not_mem_nil, or_false] at hz
  rcases hz with rfl | rfl | rfl | rfl
  · obtain ⟨f0, f1, hσ⟩ := hJ
    obtain ⟨e0, e1, e2, -⟩ := hE'
    intro v hv
    subst hv
    cases v with
    | some _ => exact hs'.elim
    | none =>
      exact k0 (x' 3) S' hP' hσ f0 f1 e0 e1 e2
  · obtain ⟨f0, f1, -, f3, hσ⟩ := hJ
    obtain ⟨e0, e1, e2, -⟩ := hE'
    intro v hv
    subst hv
    cases v with
    | some _ => exact hs'.elim
    | none =>
      exact k1 (x' 3) S' hP' hσ f0 f1 f3 e0 e1 e2
  · obtain ⟨f0, f1, -, f3, f4, f5, hσ⟩ := hJ
    obtain ⟨e0, e1, e2, e3, -⟩ := hE'
    intro v hv
    subst hv
    cases v with
    | some _ => exact hs'.elim
    | none =>
      exact k2 (x' 3) (x' 4) S' hP' hσ f0 f1 f3 f4 f5 e0 e1 e2 e3
  · obtain ⟨f0, f1, -, f3, f4, f5, hσ⟩ := hJ
    obtain ⟨e0, e1, e2, e3, -⟩ := hE'
    intro v hv
    subst hv
    cases v with
    | some _ => exact hs'.elim
    | none =>
      exact k3 (x' 3) (x' 4) S' hP' hσ f0 f1 f3 f4 f5 e0 e1 e2 e3
def sg_sk_a_Z : List sg_z := [(14, [(0, .inr (.inl [40])), (1, .inr (.inl [6])), (2, .inl (false, (0, .ofNat 0, .ofNat 0)))], [], [(1, 40, (0, .ofNat 0, .ofNat 3), (0, .ofNat 0, .ofNat 0), (0, .ofNat 0, .ofNat 0)), (1, 40, (0, .ofNat 0, .ofNat 2), (0, .ofNat 0, .negSucc 3), (0, .ofNat 0, .ofNat 0))], [], [], [])]
set_option maxRecDepth 1000000 in
theorem sg_sk_a_g : sg_go [] [13] 3000 54 0 0 1 [(0, [(.ofNat 0, .ofNat 0)])] [] [] [] [(0, .inr (.inl [40])), (1, .inr (.inl [6]))] [] [(40, some 2), (40, some 3)] sg_sk_a_Z = true := by decide +kernel
set_option maxRecDepth 100000 in
theorem sg_sk_a {Q : Option Value × am_S → Prop} {d : Nat} {S : am_S} {L : am_L} (hd : 0 ≤ d) (hP : ax_P0 none S) (l0 : lc L 0 40) (l1 : lc L 1 6)
    (k0 : ∀ (L' : am_L) (S' : am_S), ax_P0 none S' → rd S' = sg_up (sg_up (rd S) 40 2 (-4)) 40 3 0 → lc L' 0 40 → lc L' 1 6 → li L' 2 0 → am_V none d 54 13 L' ([]) S' Q) : am_V none d 54 0 L ([]) S Q := by
  refine sg_use sg_sk_a_g hd hP (sg_xs [0]) ⟨⟨Int.le_refl 0, Int.le_refl 0⟩, trivial⟩ trivial trivial trivial ⟨l0, l1, trivial⟩ trivial ?_
  intro z hz x' L' st' S' hx hP' hW hL' hs' hJ hE' hT' hD'
  simp only [sg_sk_a_Z, List.mem_cons, List.not_mem_nil, or_false] at hz
  rcases hz with rfl
  · have hσ := hJ
    obtain ⟨p0, p1, p2, -⟩ := hL'
    obtain rfl := sg_tn hs'
    exact k0 L' S' hP' hσ p0 p1 p2
def sg_sk_b_Z : List sg_z := [(0, [], [], [(2, 3, (1, .ofNat 1, .ofNat 0), (2, .ofNat 1, .ofNat 0), (0, .ofNat 0, .ofNat 0)), (0, 40, (0, .ofNat 0, .ofNat 1), (2, .ofNat 1, .ofNat 0), (0, .ofNat 0, .ofNat 0))], [(1, [(.ofNat 0, .ofNat 8)]), (2, [(.ofNat 0, .ofNat 8)])], [], []),
  (24, [(0, .inr (.inl [40])), (1, .inr (.inl [6])), (2, .inl (false, (1, .ofNat 1, .ofNat 0))), (3, .inl (false, (0, .ofNat 0, .ofNat 0)))], [], [(2, 2, (1, .ofNat 1, .ofNat 0), (2, .ofNat 1, .ofNat 0), (0, .ofNat 0, .ofNat 0)), (0, 40, (0, .ofNat 0, .ofNat 1), (2, .ofNat 1, .ofNat 0), (0, .ofNat 0, .ofNat 0))], [(1, [(.ofNat 0, .ofNat 7)]), (2, [(.ofNat 1, .ofNat 8)])], [], [])]
set_option maxRecDepth 1000000 in
theorem sg_sk_b_g : sg_go [] [23] 3000 54 13 0 2 [(0, [(.ofNat 0, .ofNat 0)]), (1, [(.ofNat 0, .ofNat 8)])] [] [] [] [(0, .inr (.inl [40])), (1, .inr (.inl [6])), (2, .inl (false, (1, .ofNat 1, .ofNat 0)))] [] [] sg_sk_b_Z = true := by decide +kernel
set_option maxRecDepth 100000 in
theorem sg_sk_b {Q : Option Value × am_S → Prop} {d : Nat} {S : am_S} {L : am_L} {x1 : Int} (hd : 0 ≤ d) (hP : ax_P0 none S) (l0 : lc L 0 40) (l1 : lc L 1 6) (l2 : li L 2 x1) (b1 : (0 ≤ x1 ∧ x1 ≤ 8))
    (k0 : ∀ (x2 : Int), rd S 40 1 = x2 → x2 ≤ x1 → (0 ≤ x1 ∧ x1 ≤ 8) → (0 ≤ x2 ∧ x2 ≤ 8) → Q (none, S))
    (k1 : ∀ (x2 : Int) (L' : am_L), rd S 40 1 = x2 → x1 < x2 → (0 ≤ x1 ∧ x1 ≤ 7) → (1 ≤ x2 ∧ x2 ≤ 8) → lc L' 0 40 → lc L' 1 6 → li L' 2 x1 → li L' 3 0 → am_V none d 54 23 L' ([]) S Q) : am_V none d 54 13 L ([]) S Q := by
  refine sg_use sg_sk_b_g hd hP (sg_xs [0, x1]) ⟨⟨Int.le_refl 0, Int.le_refl 0⟩, b1, trivial⟩ trivial trivial trivial ⟨l0, l1, l2, trivial⟩ trivial ?_
  intro z hz x' L' st' S' hx hP' hW hL' hs' hJ hE' hT' hD'
  have q1 : x' 1 = x1 := hx 1 (by decide)
  subst q1
  have eS : S' = S := hW.1 rfl
  subst eS
  simp only [sg_sk_b_Z, List.mem_cons, List.not_mem_nil, or_false] at hz
  rcases hz with rfl | rfl
  · obtain ⟨f0, f1, hσ⟩ := hJ
    obtain ⟨e0, e1, -⟩ := hE'
    intro v hv
    subst hv
    cases v with
    | some _ => exact hs'.elim
    | none =>
      exact k0 (x' 2) f0 f1 e0 e1
  · obtain ⟨f0, f1, hσ⟩ := hJ
    obtain ⟨e0, e1, -⟩ := hE'
    obtain ⟨p0, p1, p2, p3, -⟩ := hL'
    obtain rfl := sg_tn hs'
    exact k1 (x' 2) L' f0 f1 e0 e1 p0 p1 p2 p3
def sg_sk_c_Z : List sg_z := [(14, [(0, .inr (.inl [40])), (1, .inr (.inl [6])), (2, .inl (false, (1, .ofNat 1, .ofNat 1))), (3, .inl (false, (2, .ofNat 1, .ofNat 0)))], [], [(2, 3, (2, .ofNat 1, .ofNat 0), (3, .ofNat 1, .ofNat 0), (0, .ofNat 0, .ofNat 0)), (0, 6, (0, .ofNat 0, .ofNat 0), (3, .ofNat 1, .ofNat 0), (0, .ofNat 0, .ofNat 0))], [(1, [(.ofNat 0, .ofNat 7)]), (2, [(.ofNat 0, .ofNat 16)]), (3, [(.ofNat 0, .ofNat 16)])], [], []),
  (55, [(0, .inr (.inl [40])), (1, .inr (.inl [6])), (2, .inl (false, (1, .ofNat 1, .ofNat 0))), (3, .inl (false, (2, .ofNat 1, .ofNat 0)))], [.inl (false, (7, .ofNat 1, .ofNat 0)), .inr (.inl [6]), .inr (.inl [40])], [(0, 7, (2, .ofNat 1, .ofNat 0), (6, .ofNat 1, .ofNat 0), (0, .ofNat 0, .ofNat 0)), (0, 41, (1, .ofNat 1, .ofNat 0), (5, .ofNat 1, .ofNat 0), (0, .ofNat 0, .ofNat 0)), (2, 0, (0, .ofNat 0, .ofNat 0), (0, .ofNat 0, .ofNat 0), (0, .ofNat 0, .ofNat 0)), (2, 0, (4, .ofNat 1, .ofNat 0), (0, .ofNat 0, .negSucc 3), (0, .ofNat 0, .ofNat 0)), (0, 11, (2, .ofNat 1, .ofNat 0), (4, .ofNat 1, .ofNat 0), (0, .ofNat 0, .ofNat 0)), (2, 2, (2, .ofNat 1, .ofNat 0), (3, .ofNat 1, .ofNat 0), (0, .ofNat 0, .ofNat 0)), (0, 6, (0, .ofNat 0, .ofNat 0), (3, .ofNat 1, .ofNat 0), (0, .ofNat 0, .ofNat 0))], [(1, [(.ofNat 0, .ofNat 7)]), (2, [(.ofNat 0, .ofNat 15)]), (3, [(.ofNat 1, .ofNat 16)]), (4, [(.negSucc 3, .negSucc 3)]), (5, [(.ofNat 0, .ofNat 1000000)]), (6, [(.ofNat 0, .ofNat 1000000)]), (7, [(.negSucc 999999, .ofNat 1000000)])], [((5, .ofNat 1, .ofNat 0), (6, .negSucc 0, .ofNat 0), (7, .ofNat 1, .ofNat 0))], []),
  (24, [(0, .inr (.inl [40])), (1, .inr (.inl [6])), (2, .inl (false, (1, .ofNat 1, .ofNat 0))), (3, .inl (false, (2, .ofNat 1, .ofNat 1)))], [], [(2, 1, (0, .ofNat 0, .ofNat 1), (0, .ofNat 0, .ofNat 0), (0, .ofNat 0, .ofNat 0)), (2, 1, (4, .ofNat 1, .ofNat 0), (0, .ofNat 0, .negSucc 3), (0, .ofNat 0, .ofNat 0)), (0, 11, (2, .ofNat 1, .ofNat 0), (4, .ofNat 1, .ofNat 0), (0, .ofNat 0, .ofNat 0)), (2, 2, (2, .ofNat 1, .ofNat 0), (3, .ofNat 1, .ofNat 0), (0, .ofNat 0, .ofNat 0)), (0, 6, (0, .ofNat 0, .ofNat 0), (3, .ofNat 1, .ofNat 0), (0, .ofNat 0, .ofNat 0))], [(1, [(.ofNat 0, .ofNat 7)]), (2, [(.ofNat 0, .ofNat 15)]), (3, [(.ofNat 1, .ofNat 16)]), (4, [(.ofNat 0, .ofNat 7)])], [], [])]
set_option maxRecDepth 1000000 in
theorem sg_sk_c_g : sg_go [] [13, 23, 54] 3000 54 23 1 3 [(0, [(.ofNat 0, .ofNat 0)]), (1, [(.ofNat 0, .ofNat 7)]), (2, [(.ofNat 0, .ofNat 16)])] [] [] [] [(0, .inr (.inl [40])), (1, .inr (.inl [6])), (2, .inl (false, (1, .ofNat 1, .ofNat 0))), (3, .inl (false, (2, .ofNat 1, .ofNat 0)))] [] [] sg_sk_c_Z = true := by decide +kernel
set_option maxRecDepth 100000 in
theorem sg_sk_c {Q : Option Value × am_S → Prop} {d : Nat} {S : am_S} {L : am_L} {x1 x2 : Int} (hd : 1 ≤ d) (hP : ax_P0 none S) (l0 : lc L 0 40) (l1 : lc L 1 6) (l2 : li L 2 x1) (l3 : li L 3 x2) (b1 : (0 ≤ x1 ∧ x1 ≤ 7)) (b2 : (0 ≤ x2 ∧ x2 ≤ 16))
    (k0 : ∀ (x3 : Int) (L' : am_L), rd S 6 0 = x3 → x3 ≤ x2 → (0 ≤ x1 ∧ x1 ≤ 7) → (0 ≤ x2 ∧ x2 ≤ 16) → (0 ≤ x3 ∧ x3 ≤ 16) → lc L' 0 40 → lc L' 1 6 → li L' 2 (x1 + 1) → li L' 3 x2 → am_V none d 54 13 L' ([]) S Q)
    (k1 : ∀ (x3 x4 x5 x6 x7 : Int) (L' : am_L) (i1 : Int32), rd S 6 0 = x3 → x2 < x3 → rd S 11 x2 = x4 → x4 = (-4) → rd S 41 x1 = x5 → rd S 7 x2 = x6 → (0 ≤ x1 ∧ x1 ≤ 7) → (0 ≤ x2 ∧ x2 ≤ 15) → (1 ≤ x3 ∧ x3 ≤ 16) → ((-4) ≤ x4 ∧ x4 ≤ (-4)) → (0 ≤ x5 ∧ x5 ≤ 1000000) → (0 ≤ x6 ∧ x6 ≤ 1000000) → ((-1000000) ≤ x7 ∧ x7 ≤ 1000000) → x5 + ((-1) * x6 + 0) = x7 → lc L' 0 40 → lc L' 1 6 → li L' 2 x1 → li L' 3 x2 → i1.toInt = x7 → am_V none d 54 54 L' ((.int i1) :: (.ref 6) :: (.ref 40) :: []) S Q)
    (k2 : ∀ (x3 x4 : Int) (L' : am_L), rd S 6 0 = x3 → x2 < x3 → rd S 11 x2 = x4 → x4 ≠ (-4) → (0 ≤ x1 ∧ x1 ≤ 7) → (0 ≤ x2 ∧ x2 ≤ 15) → (1 ≤ x3 ∧ x3 ≤ 16) → (0 ≤ x4 ∧ x4 ≤ 7) → lc L' 0 40 → lc L' 1 6 → li L' 2 x1 → li L' 3 (x2 + 1) → am_V none d 54 23 L' ([]) S Q) : am_V none d 54 23 L ([]) S Q := by
  refine sg_use sg_sk_c_g hd hP (sg_xs [0, x1, x2]) ⟨⟨Int.le_refl 0, Int.le_refl 0⟩, b1, b2, trivial⟩ trivial trivial trivial ⟨l0, l1, l2, l3, trivial⟩ trivial ?_
  intro z hz x' L' st' S' hx hP' hW hL' hs' hJ hE' hT' hD'
  have q1 : x' 1 = x1 := hx 1 (by decide)
  subst q1
  have q2 : x' 2 = x2 := hx 2 (by decide)
  subst q2
  have eS : S' = S := hW.1 rfl
  subst eS
  simp only [sg_sk_c_Z, List.mem_cons, List.not_mem_nil, or_false] at hz
  rcases hz with rfl | rfl | rfl
  · obtain ⟨f0, f1, hσ⟩ := hJ
    obtain ⟨e0, e1, e2, -⟩ := hE'
    obtain ⟨p0, p1, p2, p3, -⟩ := hL'
    obtain rfl := sg_tn hs'
    exact k0 (x' 3) L' f0 f1 e0 e1 e2 p0 p1 p2 p3
  · obtain ⟨f0, f1, f2, f3, -, f5, f6, hσ⟩ := hJ
    obtain ⟨e0, e1, e2, e3, e4, e5, e6, -⟩ := hE'
    obtain ⟨t0, -⟩ := hT'
    obtain ⟨p0, p1, p2, p3, -⟩ := hL'
    obtain ⟨v1, r1, rfl, ⟨i1, rfl, g1⟩, hs1⟩ := sg_tc hs'
    obtain ⟨v2, r2, rfl, rfl, hs2⟩ := sg_tc hs1
    obtain ⟨v3, r3, rfl, rfl, hs3⟩ := sg_tc hs2
    obtain rfl := sg_tn hs3
    exact k1 (x' 3) (x' 4) (x' 5) (x' 6) (x' 7) L' i1 f0 f1 f2 f3 f5 f6 e0 e1 e2 e3 e4 e5 e6 t0 p0 p1 p2 p3 g1
  · obtain ⟨f0, f1, f2, f3, -, hσ⟩ := hJ
    obtain ⟨e0, e1, e2, e3, -⟩ := hE'
    obtain ⟨p0, p1, p2, p3, -⟩ := hL'
    obtain rfl := sg_tn hs'
    exact k2 (x' 3) (x' 4) L' f0 f1 f2 f3 e0 e1 e2 e3 p0 p1 p2 p3
def sg_sk_d_Z : List sg_z := [(73, [(0, .inr (.inl [40])), (1, .inr (.inl [6])), (2, .inl (false, (1, .ofNat 1, .ofNat 0))), (3, .inl (false, (2, .ofNat 1, .ofNat 0)))], [.inl (false, (5, .ofNat 1, .ofNat 0)), .inr (.inl [6]), .inr (.inl [40])], [(0, 7, (2, .ofNat 1, .ofNat 0), (4, .ofNat 1, .ofNat 0), (0, .ofNat 0, .ofNat 0)), (0, 41, (1, .ofNat 1, .ofNat 0), (3, .ofNat 1, .ofNat 0), (0, .ofNat 0, .ofNat 0))], [(1, [(.ofNat 0, .ofNat 7)]), (2, [(.ofNat 0, .ofNat 15)]), (3, [(.ofNat 0, .ofNat 1000000)]), (4, [(.ofNat 0, .ofNat 1000000)]), (5, [(.ofNat 0, .ofNat 2000000)])], [((3, .ofNat 1, .ofNat 0), (4, .ofNat 1, .ofNat 0), (5, .ofNat 1, .ofNat 0))], [])]
set_option maxRecDepth 1000000 in
theorem sg_sk_d_g : sg_go [] [72] 3000 54 57 0 3 [(0, [(.ofNat 0, .ofNat 0)]), (1, [(.ofNat 0, .ofNat 7)]), (2, [(.ofNat 0, .ofNat 15)])] [] [] [] [(0, .inr (.inl [40])), (1, .inr (.inl [6])), (2, .inl (false, (1, .ofNat 1, .ofNat 0))), (3, .inl (false, (2, .ofNat 1, .ofNat 0)))] [] [] sg_sk_d_Z = true := by decide +kernel
set_option maxRecDepth 100000 in
theorem sg_sk_d {Q : Option Value × am_S → Prop} {d : Nat} {S : am_S} {L : am_L} {x1 x2 : Int} (hd : 0 ≤ d) (hP : ax_P0 none S) (l0 : lc L 0 40) (l1 : lc L 1 6) (l2 : li L 2 x1) (l3 : li L 3 x2) (b1 : (0 ≤ x1 ∧ x1 ≤ 7)) (b2 : (0 ≤ x2 ∧ x2 ≤ 15))
    (k0 : ∀ (x3 x4 x5 : Int) (L' : am_L) (i1 : Int32), rd S 41 x1 = x3 → rd S 7 x2 = x4 → (0 ≤ x1 ∧ x1 ≤ 7) → (0 ≤ x2 ∧ x2 ≤ 15) → (0 ≤ x3 ∧ x3 ≤ 1000000) → (0 ≤ x4 ∧ x4 ≤ 1000000) → (0 ≤ x5 ∧ x5 ≤ 2000000) → x3 + x4 = x5 → lc L' 0 40 → lc L' 1 6 → li L' 2 x1 → li L' 3 x2 → i1.toInt = x5 → am_V none d 54 72 L' ((.int i1) :: (.ref 6) :: (.ref 40) :: []) S Q) : am_V none d 54 57 L ([]) S Q := by
  refine sg_use sg_sk_d_g hd hP (sg_xs [0, x1, x2]) ⟨⟨Int.le_refl 0, Int.le_refl 0⟩, b1, b2, trivial⟩ trivial trivial trivial ⟨l0, l1, l2, l3, trivial⟩ trivial ?_
  intro z hz x' L' st' S' hx hP' hW hL' hs' hJ hE' hT' hD'
  have q1 : x' 1 = x1 := hx 1 (by decide)
  subst q1
  have q2 : x' 2 = x2 := hx 2 (by decide)
  subst q2
  have eS : S' = S := hW.1 rfl
  subst eS
  simp only [sg_sk_d_Z, List.mem_cons, List.not_mem_nil, or_false] at hz
  rcases hz with rfl
  · obtain ⟨f0, f1, hσ⟩ := hJ
    obtain ⟨e0, e1, e2, e3, e4, -⟩ := hE'
    obtain ⟨t0, -⟩ := hT'
    obtain ⟨p0, p1, p2, p3, -⟩ := hL'
    obtain ⟨v1, r1, rfl, ⟨i1, rfl, g1⟩, hs1⟩ := sg_tc hs'
    obtain ⟨v2, r2, rfl, rfl, hs2⟩ := sg_tc hs1
    obtain ⟨v3, r3, rfl, rfl, hs3⟩ := sg_tc hs2
    obtain rfl := sg_tn hs3
    exact k0 (x' 3) (x' 4) (x' 5) L' i1 f0 f1 e0 e1 e2 e3 e4 t0 p0 p1 p2 p3 g1
def sg_sk_e_Z : List sg_z := [(24, [(0, .inr (.inl [40])), (1, .inr (.inl [6])), (2, .inl (false, (1, .ofNat 1, .ofNat 0))), (3, .inl (false, (2, .ofNat 1, .ofNat 1)))], [], [], [(1, [(.ofNat 0, .ofNat 7)]), (2, [(.ofNat 0, .ofNat 15)])], [], [])]
set_option maxRecDepth 1000000 in
theorem sg_sk_e_g : sg_go [] [23] 3000 54 75 0 3 [(0, [(.ofNat 0, .ofNat 0)]), (1, [(.ofNat 0, .ofNat 7)]), (2, [(.ofNat 0, .ofNat 15)])] [] [] [] [(0, .inr (.inl [40])), (1, .inr (.inl [6])), (2, .inl (false, (1, .ofNat 1, .ofNat 0))), (3, .inl (false, (2, .ofNat 1, .ofNat 0)))] [] [] sg_sk_e_Z = true := by decide +kernel
set_option maxRecDepth 100000 in
theorem sg_sk_e {Q : Option Value × am_S → Prop} {d : Nat} {S : am_S} {L : am_L} {x1 x2 : Int} (hd : 0 ≤ d) (hP : ax_P0 none S) (l0 : lc L 0 40) (l1 : lc L 1 6) (l2 : li L 2 x1) (l3 : li L 3 x2) (b1 : (0 ≤ x1 ∧ x1 ≤ 7)) (b2 : (0 ≤ x2 ∧ x2 ≤ 15))
    (k0 : ∀ (L' : am_L), (0 ≤ x1 ∧ x1 ≤ 7) → (0 ≤ x2 ∧ x2 ≤ 15) → lc L' 0 40 → lc L' 1 6 → li L' 2 x1 → li L' 3 (x2 + 1) → am_V none d 54 23 L' ([]) S Q) : am_V none d 54 75 L ([]) S Q := by
  refine sg_use sg_sk_e_g hd hP (sg_xs [0, x1, x2]) ⟨⟨Int.le_refl 0, Int.le_refl 0⟩, b1, b2, trivial⟩ trivial trivial trivial ⟨l0, l1, l2, l3, trivial⟩ trivial ?_
  intro z hz x' L' st' S' hx hP' hW hL' hs' hJ hE' hT' hD'
  have q1 : x' 1 = x1 := hx 1 (by decide)
  subst q1
  have q2 : x' 2 = x2 := hx 2 (by decide)
  subst q2
  have eS : S' = S := hW.1 rfl
  subst eS
  simp only [sg_sk_e_Z, List.mem_cons, List.not_mem_nil, or_false] at hz
  rcases hz with rfl
  · have hσ := hJ
    obtain ⟨e0, e1, -⟩ := hE'
    obtain ⟨p0, p1, p2, p3, -⟩ := hL'
    obtain rfl := sg_tn hs'
    exact k0 L' e0 e1 p0 p1 p2 p3
def sg_cn_a_Z : List sg_z := [(5, [(0, .inr (.inl [40])), (1, .inr (.inl [6])), (2, .inl (false, (0, .ofNat 0, .ofNat 0))), (3, .inl (false, (0, .ofNat 0, .ofNat 1)))], [], [], [], [], [])]
set_option maxRecDepth 1000000 in
theorem sg_cn_a_g : sg_go [] [4] 3000 56 0 0 1 [(0, [(.ofNat 0, .ofNat 0)])] [] [] [] [(0, .inr (.inl [40])), (1, .inr (.inl [6]))] [] [] sg_cn_a_Z = true := by decide +kernel
set_option maxRecDepth 100000 in
theorem sg_cn_a {Q : Option Value × am_S → Prop} {d : Nat} {S : am_S} {L : am_L} (hd : 0 ≤ d) (hP : ax_P0 none S) (l0 : lc L 0 40) (l1 : lc L 1 6)
    (k0 : ∀ (L' : am_L), lc L' 0 40 → lc L' 1 6 → li L' 2 0 → li L' 3 1 → am_V none d 56 4 L' ([]) S Q) : am_V none d 56 0 L ([]) S Q := by
  refine sg_use sg_cn_a_g hd hP (sg_xs [0]) ⟨⟨Int.le_refl 0, Int.le_refl 0⟩, trivial⟩ trivial trivial trivial ⟨l0, l1, trivial⟩ trivial ?_
  intro z hz x' L' st' S' hx hP' hW hL' hs' hJ hE' hT' hD'
  have eS : S' = S := hW.1 rfl
  subst eS
  simp only [sg_cn_a_Z, List.mem_cons, List.not_mem_nil, or_false] at hz
  rcases hz with rfl
  · have hσ := hJ
    obtain ⟨p0, p1, p2, p3, -⟩ := hL'
    obtain rfl := sg_tn hs'
    exact k0 L' p0 p1 p2 p3
def sg_cn_b_Z : List sg_z := [(0, [], [.inl (false, (1, .ofNat 1, .ofNat 0))], [(2, 4, (2, .ofNat 1, .ofNat 0), (0, .ofNat 0, .ofNat 100), (0, .ofNat 0, .ofNat 0))], [(1, [(.ofNat 0, .ofNat 100)]), (2, [(.ofNat 101, .ofNat 101)]), (3, [(.ofNat 0, .ofNat 1000000)])], [], []),
  (23, [(0, .inr (.inl [40])), (1, .inr (.inl [6])), (2, .inl (false, (1, .ofNat 1, .ofNat 0))), (3, .inl (false, (2, .ofNat 1, .ofNat 0)))], [.inl (false, (4, .ofNat 1, .ofNat 0)), .inr (.inl [6]), .inr (.inl [40]), .inl (false, (1, .ofNat 1, .ofNat 0))], [(0, 40, (0, .ofNat 0, .ofNat 2), (3, .ofNat 1, .ofNat 0), (0, .ofNat 0, .ofNat 0)), (2, 5, (2, .ofNat 1, .ofNat 0), (0, .ofNat 0, .ofNat 100), (0, .ofNat 0, .ofNat 0))], [(1, [(.ofNat 0, .ofNat 100)]), (2, [(.ofNat 1, .ofNat 100)]), (3, [(.ofNat 0, .ofNat 1000000)]), (4, [(.ofNat 37, .ofNat 1003700)])], [((3, .ofNat 1, .ofNat 0), (2, .ofNat 37, .ofNat 0), (4, .ofNat 1, .ofNat 0))], [])]
set_option maxRecDepth 1000000 in
theorem sg_cn_b_g : sg_go [] [22] 3000 56 4 0 4 [(0, [(.ofNat 0, .ofNat 0)]), (1, [(.ofNat 0, .ofNat 100)]), (2, [(.ofNat 1, .ofNat 101)]), (3, [(.ofNat 0, .ofNat 1000000)])] [(40, (0, .ofNat 0, .ofNat 2), (3, .ofNat 1, .ofNat 0))] [] [] [(0, .inr (.inl [40])), (1, .inr (.inl [6])), (2, .inl (false, (1, .ofNat 1, .ofNat 0))), (3, .inl (false, (2, .ofNat 1, .ofNat 0)))] [] [] sg_cn_b_Z = true := by decide +kernel
set_option maxRecDepth 100000 in
theorem sg_cn_b {Q : Option Value × am_S → Prop} {d : Nat} {S : am_S} {L : am_L} {x1 x2 x3 : Int} (hd : 0 ≤ d) (hP : ax_P0 none S) (l0 : lc L 0 40) (l1 : lc L 1 6) (l2 : li L 2 x1) (l3 : li L 3 x2) (b1 : (0 ≤ x1 ∧ x1 ≤ 100)) (b2 : (1 ≤ x2 ∧ x2 ≤ 101)) (b3 : (0 ≤ x3 ∧ x3 ≤ 1000000)) (m40_2 : rd S 40 2 = x3)
    (k0 : ∀ (i1 : Int32), 100 < x2 → (0 ≤ x1 ∧ x1 ≤ 100) → (101 ≤ x2 ∧ x2 ≤ 101) → (0 ≤ x3 ∧ x3 ≤ 1000000) → i1.toInt = x1 → Q (some (.int i1), S))
    (k1 : ∀ (x4 : Int) (L' : am_L) (i1 : Int32) (i4 : Int32), x2 ≤ 100 → rd S 40 2 = x3 → (0 ≤ x1 ∧ x1 ≤ 100) → (1 ≤ x2 ∧ x2 ≤ 100) → (0 ≤ x3 ∧ x3 ≤ 1000000) → (37 ≤ x4 ∧ x4 ≤ 1003700) → x3 + (37 * x2 + 0) = x4 → lc L' 0 40 → lc L' 1 6 → li L' 2 x1 → li L' 3 x2 → i1.toInt = x4 → i4.toInt = x1 → am_V none d 56 22 L' ((.int i1) :: (.ref 6) :: (.ref 40) :: (.int i4) :: []) S Q) : am_V none d 56 4 L ([]) S Q := by
  refine sg_use sg_cn_b_g hd hP (sg_xs [0, x1, x2, x3]) ⟨⟨Int.le_refl 0, Int.le_refl 0⟩, b1, b2, b3, trivial⟩ ⟨sg_fs hP rfl m40_2, trivial⟩ trivial trivial ⟨l0, l1, l2, l3, trivial⟩ trivial ?_
  intro z hz x' L' st' S' hx hP' hW hL' hs' hJ hE' hT' hD'
  have q1 : x' 1 = x1 := hx 1 (by decide)
  subst q1
  have q2 : x' 2 = x2 := hx 2 (by decide)
  subst q2
  have q3 : x' 3 = x3 := hx 3 (by decide)
  subst q3
  have eS : S' = S := hW.1 rfl
  subst eS
  simp only [sg_cn_b_Z, List.mem_cons, List.not_mem_nil, or_false] at hz
  rcases hz with rfl | rfl
  · obtain ⟨f0, hσ⟩ := hJ
    obtain ⟨e0, e1, e2, -⟩ := hE'
    intro v hv
    subst hv
    cases v with
    | none => exact hs'.elim
    | some v1 =>
      obtain ⟨⟨i1, rfl, g1⟩, -⟩ := hs'
      exact k0 i1 f0 e0 e1 e2 g1
  · obtain ⟨f0, f1, hσ⟩ := hJ
    obtain ⟨e0, e1, e2, e3, -⟩ := hE'
    obtain ⟨t0, -⟩ := hT'
    obtain ⟨p0, p1, p2, p3, -⟩ := hL'
    obtain ⟨v1, r1, rfl, ⟨i1, rfl, g1⟩, hs1⟩ := sg_tc hs'
    obtain ⟨v2, r2, rfl, rfl, hs2⟩ := sg_tc hs1
    obtain ⟨v3, r3, rfl, rfl, hs3⟩ := sg_tc hs2
    obtain ⟨v4, r4, rfl, ⟨i4, rfl, g4⟩, hs4⟩ := sg_tc hs3
    obtain rfl := sg_tn hs4
    exact k1 (x' 4) L' i1 i4 f0 f1 e0 e1 e2 e3 t0 p0 p1 p2 p3 g1 g4
def sg_cn_c_Z : List sg_z := [(5, [(0, .inr (.inl [40])), (1, .inr (.inl [6])), (2, .inl (false, (3, .ofNat 1, .ofNat 0))), (3, .inl (false, (1, .ofNat 1, .ofNat 1)))], [], [(2, 2, (2, .ofNat 1, .ofNat 0), (4, .ofNat 1, .ofNat 0), (0, .ofNat 0, .ofNat 0)), (0, 40, (0, .ofNat 0, .ofNat 3), (4, .ofNat 1, .ofNat 0), (0, .ofNat 0, .ofNat 0))], [(1, [(.ofNat 1, .ofNat 100)]), (2, [(.ofNat 0, .ofNat 16)]), (3, [(.ofNat 0, .ofNat 100)]), (4, [(.ofNat 1, .ofNat 2147483647)])], [], []),
  (5, [(0, .inr (.inl [40])), (1, .inr (.inl [6])), (2, .inl (false, (3, .ofNat 1, .ofNat 1))), (3, .inl (false, (1, .ofNat 1, .ofNat 1)))], [], [(2, 3, (2, .ofNat 1, .ofNat 0), (4, .ofNat 1, .ofNat 0), (0, .ofNat 0, .ofNat 0)), (0, 40, (0, .ofNat 0, .ofNat 3), (4, .ofNat 1, .ofNat 0), (0, .ofNat 0, .ofNat 0))], [(1, [(.ofNat 1, .ofNat 100)]), (2, [(.ofNat 0, .ofNat 16)]), (3, [(.ofNat 0, .ofNat 100)]), (4, [(.negSucc 2147483647, .ofNat 16)])], [], [])]
set_option maxRecDepth 1000000 in
theorem sg_cn_c_g : sg_go [] [4] 3000 56 25 0 4 [(0, [(.ofNat 0, .ofNat 0)]), (1, [(.ofNat 1, .ofNat 100)]), (2, [(.ofNat 0, .ofNat 16)]), (3, [(.ofNat 0, .ofNat 100)])] [] [] [] [(0, .inr (.inl [40])), (1, .inr (.inl [6])), (3, .inl (false, (1, .ofNat 1, .ofNat 0)))] [.inl (false, (2, .ofNat 1, .ofNat 0)), .inl (false, (3, .ofNat 1, .ofNat 0))] [] sg_cn_c_Z = true := by decide +kernel
set_option maxRecDepth 100000 in
theorem sg_cn_c {Q : Option Value × am_S → Prop} {d : Nat} {S : am_S} {L : am_L} {x1 x2 x3 : Int} {i1 : Int32} {i2 : Int32} (hd : 0 ≤ d) (hP : ax_P0 none S) (l0 : lc L 0 40) (l1 : lc L 1 6) (l3 : li L 3 x1) (b1 : (1 ≤ x1 ∧ x1 ≤ 100)) (b2 : (0 ≤ x2 ∧ x2 ≤ 16)) (b3 : (0 ≤ x3 ∧ x3 ≤ 100)) (s1 : i1.toInt = x2) (s2 : i2.toInt = x3)
    (k0 : ∀ (x4 : Int) (L' : am_L), rd S 40 3 = x4 → x2 < x4 → (1 ≤ x1 ∧ x1 ≤ 100) → (0 ≤ x2 ∧ x2 ≤ 16) → (0 ≤ x3 ∧ x3 ≤ 100) → (1 ≤ x4 ∧ x4 ≤ 2147483647) → lc L' 0 40 → lc L' 1 6 → li L' 2 x3 → li L' 3 (x1 + 1) → am_V none d 56 4 L' ([]) S Q)
    (k1 : ∀ (x4 : Int) (L' : am_L), rd S 40 3 = x4 → x4 ≤ x2 → (1 ≤ x1 ∧ x1 ≤ 100) → (0 ≤ x2 ∧ x2 ≤ 16) → (0 ≤ x3 ∧ x3 ≤ 100) → ((-2147483648) ≤ x4 ∧ x4 ≤ 16) → lc L' 0 40 → lc L' 1 6 → li L' 2 (x3 + 1) → li L' 3 (x1 + 1) → am_V none d 56 4 L' ([]) S Q) : am_V none d 56 25 L ((.int i1) :: (.int i2) :: []) S Q := by
  refine sg_use sg_cn_c_g hd hP (sg_xs [0, x1, x2, x3]) ⟨⟨Int.le_refl 0, Int.le_refl 0⟩, b1, b2, b3, trivial⟩ trivial trivial trivial ⟨l0, l1, l3, trivial⟩ ⟨⟨_, rfl, s1⟩, ⟨_, rfl, s2⟩, trivial⟩ ?_
  intro z hz x' L' st' S' hx hP' hW hL' hs' hJ hE' hT' hD'
  have q1 : x' 1 = x1 := hx 1 (by decide)
  subst q1
  have q2 : x' 2 = x2 := hx 2 (by decide)
  subst q2
  have q3 : x' 3 = x3 := hx 3 (by decide)
  subst q3
  have eS : S' = S := hW.1 rfl
  subst eS
  simp only [sg_cn_c_Z, List.mem_cons, List.not_mem_nil, or_false] at hz
  rcases hz with rfl | rfl
  · obtain ⟨f0, f1, hσ⟩ := hJ
    obtain ⟨e0, e1, e2, e3, -⟩ := hE'
    obtain ⟨p0, p1, p2, p3, -⟩ := hL'
    obtain rfl := sg_tn hs'
    exact k0 (x' 4) L' f0 f1 e0 e1 e2 e3 p0 p1 p2 p3
  · obtain ⟨f0, f1, hσ⟩ := hJ
    obtain ⟨e0, e1, e2, e3, -⟩ := hE'
    obtain ⟨p0, p1, p2, p3, -⟩ := hL'
    obtain rfl := sg_tn hs'
    exact k1 (x' 4) L' f0 f1 e0 e1 e2 e3 p0 p1 p2 p3
def sg_sr_x0_Z : List sg_z := [(0, [], [.inl (false, (0, .ofNat 0, .negSucc 0))], [(2, 0, (0, .ofNat 0, .ofNat 0), (0, .ofNat 0, .ofNat 0), (0, .ofNat 0, .ofNat 0)), (2, 2, (1, .ofNat 1, .ofNat 0), (0, .ofNat 0, .ofNat 0), (0, .ofNat 0, .ofNat 0))], [(1, [(.negSucc 2147483647, .negSucc 0)])], [], []),
  (0, [], [.inl (false, (0, .ofNat 0, .negSucc 0))], [(2, 0, (0, .ofNat 0, .ofNat 0), (0, .ofNat 0, .ofNat 0), (0, .ofNat 0, .ofNat 0)), (2, 4, (1, .ofNat 1, .ofNat 0), (0, .ofNat 0, .ofNat 1), (0, .ofNat 0, .ofNat 0)), (2, 3, (1, .ofNat 1, .ofNat 0), (0, .ofNat 0, .ofNat 0), (0, .ofNat 0, .ofNat 0))], [(1, [(.ofNat 2, .ofNat 2147483647)])], [], []),
  (0, [], [.inl (false, (0, .ofNat 0, .negSucc 0))], [(2, 0, (0, .ofNat 0, .ofNat 0), (0, .ofNat 0, .ofNat 0), (0, .ofNat 0, .ofNat 0)), (2, 2, (2, .ofNat 1, .ofNat 0), (0, .ofNat 0, .ofNat 0), (0, .ofNat 0, .ofNat 0)), (2, 5, (1, .ofNat 1, .ofNat 0), (0, .ofNat 0, .ofNat 1), (0, .ofNat 0, .ofNat 0)), (2, 3, (1, .ofNat 1, .ofNat 0), (0, .ofNat 0, .ofNat 0), (0, .ofNat 0, .ofNat 0))], [(1, [(.ofNat 0, .ofNat 1)]), (2, [(.negSucc 2147483647, .negSucc 0)])], [], []),
  (0, [], [.inl (false, (0, .ofNat 0, .negSucc 0))], [(2, 0, (0, .ofNat 0, .ofNat 0), (0, .ofNat 0, .ofNat 0), (0, .ofNat 0, .ofNat 0)), (2, 4, (2, .ofNat 1, .ofNat 0), (0, .ofNat 0, .ofNat 9), (0, .ofNat 0, .ofNat 0)), (2, 3, (2, .ofNat 1, .ofNat 0), (0, .ofNat 0, .ofNat 0), (0, .ofNat 0, .ofNat 0)), (2, 5, (1, .ofNat 1, .ofNat 0), (0, .ofNat 0, .ofNat 1), (0, .ofNat 0, .ofNat 0)), (2, 3, (1, .ofNat 1, .ofNat 0), (0, .ofNat 0, .ofNat 0), (0, .ofNat 0, .ofNat 0))], [(1, [(.ofNat 0, .ofNat 1)]), (2, [(.ofNat 10, .ofNat 2147483647)])], [], []),
  (0, [], [.inl (false, (0, .ofNat 0, .negSucc 0))], [(2, 0, (0, .ofNat 0, .ofNat 0), (0, .ofNat 0, .ofNat 0), (0, .ofNat 0, .ofNat 0)), (2, 2, (3, .ofNat 1, .ofNat 0), (0, .ofNat 0, .ofNat 0), (0, .ofNat 0, .ofNat 0)), (2, 1, (0, .ofNat 0, .ofNat 1), (0, .ofNat 0, .ofNat 0), (0, .ofNat 0, .ofNat 0)), (2, 5, (2, .ofNat 1, .ofNat 0), (0, .ofNat 0, .ofNat 9), (0, .ofNat 0, .ofNat 0)), (2, 3, (2, .ofNat 1, .ofNat 0), (0, .ofNat 0, .ofNat 0), (0, .ofNat 0, .ofNat 0)), (2, 5, (1, .ofNat 1, .ofNat 0), (0, .ofNat 0, .ofNat 1), (0, .ofNat 0, .ofNat 0)), (2, 3, (1, .ofNat 1, .ofNat 0), (0, .ofNat 0, .ofNat 0), (0, .ofNat 0, .ofNat 0))], [(1, [(.ofNat 0, .ofNat 1)]), (2, [(.ofNat 0, .ofNat 9)]), (3, [(.negSucc 2147483647, .negSucc 0)])], [], []),
  (0, [], [.inl (false, (0, .ofNat 0, .negSucc 0))], [(2, 0, (0, .ofNat 0, .ofNat 0), (0, .ofNat 0, .ofNat 0), (0, .ofNat 0, .ofNat 0)), (2, 4, (3, .ofNat 1, .ofNat 0), (0, .ofNat 0, .ofNat 1000000), (0, .ofNat 0, .ofNat 0)), (2, 3, (3, .ofNat 1, .ofNat 0), (0, .ofNat 0, .ofNat 0), (0, .ofNat 0, .ofNat 0)), (2, 1, (0, .ofNat 0, .ofNat 1), (0, .ofNat 0, .ofNat 0), (0, .ofNat 0, .ofNat 0)), (2, 5, (2, .ofNat 1, .ofNat 0), (0, .ofNat 0, .ofNat 9), (0, .ofNat 0, .ofNat 0)), (2, 3, (2, .ofNat 1, .ofNat 0), (0, .ofNat 0, .ofNat 0), (0, .ofNat 0, .ofNat 0)), (2, 5, (1, .ofNat 1, .ofNat 0), (0, .ofNat 0, .ofNat 1), (0, .ofNat 0, .ofNat 0)), (2, 3, (1, .ofNat 1, .ofNat 0), (0, .ofNat 0, .ofNat 0), (0, .ofNat 0, .ofNat 0))], [(1, [(.ofNat 0, .ofNat 1)]), (2, [(.ofNat 0, .ofNat 9)]), (3, [(.ofNat 1000001, .ofNat 2147483647)])], [], []),
  (28, [(0, .inr (.inl [0])), (1, .inl (false, (1, .ofNat 1, .ofNat 0))), (2, .inl (false, (2, .ofNat 1, .ofNat 0))), (3, .inl (false, (3, .ofNat 1, .ofNat 0)))], [.inl (false, (2, .ofNat 1, .ofNat 0)), .inl (false, (1, .ofNat 1, .ofNat 0)), .inr (.inl [1]), .inr (.inl [40])], [(2, 1, (0, .ofNat 0, .ofNat 1), (0, .ofNat 0, .ofNat 0), (0, .ofNat 0, .ofNat 0)), (2, 5, (3, .ofNat 1, .ofNat 0), (0, .ofNat 0, .ofNat 1000000), (0, .ofNat 0, .ofNat 0)), (2, 3, (3, .ofNat 1, .ofNat 0), (0, .ofNat 0, .ofNat 0), (0, .ofNat 0, .ofNat 0)), (2, 1, (0, .ofNat 0, .ofNat 1), (0, .ofNat 0, .ofNat 0), (0, .ofNat 0, .ofNat 0)), (2, 5, (2, .ofNat 1, .ofNat 0), (0, .ofNat 0, .ofNat 9), (0, .ofNat 0, .ofNat 0)), (2, 3, (2, .ofNat 1, .ofNat 0), (0, .ofNat 0, .ofNat 0), (0, .ofNat 0, .ofNat 0)), (2, 5, (1, .ofNat 1, .ofNat 0), (0, .ofNat 0, .ofNat 1), (0, .ofNat 0, .ofNat 0)), (2, 3, (1, .ofNat 1, .ofNat 0), (0, .ofNat 0, .ofNat 0), (0, .ofNat 0, .ofNat 0))], [(1, [(.ofNat 0, .ofNat 1)]), (2, [(.ofNat 0, .ofNat 9)]), (3, [(.ofNat 0, .ofNat 1000000)])], [], [])]
set_option maxRecDepth 1000000 in
theorem sg_sr_x0_g : sg_go [] [27] 3000 114 0 1 4 [(0, [(.ofNat 0, .ofNat 0)]), (1, [(.negSucc 2147483647, .ofNat 2147483647)]), (2, [(.negSucc 2147483647, .ofNat 2147483647)]), (3, [(.negSucc 2147483647, .ofNat 2147483647)])] [] [] [] [(0, .inr (.inl [0])), (1, .inl (false, (1, .ofNat 1, .ofNat 0))), (2, .inl (false, (2, .ofNat 1, .ofNat 0))), (3, .inl (false, (3, .ofNat 1, .ofNat 0)))] [] [] sg_sr_x0_Z = true := by decide +kernel
set_option maxRecDepth 100000 in
theorem sg_sr_x0 {Q : Option Value × am_S → Prop} {d : Nat} {S : am_S} {L : am_L} {x1 x2 x3 : Int} (hd : 1 ≤ d) (hP : ax_P0 none S) (l0 : lc L 0 0) (l1 : li L 1 x1) (l2 : li L 2 x2) (l3 : li L 3 x3) (b1 : ((-2147483648) ≤ x1 ∧ x1 ≤ 2147483647)) (b2 : ((-2147483648) ≤ x2 ∧ x2 ≤ 2147483647)) (b3 : ((-2147483648) ≤ x3 ∧ x3 ≤ 2147483647))
    (k0 : ∀ (i1 : Int32), x1 < 0 → ((-2147483648) ≤ x1 ∧ x1 ≤ (-1)) → i1.toInt = (-1) → Q (some (.int i1), S))
    (k1 : ∀ (i1 : Int32), 0 ≤ x1 → 1 < x1 → (2 ≤ x1 ∧ x1 ≤ 2147483647) → i1.toInt = (-1) → Q (some (.int i1), S))
    (k2 : ∀ (i1 : Int32), 0 ≤ x1 → x1 ≤ 1 → x2 < 0 → (0 ≤ x1 ∧ x1 ≤ 1) → ((-2147483648) ≤ x2 ∧ x2 ≤ (-1)) → i1.toInt = (-1) → Q (some (.int i1), S))
    (k3 : ∀ (i1 : Int32), 0 ≤ x1 → x1 ≤ 1 → 0 ≤ x2 → 9 < x2 → (0 ≤ x1 ∧ x1 ≤ 1) → (10 ≤ x2 ∧ x2 ≤ 2147483647) → i1.toInt = (-1) → Q (some (.int i1), S))
    (k4 : ∀ (i1 : Int32), 0 ≤ x1 → x1 ≤ 1 → 0 ≤ x2 → x2 ≤ 9 → x3 < 0 → (0 ≤ x1 ∧ x1 ≤ 1) → (0 ≤ x2 ∧ x2 ≤ 9) → ((-2147483648) ≤ x3 ∧ x3 ≤ (-1)) → i1.toInt = (-1) → Q (some (.int i1), S))
    (k5 : ∀ (i1 : Int32), 0 ≤ x1 → x1 ≤ 1 → 0 ≤ x2 → x2 ≤ 9 → 0 ≤ x3 → 1000000 < x3 → (0 ≤ x1 ∧ x1 ≤ 1) → (0 ≤ x2 ∧ x2 ≤ 9) → (1000001 ≤ x3 ∧ x3 ≤ 2147483647) → i1.toInt = (-1) → Q (some (.int i1), S))
    (k6 : ∀ (L' : am_L) (i1 : Int32) (i2 : Int32), 0 ≤ x1 → x1 ≤ 1 → 0 ≤ x2 → x2 ≤ 9 → 0 ≤ x3 → x3 ≤ 1000000 → (0 ≤ x1 ∧ x1 ≤ 1) → (0 ≤ x2 ∧ x2 ≤ 9) → (0 ≤ x3 ∧ x3 ≤ 1000000) → lc L' 0 0 → li L' 1 x1 → li L' 2 x2 → li L' 3 x3 → i1.toInt = x2 → i2.toInt = x1 → am_V none d 114 27 L' ((.int i1) :: (.int i2) :: (.ref 1) :: (.ref 40) :: []) S Q) : am_V none d 114 0 L ([]) S Q := by
  refine sg_use sg_sr_x0_g hd hP (sg_xs [0, x1, x2, x3]) ⟨⟨Int.le_refl 0, Int.le_refl 0⟩, b1, b2, b3, trivial⟩ trivial trivial trivial ⟨l0, l1, l2, l3, trivial⟩ trivial ?_
  intro z hz x' L' st' S' hx hP' hW hL' hs' hJ hE' hT' hD'
  have q1 : x' 1 = x1 := hx 1 (by decide)
  subst q1
  have q2 : x' 2 = x2 := hx 2 (by decide)
  subst q2
  have q3 : x' 3 = x3 := hx 3 (by decide)
  subst q3
  have eS : S' = S := hW.1 rfl
  subst eS
  simp only [sg_sr_x0_Z, List.mem_cons, List.not_mem_nil, or_false] at hz
  rcases hz with rfl | rfl | rfl | rfl | rfl | rfl | rfl
  · obtain ⟨f0, -, hσ⟩ := hJ
    obtain ⟨e0, -⟩ := hE'
    intro v hv
    subst hv
    cases v with
    | none => exact hs'.elim
    | some v1 =>
      obtain ⟨⟨i1, rfl, g1⟩, -⟩ := hs'
      exact k0 i1 f0 e0 g1
  · obtain ⟨f0, f1, -, hσ⟩ := hJ
    obtain ⟨e0, -⟩ := hE'
    intro v hv
    subst hv
    cases v with
    | none => exact hs'.elim
    | some v1 =>
      obtain ⟨⟨i1, rfl, g1⟩, -⟩ := hs'
      exact k1 i1 f0 f1 e0 g1
  · obtain ⟨f0, f1, f2, -, hσ⟩ := hJ
    obtain ⟨e0, e1, -⟩ := hE'
    intro v hv
    subst hv
    cases v with
    | none => exact hs'.elim
    | some v1 =>
      obtain ⟨⟨i1, rfl, g1⟩, -⟩ := hs'
      exact k2 i1 f0 f1 f2 e0 e1 g1
  · obtain ⟨f0, f1, f2, f3, -, hσ⟩ := hJ
    obtain ⟨e0, e1, -⟩ := hE'
    intro v hv
    subst hv
    cases v with
    | none => exact hs'.elim
    | some v1 =>
      obtain ⟨⟨i1, rfl, g1⟩, -⟩ := hs'
      exact k3 i1 f0 f1 f2 f3 e0 e1 g1
  · obtain ⟨f0, f1, f2, f3, -, f5, -, hσ⟩ := hJ
    obtain ⟨e0, e1, e2, -⟩ := hE'
    intro v hv
    subst hv
    cases v with
    | none => exact hs'.elim
    | some v1 =>
      obtain ⟨⟨i1, rfl, g1⟩, -⟩ := hs'
      exact k4 i1 f0 f1 f2 f3 f5 e0 e1 e2 g1
  · obtain ⟨f0, f1, f2, f3, -, f5, f6, -, hσ⟩ := hJ
    obtain ⟨e0, e1, e2, -⟩ := hE'
    intro v hv
    subst hv
    cases v with
    | none => exact hs'.elim
    | some v1 =>
      obtain ⟨⟨i1, rfl, g1⟩, -⟩ := hs'
      exact k5 i1 f0 f1 f2 f3 f5 f6 e0 e1 e2 g1
  · obtain ⟨f0, f1, f2, f3, -, f5, f6, -, hσ⟩ := hJ
    obtain ⟨e0, e1, e2, -⟩ := hE'
    obtain ⟨p0, p1, p2, p3, -⟩ := hL'
    obtain ⟨v1, r1, rfl, ⟨i1, rfl, g1⟩, hs1⟩ := sg_tc hs'
    obtain ⟨v2, r2, rfl, ⟨i2, rfl, g2⟩, hs2⟩ := sg_tc hs1
    obtain ⟨v3, r3, rfl, rfl, hs3⟩ := sg_tc hs2
    obtain ⟨v4, r4, rfl, rfl, hs4⟩ := sg_tc hs3
    obtain rfl := sg_tn hs4
    exact k6 L' i1 i2 f0 f1 f2 f3 f5 f6 e0 e1 e2 p0 p1 p2 p3 g1 g2
def sg_sr_x1_Z : List sg_z := [(40, [(0, .inr (.inl [0])), (3, .inl (false, (1, .ofNat 1, .ofNat 0)))], [.inl (false, (1, .ofNat 1, .ofNat 0)), .inr (.inl [6]), .inr (.inl [40])], [], [(1, [(.ofNat 0, .ofNat 1000000)])], [], [])]
set_option maxRecDepth 1000000 in
theorem sg_sr_x1_g : sg_go [] [39] 3000 114 30 0 2 [(0, [(.ofNat 0, .ofNat 0)]), (1, [(.ofNat 0, .ofNat 1000000)])] [] [] [] [(0, .inr (.inl [0])), (3, .inl (false, (1, .ofNat 1, .ofNat 0)))] [] [] sg_sr_x1_Z = true := by decide +kernel
set_option maxRecDepth 100000 in
theorem sg_sr_x1 {Q : Option Value × am_S → Prop} {d : Nat} {S : am_S} {L : am_L} {x1 : Int} (hd : 0 ≤ d) (hP : ax_P0 none S) (l0 : lc L 0 0) (l3 : li L 3 x1) (b1 : (0 ≤ x1 ∧ x1 ≤ 1000000))
    (k0 : ∀ (L' : am_L) (i1 : Int32), (0 ≤ x1 ∧ x1 ≤ 1000000) → lc L' 0 0 → li L' 3 x1 → i1.toInt = x1 → am_V none d 114 39 L' ((.int i1) :: (.ref 6) :: (.ref 40) :: []) S Q) : am_V none d 114 30 L ([]) S Q := by
  refine sg_use sg_sr_x1_g hd hP (sg_xs [0, x1]) ⟨⟨Int.le_refl 0, Int.le_refl 0⟩, b1, trivial⟩ trivial trivial trivial ⟨l0, l3, trivial⟩ trivial ?_
  intro z hz x' L' st' S' hx hP' hW hL' hs' hJ hE' hT' hD'
  have q1 : x' 1 = x1 := hx 1 (by decide)
  subst q1
  have eS : S' = S := hW.1 rfl
  subst eS
  simp only [sg_sr_x1_Z, List.mem_cons, List.not_mem_nil, or_false] at hz
  rcases hz with rfl
  · have hσ := hJ
    obtain ⟨e0, -⟩ := hE'
    obtain ⟨p0, p1, -⟩ := hL'
    obtain ⟨v1, r1, rfl, ⟨i1, rfl, g1⟩, hs1⟩ := sg_tc hs'
    obtain ⟨v2, r2, rfl, rfl, hs2⟩ := sg_tc hs1
    obtain ⟨v3, r3, rfl, rfl, hs3⟩ := sg_tc hs2
    obtain rfl := sg_tn hs3
    exact k0 L' i1 e0 p0 p1 g1
def sg_se_x0_Z : List sg_z := [(0, [], [.inl (false, (0, .ofNat 0, .negSucc 0))], [(2, 0, (0, .ofNat 0, .ofNat 0), (0, .ofNat 0, .ofNat 0), (0, .ofNat 0, .ofNat 0)), (2, 2, (1, .ofNat 1, .ofNat 0), (0, .ofNat 0, .ofNat 0), (0, .ofNat 0, .ofNat 0))], [(1, [(.negSucc 2147483647, .negSucc 0)])], [], []),
  (0, [], [.inl (false, (0, .ofNat 0, .negSucc 0))], [(2, 0, (0, .ofNat 0, .ofNat 0), (0, .ofNat 0, .ofNat 0), (0, .ofNat 0, .ofNat 0)), (2, 4, (1, .ofNat 1, .ofNat 0), (0, .ofNat 0, .ofNat 1), (0, .ofNat 0, .ofNat 0)), (2, 3, (1, .ofNat 1, .ofNat 0), (0, .ofNat 0, .ofNat 0), (0, .ofNat 0, .ofNat 0))], [(1, [(.ofNat 2, .ofNat 2147483647)])], [], []),
  (0, [], [.inl (false, (0, .ofNat 0, .negSucc 0))], [(2, 0, (0, .ofNat 0, .ofNat 0), (0, .ofNat 0, .ofNat 0), (0, .ofNat 0, .ofNat 0)), (2, 2, (2, .ofNat 1, .ofNat 0), (0, .ofNat 0, .ofNat 0), (0, .ofNat 0, .ofNat 0)), (2, 5, (1, .ofNat 1, .ofNat 0), (0, .ofNat 0, .ofNat 1), (0, .ofNat 0, .ofNat 0)), (2, 3, (1, .ofNat 1, .ofNat 0), (0, .ofNat 0, .ofNat 0), (0, .ofNat 0, .ofNat 0))], [(1, [(.ofNat 0, .ofNat 1)]), (2, [(.negSucc 2147483647, .negSucc 0)])], [], []),
  (0, [], [.inl (false, (0, .ofNat 0, .negSucc 0))], [(2, 0, (0, .ofNat 0, .ofNat 0), (0, .ofNat 0, .ofNat 0), (0, .ofNat 0, .ofNat 0)), (2, 4, (2, .ofNat 1, .ofNat 0), (0, .ofNat 0, .ofNat 9), (0, .ofNat 0, .ofNat 0)), (2, 3, (2, .ofNat 1, .ofNat 0), (0, .ofNat 0, .ofNat 0), (0, .ofNat 0, .ofNat 0)), (2, 5, (1, .ofNat 1, .ofNat 0), (0, .ofNat 0, .ofNat 1), (0, .ofNat 0, .ofNat 0)), (2, 3, (1, .ofNat 1, .ofNat 0), (0, .ofNat 0, .ofNat 0), (0, .ofNat 0, .ofNat 0))], [(1, [(.ofNat 0, .ofNat 1)]), (2, [(.ofNat 10, .ofNat 2147483647)])], [], []),
  (0, [], [.inl (false, (0, .ofNat 0, .negSucc 0))], [(2, 2, (3, .ofNat 1, .ofNat 0), (0, .ofNat 0, .ofNat 0), (0, .ofNat 0, .ofNat 0)), (2, 1, (0, .ofNat 0, .ofNat 1), (0, .ofNat 0, .ofNat 0), (0, .ofNat 0, .ofNat 0)), (2, 5, (2, .ofNat 1, .ofNat 0), (0, .ofNat 0, .ofNat 9), (0, .ofNat 0, .ofNat 0)), (2, 3, (2, .ofNat 1, .ofNat 0), (0, .ofNat 0, .ofNat 0), (0, .ofNat 0, .ofNat 0)), (2, 5, (1, .ofNat 1, .ofNat 0), (0, .ofNat 0, .ofNat 1), (0, .ofNat 0, .ofNat 0)), (2, 3, (1, .ofNat 1, .ofNat 0), (0, .ofNat 0, .ofNat 0), (0, .ofNat 0, .ofNat 0))], [(1, [(.ofNat 0, .ofNat 1)]), (2, [(.ofNat 0, .ofNat 9)]), (3, [(.negSucc 2147483647, .negSucc 0)])], [], []),
  (30, [(0, .inr (.inl [0])), (1, .inl (false, (1, .ofNat 1, .ofNat 0))), (2, .inl (false, (2, .ofNat 1, .ofNat 0))), (3, .inl (false, (3, .ofNat 1, .ofNat 0)))], [.inl (false, (2, .ofNat 1, .ofNat 0)), .inl (false, (1, .ofNat 1, .ofNat 0)), .inr (.inl [1]), .inr (.inl [40])], [(2, 5, (3, .ofNat 1, .ofNat 0), (0, .ofNat 0, .ofNat 2), (0, .ofNat 0, .ofNat 0)), (2, 3, (3, .ofNat 1, .ofNat 0), (0, .ofNat 0, .ofNat 0), (0, .ofNat 0, .ofNat 0)), (2, 1, (0, .ofNat 0, .ofNat 1), (0, .ofNat 0, .ofNat 0), (0, .ofNat 0, .ofNat 0)), (2, 5, (2, .ofNat 1, .ofNat 0), (0, .ofNat 0, .ofNat 9), (0, .ofNat 0, .ofNat 0)), (2, 3, (2, .ofNat 1, .ofNat 0), (0, .ofNat 0, .ofNat 0), (0, .ofNat 0, .ofNat 0)), (2, 5, (1, .ofNat 1, .ofNat 0), (0, .ofNat 0, .ofNat 1), (0, .ofNat 0, .ofNat 0)), (2, 3, (1, .ofNat 1, .ofNat 0), (0, .ofNat 0, .ofNat 0), (0, .ofNat 0, .ofNat 0))], [(1, [(.ofNat 0, .ofNat 1)]), (2, [(.ofNat 0, .ofNat 9)]), (3, [(.ofNat 0, .ofNat 2)])], [], []),
  (0, [], [.inl (false, (0, .ofNat 0, .negSucc 0))], [(2, 4, (3, .ofNat 1, .ofNat 0), (0, .ofNat 0, .ofNat 2), (0, .ofNat 0, .ofNat 0)), (2, 3, (3, .ofNat 1, .ofNat 0), (0, .ofNat 0, .ofNat 0), (0, .ofNat 0, .ofNat 0)), (2, 1, (0, .ofNat 0, .ofNat 1), (0, .ofNat 0, .ofNat 0), (0, .ofNat 0, .ofNat 0)), (2, 5, (2, .ofNat 1, .ofNat 0), (0, .ofNat 0, .ofNat 9), (0, .ofNat 0, .ofNat 0)), (2, 3, (2, .ofNat 1, .ofNat 0), (0, .ofNat 0, .ofNat 0), (0, .ofNat 0, .ofNat 0)), (2, 5, (1, .ofNat 1, .ofNat 0), (0, .ofNat 0, .ofNat 1), (0, .ofNat 0, .ofNat 0)), (2, 3, (1, .ofNat 1, .ofNat 0), (0, .ofNat 0, .ofNat 0), (0, .ofNat 0, .ofNat 0))], [(1, [(.ofNat 0, .ofNat 1)]), (2, [(.ofNat 0, .ofNat 9)]), (3, [(.ofNat 3, .ofNat 2147483647)])], [], [])]
set_option maxRecDepth 1000000 in
theorem sg_se_x0_g : sg_go [] [29] 3000 113 0 1 4 [(0, [(.ofNat 0, .ofNat 0)]), (1, [(.negSucc 2147483647, .ofNat 2147483647)]), (2, [(.negSucc 2147483647, .ofNat 2147483647)]), (3, [(.negSucc 2147483647, .ofNat 2147483647)])] [] [] [] [(0, .inr (.inl [0])), (1, .inl (false, (1, .ofNat 1, .ofNat 0))), (2, .inl (false, (2, .ofNat 1, .ofNat 0))), (3, .inl (false, (3, .ofNat 1, .ofNat 0)))] [] [] sg_se_x0_Z = true := by decide +kernel
set_option maxRecDepth 100000 in
theorem sg_se_x0 {Q : Option Value × am_S → Prop} {d : Nat} {S : am_S} {L : am_L} {x1 x2 x3 : Int} (hd : 1 ≤ d) (hP : ax_P0 none S) (l0 : lc L 0 0) (l1 : li L 1 x1) (l2 : li L 2 x2) (l3 : li L 3 x3) (b1 : ((-2147483648) ≤ x1 ∧ x1 ≤ 2147483647)) (b2 : ((-2147483648) ≤ x2 ∧ x2 ≤ 2147483647)) (b3 : ((-2147483648) ≤ x3 ∧ x3 ≤ 2147483647))
    (k0 : ∀ (i1 : Int32), x1 < 0 → ((-2147483648) ≤ x1 ∧ x1 ≤ (-1)) → i1.toInt = (-1) → Q (some (.int i1), S))
    (k1 : ∀ (i1 : Int32), 0 ≤ x1 → 1 < x1 → (2 ≤ x1 ∧ x1 ≤ 2147483647) → i1.toInt = (-1) → Q (some (.int i1), S))
    (k2 : ∀ (i1 : Int32), 0 ≤ x1 → x1 ≤ 1 → x2 < 0 → (0 ≤ x1 ∧ x1 ≤ 1) → ((-2147483648) ≤ x2 ∧ x2 ≤ (-1)) → i1.toInt = (-1) → Q (some (.int i1), S))
    (k3 : ∀ (i1 : Int32), 0 ≤ x1 → x1 ≤ 1 → 0 ≤ x2 → 9 < x2 → (0 ≤ x1 ∧ x1 ≤ 1) → (10 ≤ x2 ∧ x2 ≤ 2147483647) → i1.toInt = (-1) → Q (some (.int i1), S))
    (k4 : ∀ (i1 : Int32), 0 ≤ x1 → x1 ≤ 1 → 0 ≤ x2 → x2 ≤ 9 → x3 < 0 → (0 ≤ x1 ∧ x1 ≤ 1) → (0 ≤ x2 ∧ x2 ≤ 9) → ((-2147483648) ≤ x3 ∧ x3 ≤ (-1)) → i1.toInt = (-1) → Q (some (.int i1), S))
    (k5 : ∀ (L' : am_L) (i1 : Int32) (i2 : Int32), 0 ≤ x1 → x1 ≤ 1 → 0 ≤ x2 → x2 ≤ 9 → 0 ≤ x3 → x3 ≤ 2 → (0 ≤ x1 ∧ x1 ≤ 1) → (0 ≤ x2 ∧ x2 ≤ 9) → (0 ≤ x3 ∧ x3 ≤ 2) → lc L' 0 0 → li L' 1 x1 → li L' 2 x2 → li L' 3 x3 → i1.toInt = x2 → i2.toInt = x1 → am_V none d 113 29 L' ((.int i1) :: (.int i2) :: (.ref 1) :: (.ref 40) :: []) S Q)
    (k6 : ∀ (i1 : Int32), 0 ≤ x1 → x1 ≤ 1 → 0 ≤ x2 → x2 ≤ 9 → 0 ≤ x3 → 2 < x3 → (0 ≤ x1 ∧ x1 ≤ 1) → (0 ≤ x2 ∧ x2 ≤ 9) → (3 ≤ x3 ∧ x3 ≤ 2147483647) → i1.toInt = (-1) → Q (some (.int i1), S)) : am_V none d 113 0 L ([]) S Q := by
  refine sg_use sg_se_x0_g hd hP (sg_xs [0, x1, x2, x3]) ⟨⟨Int.le_refl 0, Int.le_refl 0⟩, b1, b2, b3, trivial⟩ trivial trivial trivial ⟨l0, l1, l2, l3, trivial⟩ trivial ?_
  intro z hz x' L' st' S' hx hP' hW hL' hs' hJ hE' hT' hD'
  have q1 : x' 1 = x1 := hx 1 (by decide)
  subst q1
  have q2 : x' 2 = x2 := hx 2 (by decide)
  subst q2
  have q3 : x' 3 = x3 := hx 3 (by decide)
  subst q3
  have eS : S' = S := hW.1 rfl
  subst eS
  simp only [sg_se_x0_Z, List.mem_cons, List.not_mem_nil, or_false] at hz
  rcases hz with rfl | rfl | rfl | rfl | rfl | rfl | rfl
  · obtain ⟨f0, -, hσ⟩ := hJ
    obtain ⟨e0, -⟩ := hE'
    intro v hv
    subst hv
    cases v with
    | none => exact hs'.elim
    | some v1 =>
      obtain ⟨⟨i1, rfl, g1⟩, -⟩ := hs'
      exact k0 i1 f0 e0 g1
  · obtain ⟨f0, f1, -, hσ⟩ := hJ
    obtain ⟨e0, -⟩ := hE'
    intro v hv
    subst hv
    cases v with
    | none => exact hs'.elim
    | some v1 =>
      obtain ⟨⟨i1, rfl, g1⟩, -⟩ := hs'
      exact k1 i1 f0 f1 e0 g1
  · obtain ⟨f0, f1, f2, -, hσ⟩ := hJ
    obtain ⟨e0, e1, -⟩ := hE'
    intro v hv
    subst hv
    cases v with
    | none => exact hs'.elim
    | some v1 =>
      obtain ⟨⟨i1, rfl, g1⟩, -⟩ := hs'
      exact k2 i1 f0 f1 f2 e0 e1 g1
  · obtain ⟨f0, f1, f2, f3, -, hσ⟩ := hJ
    obtain ⟨e0, e1, -⟩ := hE'
    intro v hv
    subst hv
    cases v with
    | none => exact hs'.elim
    | some v1 =>
      obtain ⟨⟨i1, rfl, g1⟩, -⟩ := hs'
      exact k3 i1 f0 f1 f2 f3 e0 e1 g1
  · obtain ⟨f0, f1, f2, f3, -, f5, hσ⟩ := hJ
    obtain ⟨e0, e1, e2, -⟩ := hE'
    intro v hv
    subst hv
    cases v with
    | none => exact hs'.elim
    | some v1 =>
      obtain ⟨⟨i1, rfl, g1⟩, -⟩ := hs'
      exact k4 i1 f0 f1 f2 f3 f5 e0 e1 e2 g1
  · obtain ⟨f0, f1, f2, f3, -, f5, f6, hσ⟩ := hJ
    obtain ⟨e0, e1, e2, -⟩ := hE'
    obtain ⟨p0, p1, p2, p3, -⟩ := hL'
    obtain ⟨v1, r1, rfl, ⟨i1, rfl, g1⟩, hs1⟩ := sg_tc hs'
    obtain ⟨v2, r2, rfl, ⟨i2, rfl, g2⟩, hs2⟩ := sg_tc hs1
    obtain ⟨v3, r3, rfl, rfl, hs3⟩ := sg_tc hs2
    obtain ⟨v4, r4, rfl, rfl, hs4⟩ := sg_tc hs3
    obtain rfl := sg_tn hs4
    exact k5 L' i1 i2 f0 f1 f2 f3 f5 f6 e0 e1 e2 p0 p1 p2 p3 g1 g2
  · obtain ⟨f0, f1, f2, f3, -, f5, f6, hσ⟩ := hJ
    obtain ⟨e0, e1, e2, -⟩ := hE'
    intro v hv
    subst hv
    cases v with
    | none => exact hs'.elim
    | some v1 =>
      obtain ⟨⟨i1, rfl, g1⟩, -⟩ := hs'
      exact k6 i1 f0 f1 f2 f3 f5 f6 e0 e1 e2 g1
def sg_se_x1_Z : List sg_z := [(41, [(0, .inr (.inl [0])), (3, .inl (false, (1, .ofNat 1, .ofNat 0)))], [.inr (.inl [6]), .inr (.inl [40])], [], [(1, [(.ofNat 0, .ofNat 2)])], [], [])]
set_option maxRecDepth 1000000 in
theorem sg_se_x1_g : sg_go [] [40] 3000 113 32 0 2 [(0, [(.ofNat 0, .ofNat 0)]), (1, [(.ofNat 0, .ofNat 2)])] [] [] [] [(0, .inr (.inl [0])), (3, .inl (false, (1, .ofNat 1, .ofNat 0)))] [] [] sg_se_x1_Z = true := by decide +kernel
set_option maxRecDepth 100000 in
theorem sg_se_x1 {Q : Option Value × am_S → Prop} {d : Nat} {S : am_S} {L : am_L} {x1 : Int} (hd : 0 ≤ d) (hP : ax_P0 none S) (l0 : lc L 0 0) (l3 : li L 3 x1) (b1 : (0 ≤ x1 ∧ x1 ≤ 2))
    (k0 : ∀ (L' : am_L), (0 ≤ x1 ∧ x1 ≤ 2) → lc L' 0 0 → li L' 3 x1 → am_V none d 113 40 L' ((.ref 6) :: (.ref 40) :: []) S Q) : am_V none d 113 32 L ([]) S Q := by
  refine sg_use sg_se_x1_g hd hP (sg_xs [0, x1]) ⟨⟨Int.le_refl 0, Int.le_refl 0⟩, b1, trivial⟩ trivial trivial trivial ⟨l0, l3, trivial⟩ trivial ?_
  intro z hz x' L' st' S' hx hP' hW hL' hs' hJ hE' hT' hD'
  have q1 : x' 1 = x1 := hx 1 (by decide)
  subst q1
  have eS : S' = S := hW.1 rfl
  subst eS
  simp only [sg_se_x1_Z, List.mem_cons, List.not_mem_nil, or_false] at hz
  rcases hz with rfl
  · have hσ := hJ
    obtain ⟨e0, -⟩ := hE'
    obtain ⟨p0, p1, -⟩ := hL'
    obtain ⟨v1, r1, rfl, rfl, hs1⟩ := sg_tc hs'
    obtain ⟨v2, r2, rfl, rfl, hs2⟩ := sg_tc hs1
    obtain rfl := sg_tn hs2
    exact k0 L' e0 p0 p1
def sg_se_x2_Z : List sg_z := [(0, [], [.inl (false, (2, .ofNat 1, .ofNat 0))], [(0, 40, (0, .ofNat 0, .ofNat 2), (2, .ofNat 1, .ofNat 0), (0, .ofNat 0, .ofNat 0)), (2, 0, (1, .ofNat 1, .ofNat 0), (0, .ofNat 0, .ofNat 0), (0, .ofNat 0, .ofNat 0))], [(1, [(.ofNat 0, .ofNat 0)]), (2, [(.negSucc 3, .negSucc 3), (.ofNat 0, .ofNat 1000000)])], [], []),
  (91, [(0, .inr (.inl [0])), (3, .inl (false, (0, .ofNat 0, .ofNat 2)))], [.inr (.inl [6]), .inr (.inl [40])], [(2, 1, (1, .ofNat 1, .ofNat 0), (0, .ofNat 0, .ofNat 1), (0, .ofNat 0, .ofNat 0)), (2, 1, (2, .ofNat 1, .ofNat 0), (0, .ofNat 0, .negSucc 3), (0, .ofNat 0, .ofNat 0)), (0, 40, (0, .ofNat 0, .ofNat 2), (2, .ofNat 1, .ofNat 0), (0, .ofNat 0, .ofNat 0)), (2, 1, (1, .ofNat 1, .ofNat 0), (0, .ofNat 0, .ofNat 0), (0, .ofNat 0, .ofNat 0))], [(1, [(.ofNat 2, .ofNat 2)]), (2, [(.ofNat 0, .ofNat 1000000)])], [], []),
  (0, [], [.inl (false, (3, .ofNat 1, .ofNat 0))], [(0, 40, (0, .ofNat 0, .ofNat 3), (3, .ofNat 1, .ofNat 0), (0, .ofNat 0, .ofNat 0)), (2, 0, (1, .ofNat 1, .ofNat 0), (0, .ofNat 0, .ofNat 1), (0, .ofNat 0, .ofNat 0)), (2, 1, (2, .ofNat 1, .ofNat 0), (0, .ofNat 0, .negSucc 3), (0, .ofNat 0, .ofNat 0)), (0, 40, (0, .ofNat 0, .ofNat 2), (2, .ofNat 1, .ofNat 0), (0, .ofNat 0, .ofNat 0)), (2, 1, (1, .ofNat 1, .ofNat 0), (0, .ofNat 0, .ofNat 0), (0, .ofNat 0, .ofNat 0))], [(1, [(.ofNat 1, .ofNat 1)]), (2, [(.ofNat 0, .ofNat 1000000)])], [], []),
  (0, [], [.inl (false, (0, .ofNat 0, .negSucc 3))], [(0, 40, (0, .ofNat 0, .ofNat 2), (0, .ofNat 0, .negSucc 3), (0, .ofNat 0, .ofNat 0)), (2, 0, (2, .ofNat 1, .ofNat 0), (0, .ofNat 0, .negSucc 3), (0, .ofNat 0, .ofNat 0)), (0, 40, (0, .ofNat 0, .ofNat 2), (2, .ofNat 1, .ofNat 0), (0, .ofNat 0, .ofNat 0)), (2, 1, (1, .ofNat 1, .ofNat 0), (0, .ofNat 0, .ofNat 0), (0, .ofNat 0, .ofNat 0))], [(1, [(.ofNat 1, .ofNat 2)]), (2, [(.negSucc 3, .negSucc 3)])], [], [])]
set_option maxRecDepth 1000000 in
theorem sg_se_x2_g : sg_go [] [90] 3000 113 43 0 2 [(0, [(.ofNat 0, .ofNat 0)]), (1, [(.ofNat 0, .ofNat 2)])] [] [] [] [(0, .inr (.inl [0])), (3, .inl (false, (1, .ofNat 1, .ofNat 0)))] [] [] sg_se_x2_Z = true := by decide +kernel
set_option maxRecDepth 100000 in
theorem sg_se_x2 {Q : Option Value × am_S → Prop} {d : Nat} {S : am_S} {L : am_L} {x1 : Int} (hd : 0 ≤ d) (hP : ax_P0 none S) (l0 : lc L 0 0) (l3 : li L 3 x1) (b1 : (0 ≤ x1 ∧ x1 ≤ 2))
    (k0 : ∀ (x2 : Int) (i1 : Int32), x1 = 0 → rd S 40 2 = x2 → (0 ≤ x1 ∧ x1 ≤ 0) → ((-4) ≤ x2 ∧ x2 ≤ (-4)) ∨ (0 ≤ x2 ∧ x2 ≤ 1000000) → i1.toInt = x2 → Q (some (.int i1), S))
    (k1 : ∀ (x2 : Int) (L' : am_L), x1 ≠ 0 → rd S 40 2 = x2 → x2 ≠ (-4) → x1 ≠ 1 → (2 ≤ x1 ∧ x1 ≤ 2) → (0 ≤ x2 ∧ x2 ≤ 1000000) → lc L' 0 0 → li L' 3 2 → am_V none d 113 90 L' ((.ref 6) :: (.ref 40) :: []) S Q)
    (k2 : ∀ (x2 x3 : Int) (i1 : Int32), x1 ≠ 0 → rd S 40 2 = x2 → x2 ≠ (-4) → x1 = 1 → rd S 40 3 = x3 → (1 ≤ x1 ∧ x1 ≤ 1) → (0 ≤ x2 ∧ x2 ≤ 1000000) → i1.toInt = x3 → Q (some (.int i1), S))
    (k3 : ∀ (x2 : Int) (i1 : Int32), x1 ≠ 0 → rd S 40 2 = x2 → x2 = (-4) → rd S 40 2 = (-4) → (1 ≤ x1 ∧ x1 ≤ 2) → ((-4) ≤ x2 ∧ x2 ≤ (-4)) → i1.toInt = (-4) → Q (some (.int i1), S)) : am_V none d 113 43 L ([]) S Q := by
  refine sg_use sg_se_x2_g hd hP (sg_xs [0, x1]) ⟨⟨Int.le_refl 0, Int.le_refl 0⟩, b1, trivial⟩ trivial trivial trivial ⟨l0, l3, trivial⟩ trivial ?_
  intro z hz x' L' st' S' hx hP' hW hL' hs' hJ hE' hT' hD'
  have q1 : x' 1 = x1 := hx 1 (by decide)
  subst q1
  have eS : S' = S := hW.1 rfl
  subst eS
  simp only [sg_se_x2_Z, List.mem_cons, List.not_mem_nil, or_false] at hz
  rcases hz with rfl | rfl | rfl | rfl
  · obtain ⟨f0, f1, hσ⟩ := hJ
    obtain ⟨e0, e1, -⟩ := hE'
    intro v hv
    subst hv
    cases v with
    | none => exact hs'.elim
    | some v1 =>
      obtain ⟨⟨i1, rfl, g1⟩, -⟩ := hs'
      exact k0 (x' 2) i1 f0 f1 e0 e1 g1
  · obtain ⟨f0, f1, f2, f3, hσ⟩ := hJ
    obtain ⟨e0, e1, -⟩ := hE'
    obtain ⟨p0, p1, -⟩ := hL'
    obtain ⟨v1, r1, rfl, rfl, hs1⟩ := sg_tc hs'
    obtain ⟨v2, r2, rfl, rfl, hs2⟩ := sg_tc hs1
    obtain rfl := sg_tn hs2
    exact k1 (x' 2) L' f0 f1 f2 f3 e0 e1 p0 p1
  · obtain ⟨f0, f1, f2, f3, f4, hσ⟩ := hJ
    obtain ⟨e0, e1, -⟩ := hE'
    intro v hv
    subst hv
    cases v with
    | none => exact hs'.elim
    | some v1 =>
      obtain ⟨⟨i1, rfl, g1⟩, -⟩ := hs'
      exact k2 (x' 2) (x' 3) i1 f0 f1 f2 f3 f4 e0 e1 g1
  · obtain ⟨f0, f1, f2, f3, hσ⟩ := hJ
    obtain ⟨e0, e1, -⟩ := hE'
    intro v hv
    subst hv
    cases v with
    | none => exact hs'.elim
    | some v1 =>
      obtain ⟨⟨i1, rfl, g1⟩, -⟩ := hs'
      exact k3 (x' 2) i1 f0 f1 f2 f3 e0 e1 g1
def sg_mo_a_Z : List sg_z := [(7, [(0, .inr (.inl [122])), (1, .inl (false, (1, .ofNat 1, .ofNat 0))), (2, .inl (false, (2, .ofNat 1, .ofNat 0))), (3, .inl (false, (3, .ofNat 1, .ofNat 0))), (4, .inl (false, (0, .ofNat 0, .ofNat 0))), (5, .inl (false, (0, .ofNat 0, .ofNat 0)))], [], [], [(1, [(.ofNat 0, .ofNat 1)]), (2, [(.ofNat 0, .ofNat 9)]), (3, [(.ofNat 0, .ofNat 1003700)])], [], [])]
set_option maxRecDepth 1000000 in
theorem sg_mo_a_g : sg_go [] [6] 3000 196 0 0 4 [(0, [(.ofNat 0, .ofNat 0)]), (1, [(.ofNat 0, .ofNat 1)]), (2, [(.ofNat 0, .ofNat 9)]), (3, [(.ofNat 0, .ofNat 1003700)])] [] [] [] [(0, .inr (.inl [122])), (1, .inl (false, (1, .ofNat 1, .ofNat 0))), (2, .inl (false, (2, .ofNat 1, .ofNat 0))), (3, .inl (false, (3, .ofNat 1, .ofNat 0)))] [] [] sg_mo_a_Z = true := by decide +kernel
set_option maxRecDepth 100000 in
theorem sg_mo_a {Q : Option Value × am_S → Prop} {d : Nat} {S : am_S} {L : am_L} {x1 x2 x3 : Int} (hd : 0 ≤ d) (hP : ax_P0 none S) (l0 : lc L 0 122) (l1 : li L 1 x1) (l2 : li L 2 x2) (l3 : li L 3 x3) (b1 : (0 ≤ x1 ∧ x1 ≤ 1)) (b2 : (0 ≤ x2 ∧ x2 ≤ 9)) (b3 : (0 ≤ x3 ∧ x3 ≤ 1003700))
    (k0 : ∀ (L' : am_L), (0 ≤ x1 ∧ x1 ≤ 1) → (0 ≤ x2 ∧ x2 ≤ 9) → (0 ≤ x3 ∧ x3 ≤ 1003700) → lc L' 0 122 → li L' 1 x1 → li L' 2 x2 → li L' 3 x3 → li L' 4 0 → li L' 5 0 → am_V none d 196 6 L' ([]) S Q) : am_V none d 196 0 L ([]) S Q := by
  refine sg_use sg_mo_a_g hd hP (sg_xs [0, x1, x2, x3]) ⟨⟨Int.le_refl 0, Int.le_refl 0⟩, b1, b2, b3, trivial⟩ trivial trivial trivial ⟨l0, l1, l2, l3, trivial⟩ trivial ?_
  intro z hz x' L' st' S' hx hP' hW hL' hs' hJ hE' hT' hD'
  have q1 : x' 1 = x1 := hx 1 (by decide)
  subst q1
  have q2 : x' 2 = x2 := hx 2 (by decide)
  subst q2
  have q3 : x' 3 = x3 := hx 3 (by decide)
  subst q3
  have eS : S' = S := hW.1 rfl
  subst eS
  simp only [sg_mo_a_Z, List.mem_cons, List.not_mem_nil, or_false] at hz
  rcases hz with rfl
  · have hσ := hJ
    obtain ⟨e0, e1, e2, -⟩ := hE'
    obtain ⟨p0, p1, p2, p3, p4, p5, -⟩ := hL'
    obtain rfl := sg_tn hs'
    exact k0 L' e0 e1 e2 p0 p1 p2 p3 p4 p5
def sg_mo_b_Z : List sg_z := [(0, [], [.inl (false, (4, .ofNat 1, .ofNat 0))], [(2, 3, (5, .ofNat 1, .ofNat 0), (6, .ofNat 1, .ofNat 0), (0, .ofNat 0, .ofNat 0)), (0, 122, (0, .ofNat 0, .ofNat 5), (6, .ofNat 1, .ofNat 0), (0, .ofNat 0, .ofNat 0))], [(1, [(.ofNat 0, .ofNat 1)]), (2, [(.ofNat 0, .ofNat 9)]), (3, [(.ofNat 0, .ofNat 1003700)]), (4, [(.ofNat 0, .ofNat 16)]), (5, [(.ofNat 0, .ofNat 16)]), (6, [(.ofNat 0, .ofNat 16)])], [], []),
  (22, [(0, .inr (.inl [122])), (1, .inl (false, (1, .ofNat 1, .ofNat 0))), (2, .inl (false, (2, .ofNat 1, .ofNat 0))), (3, .inl (false, (3, .ofNat 1, .ofNat 0))), (4, .inl (false, (4, .ofNat 1, .ofNat 0))), (5, .inl (false, (5, .ofNat 1, .ofNat 0))), (6, .inl (false, (0, .ofNat 0, .ofNat 0))), (7, .inl (false, (0, .ofNat 0, .ofNat 0)))], [], [(2, 2, (5, .ofNat 1, .ofNat 0), (6, .ofNat 1, .ofNat 0), (0, .ofNat 0, .ofNat 0)), (0, 122, (0, .ofNat 0, .ofNat 5), (6, .ofNat 1, .ofNat 0), (0, .ofNat 0, .ofNat 0))], [(1, [(.ofNat 0, .ofNat 1)]), (2, [(.ofNat 0, .ofNat 9)]), (3, [(.ofNat 0, .ofNat 1003700)]), (4, [(.ofNat 0, .ofNat 16)]), (5, [(.ofNat 0, .ofNat 15)]), (6, [(.ofNat 1, .ofNat 16)])], [], [])]
set_option maxRecDepth 1000000 in
theorem sg_mo_b_g : sg_go [] [21] 3000 196 6 0 6 [(0, [(.ofNat 0, .ofNat 0)]), (1, [(.ofNat 0, .ofNat 1)]), (2, [(.ofNat 0, .ofNat 9)]), (3, [(.ofNat 0, .ofNat 1003700)]), (4, [(.ofNat 0, .ofNat 16)]), (5, [(.ofNat 0, .ofNat 16)])] [] [] [] [(0, .inr (.inl [122])), (1, .inl (false, (1, .ofNat 1, .ofNat 0))), (2, .inl (false, (2, .ofNat 1, .ofNat 0))), (3, .inl (false, (3, .ofNat 1, .ofNat 0))), (4, .inl (false, (4, .ofNat 1, .ofNat 0))), (5, .inl (false, (5, .ofNat 1, .ofNat 0)))] [] [] sg_mo_b_Z = true := by decide +kernel
set_option maxRecDepth 100000 in
theorem sg_mo_b {Q : Option Value × am_S → Prop} {d : Nat} {S : am_S} {L : am_L} {x1 x2 x3 x4 x5 : Int} (hd : 0 ≤ d) (hP : ax_P0 none S) (l0 : lc L 0 122) (l1 : li L 1 x1) (l2 : li L 2 x2) (l3 : li L 3 x3) (l4 : li L 4 x4) (l5 : li L 5 x5) (b1 : (0 ≤ x1 ∧ x1 ≤ 1)) (b2 : (0 ≤ x2 ∧ x2 ≤ 9)) (b3 : (0 ≤ x3 ∧ x3 ≤ 1003700)) (b4 : (0 ≤ x4 ∧ x4 ≤ 16)) (b5 : (0 ≤ x5 ∧ x5 ≤ 16))
    (k0 : ∀ (x6 : Int) (i1 : Int32), rd S 122 5 = x6 → x6 ≤ x5 → (0 ≤ x1 ∧ x1 ≤ 1) → (0 ≤ x2 ∧ x2 ≤ 9) → (0 ≤ x3 ∧ x3 ≤ 1003700) → (0 ≤ x4 ∧ x4 ≤ 16) → (0 ≤ x5 ∧ x5 ≤ 16) → (0 ≤ x6 ∧ x6 ≤ 16) → i1.toInt = x4 → Q (some (.int i1), S))
    (k1 : ∀ (x6 : Int) (L' : am_L), rd S 122 5 = x6 → x5 < x6 → (0 ≤ x1 ∧ x1 ≤ 1) → (0 ≤ x2 ∧ x2 ≤ 9) → (0 ≤ x3 ∧ x3 ≤ 1003700) → (0 ≤ x4 ∧ x4 ≤ 16) → (0 ≤ x5 ∧ x5 ≤ 15) → (1 ≤ x6 ∧ x6 ≤ 16) → lc L' 0 122 → li L' 1 x1 → li L' 2 x2 → li L' 3 x3 → li L' 4 x4 → li L' 5 x5 → li L' 6 0 → li L' 7 0 → am_V none d 196 21 L' ([]) S Q) : am_V none d 196 6 L ([]) S Q := by
  refine sg_use sg_mo_b_g hd hP (sg_xs [0, x1, x2, x3, x4, x5]) ⟨⟨Int.le_refl 0, Int.le_refl 0⟩, b1, b2, b3, b4, b5, trivial⟩ trivial trivial trivial ⟨l0, l1, l2, l3, l4, l5, trivial⟩ trivial ?_
  intro z hz x' L' st' S' hx hP' hW hL' hs' hJ hE' hT' hD'
  have q1 : x' 1 = x1 := hx 1 (by decide)
  subst q1
  have q2 : x' 2 = x2 := hx 2 (by decide)
  subst q2
  have q3 : x' 3 = x3 := hx 3 (by decide)
  subst q3
  have q4 : x' 4 = x4 := hx 4 (by decide)
  subst q4
  have q5 : x' 5 = x5 := hx 5 (by decide)
  subst q5
  have eS : S' = S := hW.1 rfl
  subst eS
  simp only [sg_mo_b_Z, List.mem_cons, List.not_mem_nil, or_false] at hz
  rcases hz with rfl | rfl
  · obtain ⟨f0, f1, hσ⟩ := hJ
    obtain ⟨e0, e1, e2, e3, e4, e5, -⟩ := hE'
    intro v hv
    subst hv
    cases v with
    | none => exact hs'.elim
    | some v1 =>
      obtain ⟨⟨i1, rfl, g1⟩, -⟩ := hs'
      exact k0 (x' 6) i1 f0 f1 e0 e1 e2 e3 e4 e5 g1
  · obtain ⟨f0, f1, hσ⟩ := hJ
    obtain ⟨e0, e1, e2, e3, e4, e5, -⟩ := hE'
    obtain ⟨p0, p1, p2, p3, p4, p5, p6, p7, -⟩ := hL'
    obtain rfl := sg_tn hs'
    exact k1 (x' 6) L' f0 f1 e0 e1 e2 e3 e4 e5 p0 p1 p2 p3 p4 p5 p6 p7
def sg_mo_c_Z : List sg_z := [(7, [(0, .inr (.inl [122])), (1, .inl (false, (1, .ofNat 1, .ofNat 0))), (2, .inl (false, (2, .ofNat 1, .ofNat 0))), (3, .inl (false, (3, .ofNat 1, .ofNat 0))), (4, .inl (false, (4, .ofNat 1, .ofNat 0))), (5, .inl (false, (5, .ofNat 1, .ofNat 1))), (6, .inl (false, (0, .ofNat 0, .ofNat 0))), (7, .inl (false, (7, .ofNat 1, .ofNat 0)))], [], [(2, 0, (6, .ofNat 1, .ofNat 0), (0, .ofNat 0, .ofNat 0), (0, .ofNat 0, .ofNat 0)), (2, 3, (7, .ofNat 1, .ofNat 0), (8, .ofNat 1, .ofNat 0), (0, .ofNat 0, .ofNat 0)), (0, 122, (0, .ofNat 0, .ofNat 0), (8, .ofNat 1, .ofNat 0), (0, .ofNat 0, .ofNat 0))], [(1, [(.ofNat 0, .ofNat 1)]), (2, [(.ofNat 0, .ofNat 9)]), (3, [(.ofNat 0, .ofNat 1003700)]), (4, [(.ofNat 0, .ofNat 16)]), (5, [(.ofNat 0, .ofNat 15)]), (6, [(.ofNat 0, .ofNat 0)]), (7, [(.ofNat 0, .ofNat 8)]), (8, [(.ofNat 0, .ofNat 8)])], [], []),
  (7, [(0, .inr (.inl [122])), (1, .inl (false, (1, .ofNat 1, .ofNat 0))), (2, .inl (false, (2, .ofNat 1, .ofNat 0))), (3, .inl (false, (3, .ofNat 1, .ofNat 0))), (4, .inl (false, (4, .ofNat 1, .ofNat 1))), (5, .inl (false, (5, .ofNat 1, .ofNat 1))), (6, .inl (false, (0, .ofNat 0, .ofNat 1))), (7, .inl (false, (7, .ofNat 1, .ofNat 0)))], [], [(2, 1, (6, .ofNat 1, .ofNat 0), (0, .ofNat 0, .ofNat 0), (0, .ofNat 0, .ofNat 0)), (2, 3, (7, .ofNat 1, .ofNat 0), (8, .ofNat 1, .ofNat 0), (0, .ofNat 0, .ofNat 0)), (0, 122, (0, .ofNat 0, .ofNat 0), (8, .ofNat 1, .ofNat 0), (0, .ofNat 0, .ofNat 0))], [(1, [(.ofNat 0, .ofNat 1)]), (2, [(.ofNat 0, .ofNat 9)]), (3, [(.ofNat 0, .ofNat 1003700)]), (4, [(.ofNat 0, .ofNat 16)]), (5, [(.ofNat 0, .ofNat 15)]), (6, [(.ofNat 1, .ofNat 1)]), (7, [(.ofNat 0, .ofNat 8)]), (8, [(.ofNat 0, .ofNat 8)])], [], []),
  (22, [(0, .inr (.inl [122])), (1, .inl (false, (1, .ofNat 1, .ofNat 0))), (2, .inl (false, (2, .ofNat 1, .ofNat 0))), (3, .inl (false, (3, .ofNat 1, .ofNat 0))), (4, .inl (false, (4, .ofNat 1, .ofNat 0))), (5, .inl (false, (5, .ofNat 1, .ofNat 0))), (6, .inl (false, (0, .ofNat 0, .ofNat 1))), (7, .inl (false, (7, .ofNat 1, .ofNat 1))), (8, .inl (false, (11, .ofNat 1, .ofNat 0)))], [], [(2, 1, (6, .ofNat 1, .ofNat 0), (0, .ofNat 0, .ofNat 0), (0, .ofNat 0, .ofNat 0)), (0, 123, (7, .ofNat 1, .ofNat 0), (10, .ofNat 1, .ofNat 0), (0, .ofNat 0, .ofNat 0)), (2, 5, (10, .ofNat 1, .ofNat 0), (3, .ofNat 1, .ofNat 0), (0, .ofNat 0, .ofNat 0)), (0, 123, (7, .ofNat 1, .ofNat 0), (10, .ofNat 1, .ofNat 0), (0, .ofNat 0, .ofNat 0)), (2, 0, (0, .ofNat 0, .ofNat 0), (0, .ofNat 0, .ofNat 0), (0, .ofNat 0, .ofNat 0)), (2, 0, (9, .ofNat 1, .ofNat 0), (0, .ofNat 0, .negSucc 3), (0, .ofNat 0, .ofNat 0)), (0, 130, (5, .ofNat 1, .ofNat 0), (9, .ofNat 1, .ofNat 0), (0, .ofNat 0, .ofNat 0)), (2, 2, (7, .ofNat 1, .ofNat 0), (8, .ofNat 1, .ofNat 0), (0, .ofNat 0, .ofNat 0)), (0, 122, (0, .ofNat 0, .ofNat 0), (8, .ofNat 1, .ofNat 0), (0, .ofNat 0, .ofNat 0))], [(1, [(.ofNat 0, .ofNat 1)]), (2, [(.ofNat 0, .ofNat 9)]), (3, [(.ofNat 0, .ofNat 1003700)]), (4, [(.ofNat 0, .ofNat 16)]), (5, [(.ofNat 0, .ofNat 15)]), (6, [(.ofNat 1, .ofNat 1)]), (7, [(.ofNat 0, .ofNat 7)]), (8, [(.ofNat 1, .ofNat 8)]), (9, [(.negSucc 3, .negSucc 3)]), (10, [(.ofNat 0, .ofNat 1000000)]), (11, [(.negSucc 999999, .ofNat 1003700)])], [((3, .ofNat 1, .ofNat 0), (10, .negSucc 0, .ofNat 0), (11, .ofNat 1, .ofNat 0))], []),
  (22, [(0, .inr (.inl [122])), (1, .inl (false, (1, .ofNat 1, .ofNat 0))), (2, .inl (false, (2, .ofNat 1, .ofNat 0))), (3, .inl (false, (3, .ofNat 1, .ofNat 0))), (4, .inl (false, (4, .ofNat 1, .ofNat 0))), (5, .inl (false, (5, .ofNat 1, .ofNat 0))), (6, .inl (false, (0, .ofNat 0, .ofNat 0))), (7, .inl (false, (7, .ofNat 1, .ofNat 1))), (8, .inl (false, (11, .ofNat 1, .ofNat 0)))], [], [(2, 0, (0, .ofNat 0, .ofNat 0), (0, .ofNat 0, .ofNat 0), (0, .ofNat 0, .ofNat 0)), (2, 0, (1, .ofNat 1, .ofNat 0), (14, .ofNat 1, .ofNat 0), (0, .ofNat 0, .ofNat 0)), (0, 124, (7, .ofNat 1, .ofNat 0), (14, .ofNat 1, .ofNat 0), (0, .ofNat 0, .ofNat 0)), (0, 125, (7, .ofNat 1, .ofNat 0), (12, .ofNat 1, .ofNat 0), (0, .ofNat 0, .ofNat 0)), (2, 5, (2, .ofNat 1, .ofNat 0), (12, .ofNat 1, .ofNat 0), (0, .ofNat 0, .ofNat 0)), (0, 125, (7, .ofNat 1, .ofNat 0), (12, .ofNat 1, .ofNat 0), (0, .ofNat 0, .ofNat 0)), (2, 0, (6, .ofNat 1, .ofNat 0), (0, .ofNat 0, .ofNat 0), (0, .ofNat 0, .ofNat 0)), (0, 123, (7, .ofNat 1, .ofNat 0), (10, .ofNat 1, .ofNat 0), (0, .ofNat 0, .ofNat 0)), (2, 5, (10, .ofNat 1, .ofNat 0), (3, .ofNat 1, .ofNat 0), (0, .ofNat 0, .ofNat 0)), (0, 123, (7, .ofNat 1, .ofNat 0), (10, .ofNat 1, .ofNat 0), (0, .ofNat 0, .ofNat 0)), (2, 0, (0, .ofNat 0, .ofNat 0), (0, .ofNat 0, .ofNat 0), (0, .ofNat 0, .ofNat 0)), (2, 0, (9, .ofNat 1, .ofNat 0), (0, .ofNat 0, .negSucc 3), (0, .ofNat 0, .ofNat 0)), (0, 130, (5, .ofNat 1, .ofNat 0), (9, .ofNat 1, .ofNat 0), (0, .ofNat 0, .ofNat 0)), (2, 2, (7, .ofNat 1, .ofNat 0), (8, .ofNat 1, .ofNat 0), (0, .ofNat 0, .ofNat 0)), (0, 122, (0, .ofNat 0, .ofNat 0), (8, .ofNat 1, .ofNat 0), (0, .ofNat 0, .ofNat 0))], [(1, [(.ofNat 0, .ofNat 1)]), (2, [(.ofNat 0, .ofNat 9)]), (3, [(.ofNat 0, .ofNat 1003700)]), (4, [(.ofNat 0, .ofNat 16)]), (5, [(.ofNat 0, .ofNat 15)]), (6, [(.ofNat 0, .ofNat 0)]), (7, [(.ofNat 0, .ofNat 7)]), (8, [(.ofNat 1, .ofNat 8)]), (9, [(.negSucc 3, .negSucc 3)]), (10, [(.ofNat 0, .ofNat 1000000)]), (11, [(.negSucc 999999, .ofNat 1003700)]), (12, [(.ofNat 0, .ofNat 9)]), (14, [(.ofNat 0, .ofNat 1)])], [((3, .ofNat 1, .ofNat 0), (10, .negSucc 0, .ofNat 0), (11, .ofNat 1, .ofNat 0))], []),
  (22, [(0, .inr (.inl [122])), (1, .inl (false, (1, .ofNat 1, .ofNat 0))), (2, .inl (false, (2, .ofNat 1, .ofNat 0))), (3, .inl (false, (3, .ofNat 1, .ofNat 0))), (4, .inl (false, (4, .ofNat 1, .ofNat 0))), (5, .inl (false, (5, .ofNat 1, .ofNat 0))), (6, .inl (false, (0, .ofNat 0, .ofNat 0))), (7, .inl (false, (7, .ofNat 1, .ofNat 1))), (8, .inl (false, (11, .ofNat 1, .ofNat 0)))], [], [(2, 0, (0, .ofNat 0, .ofNat 0), (0, .ofNat 0, .ofNat 0), (0, .ofNat 0, .ofNat 0)), (2, 5, (15, .ofNat 1, .ofNat 0), (0, .ofNat 0, .ofNat 0), (0, .ofNat 0, .ofNat 0)), (0, 125, (7, .ofNat 1, .ofNat 0), (12, .ofNat 1, .ofNat 0), (0, .ofNat 0, .ofNat 0)), (2, 0, (13, .ofNat 1, .ofNat 0), (0, .ofNat 0, .ofNat 0), (0, .ofNat 0, .ofNat 0)), (2, 1, (1, .ofNat 1, .ofNat 0), (14, .ofNat 1, .ofNat 0), (0, .ofNat 0, .ofNat 0)), (0, 124, (7, .ofNat 1, .ofNat 0), (14, .ofNat 1, .ofNat 0), (0, .ofNat 0, .ofNat 0)), (0, 125, (7, .ofNat 1, .ofNat 0), (12, .ofNat 1, .ofNat 0), (0, .ofNat 0, .ofNat 0)), (2, 5, (2, .ofNat 1, .ofNat 0), (12, .ofNat 1, .ofNat 0), (0, .ofNat 0, .ofNat 0)), (0, 125, (7, .ofNat 1, .ofNat 0), (12, .ofNat 1, .ofNat 0), (0, .ofNat 0, .ofNat 0)), (2, 0, (6, .ofNat 1, .ofNat 0), (0, .ofNat 0, .ofNat 0), (0, .ofNat 0, .ofNat 0)), (0, 123, (7, .ofNat 1, .ofNat 0), (10, .ofNat 1, .ofNat 0), (0, .ofNat 0, .ofNat 0)), (2, 5, (10, .ofNat 1, .ofNat 0), (3, .ofNat 1, .ofNat 0), (0, .ofNat 0, .ofNat 0)), (0, 123, (7, .ofNat 1, .ofNat 0), (10, .ofNat 1, .ofNat 0), (0, .ofNat 0, .ofNat 0)), (2, 0, (0, .ofNat 0, .ofNat 0), (0, .ofNat 0, .ofNat 0), (0, .ofNat 0, .ofNat 0)), (2, 0, (9, .ofNat 1, .ofNat 0), (0, .ofNat 0, .negSucc 3), (0, .ofNat 0, .ofNat 0)), (0, 130, (5, .ofNat 1, .ofNat 0), (9, .ofNat 1, .ofNat 0), (0, .ofNat 0, .ofNat 0)), (2, 2, (7, .ofNat 1, .ofNat 0), (8, .ofNat 1, .ofNat 0), (0, .ofNat 0, .ofNat 0)), (0, 122, (0, .ofNat 0, .ofNat 0), (8, .ofNat 1, .ofNat 0), (0, .ofNat 0, .ofNat 0))], [(1, [(.ofNat 0, .ofNat 1)]), (2, [(.ofNat 0, .ofNat 9)]), (3, [(.ofNat 0, .ofNat 1003700)]), (4, [(.ofNat 0, .ofNat 16)]), (5, [(.ofNat 0, .ofNat 15)]), (6, [(.ofNat 0, .ofNat 0)]), (7, [(.ofNat 0, .ofNat 7)]), (8, [(.ofNat 1, .ofNat 8)]), (9, [(.negSucc 3, .negSucc 3)]), (10, [(.ofNat 0, .ofNat 1000000)]), (11, [(.negSucc 999999, .ofNat 1003700)]), (12, [(.ofNat 0, .ofNat 9)]), (13, [(.ofNat 0, .ofNat 0)]), (14, [(.ofNat 0, .ofNat 1)]), (15, [(.ofNat 0, .ofNat 0)])], [((2, .ofNat 1, .ofNat 0), (12, .ofNat 1, .ofNat 0), (15, .ofNat 1, .ofNat 0)), ((12, .ofNat 1, .ofNat 0), (2, .negSucc 0, .ofNat 0), (13, .ofNat 1, .ofNat 0)), ((3, .ofNat 1, .ofNat 0), (10, .negSucc 0, .ofNat 0), (11, .ofNat 1, .ofNat 0))], []),
  (22, [(0, .inr (.inl [122])), (1, .inl (false, (1, .ofNat 1, .ofNat 0))), (2, .inl (false, (2, .ofNat 1, .ofNat 0))), (3, .inl (false, (3, .ofNat 1, .ofNat 0))), (4, .inl (false, (4, .ofNat 1, .ofNat 0))), (5, .inl (false, (5, .ofNat 1, .ofNat 0))), (6, .inl (false, (0, .ofNat 0, .ofNat 0))), (7, .inl (false, (7, .ofNat 1, .ofNat 1))), (8, .inl (false, (11, .ofNat 1, .ofNat 0)))], [], [(2, 0, (0, .ofNat 0, .ofNat 0), (0, .ofNat 0, .ofNat 0), (0, .ofNat 0, .ofNat 0)), (2, 4, (18, .ofNat 1, .ofNat 0), (17, .ofNat 1, .ofNat 0), (0, .ofNat 0, .ofNat 0)), (0, 128, (5, .ofNat 1, .ofNat 0), (17, .ofNat 1, .ofNat 0), (0, .ofNat 0, .ofNat 0)), (0, 127, (5, .ofNat 1, .ofNat 0), (16, .ofNat 1, .ofNat 0), (0, .ofNat 0, .ofNat 0)), (2, 1, (0, .ofNat 0, .ofNat 1), (0, .ofNat 0, .ofNat 0), (0, .ofNat 0, .ofNat 0)), (2, 4, (15, .ofNat 1, .ofNat 0), (0, .ofNat 0, .ofNat 0), (0, .ofNat 0, .ofNat 0)), (0, 125, (7, .ofNat 1, .ofNat 0), (12, .ofNat 1, .ofNat 0), (0, .ofNat 0, .ofNat 0)), (2, 0, (13, .ofNat 1, .ofNat 0), (0, .ofNat 0, .ofNat 0), (0, .ofNat 0, .ofNat 0)), (2, 1, (1, .ofNat 1, .ofNat 0), (14, .ofNat 1, .ofNat 0), (0, .ofNat 0, .ofNat 0)), (0, 124, (7, .ofNat 1, .ofNat 0), (14, .ofNat 1, .ofNat 0), (0, .ofNat 0, .ofNat 0)), (0, 125, (7, .ofNat 1, .ofNat 0), (12, .ofNat 1, .ofNat 0), (0, .ofNat 0, .ofNat 0)), (2, 5, (2, .ofNat 1, .ofNat 0), (12, .ofNat 1, .ofNat 0), (0, .ofNat 0, .ofNat 0)), (0, 125, (7, .ofNat 1, .ofNat 0), (12, .ofNat 1, .ofNat 0), (0, .ofNat 0, .ofNat 0)), (2, 0, (6, .ofNat 1, .ofNat 0), (0, .ofNat 0, .ofNat 0), (0, .ofNat 0, .ofNat 0)), (0, 123, (7, .ofNat 1, .ofNat 0), (10, .ofNat 1, .ofNat 0), (0, .ofNat 0, .ofNat 0)), (2, 5, (10, .ofNat 1, .ofNat 0), (3, .ofNat 1, .ofNat 0), (0, .ofNat 0, .ofNat 0)), (0, 123, (7, .ofNat 1, .ofNat 0), (10, .ofNat 1, .ofNat 0), (0, .ofNat 0, .ofNat 0)), (2, 0, (0, .ofNat 0, .ofNat 0), (0, .ofNat 0, .ofNat 0), (0, .ofNat 0, .ofNat 0)), (2, 0, (9, .ofNat 1, .ofNat 0), (0, .ofNat 0, .negSucc 3), (0, .ofNat 0, .ofNat 0)), (0, 130, (5, .ofNat 1, .ofNat 0), (9, .ofNat 1, .ofNat 0), (0, .ofNat 0, .ofNat 0)), (2, 2, (7, .ofNat 1, .ofNat 0), (8, .ofNat 1, .ofNat 0), (0, .ofNat 0, .ofNat 0)), (0, 122, (0, .ofNat 0, .ofNat 0), (8, .ofNat 1, .ofNat 0), (0, .ofNat 0, .ofNat 0))], [(1, [(.ofNat 0, .ofNat 1)]), (2, [(.ofNat 0, .ofNat 9)]), (3, [(.ofNat 0, .ofNat 1003700)]), (4, [(.ofNat 0, .ofNat 16)]), (5, [(.ofNat 0, .ofNat 15)]), (6, [(.ofNat 0, .ofNat 0)]), (7, [(.ofNat 0, .ofNat 7)]), (8, [(.ofNat 1, .ofNat 8)]), (9, [(.negSucc 3, .negSucc 3)]), (10, [(.ofNat 0, .ofNat 1000000)]), (11, [(.negSucc 999999, .ofNat 1003700)]), (12, [(.ofNat 0, .ofNat 9)]), (13, [(.ofNat 0, .ofNat 0)]), (14, [(.ofNat 0, .ofNat 1)]), (15, [(.ofNat 1, .ofNat 18)]), (16, [(.ofNat 0, .ofNat 1000000)]), (17, [(.ofNat 0, .ofNat 1000)]), (18, [(.ofNat 1, .ofNat 1003700)])], [((11, .ofNat 1, .ofNat 0), (16, .negSucc 0, .ofNat 0), (18, .ofNat 1, .ofNat 0)), ((2, .ofNat 1, .ofNat 0), (12, .ofNat 1, .ofNat 0), (15, .ofNat 1, .ofNat 0)), ((12, .ofNat 1, .ofNat 0), (2, .negSucc 0, .ofNat 0), (13, .ofNat 1, .ofNat 0)), ((3, .ofNat 1, .ofNat 0), (10, .negSucc 0, .ofNat 0), (11, .ofNat 1, .ofNat 0))], []),
  (22, [(0, .inr (.inl [122])), (1, .inl (false, (1, .ofNat 1, .ofNat 0))), (2, .inl (false, (2, .ofNat 1, .ofNat 0))), (3, .inl (false, (3, .ofNat 1, .ofNat 0))), (4, .inl (false, (4, .ofNat 1, .ofNat 0))), (5, .inl (false, (5, .ofNat 1, .ofNat 0))), (6, .inl (false, (0, .ofNat 0, .ofNat 0))), (7, .inl (false, (7, .ofNat 1, .ofNat 1))), (8, .inl (false, (11, .ofNat 1, .ofNat 0)))], [], [(2, 0, (0, .ofNat 0, .ofNat 0), (0, .ofNat 0, .ofNat 0), (0, .ofNat 0, .ofNat 0)), (2, 4, (19, .ofNat 1, .ofNat 0), (17, .ofNat 1, .ofNat 0), (0, .ofNat 0, .ofNat 0)), (2, 5, (18, .ofNat 1, .ofNat 0), (17, .ofNat 1, .ofNat 0), (0, .ofNat 0, .ofNat 0)), (0, 128, (5, .ofNat 1, .ofNat 0), (17, .ofNat 1, .ofNat 0), (0, .ofNat 0, .ofNat 0)), (0, 127, (5, .ofNat 1, .ofNat 0), (16, .ofNat 1, .ofNat 0), (0, .ofNat 0, .ofNat 0)), (2, 1, (0, .ofNat 0, .ofNat 1), (0, .ofNat 0, .ofNat 0), (0, .ofNat 0, .ofNat 0)), (2, 4, (15, .ofNat 1, .ofNat 0), (0, .ofNat 0, .ofNat 0), (0, .ofNat 0, .ofNat 0)), (0, 125, (7, .ofNat 1, .ofNat 0), (12, .ofNat 1, .ofNat 0), (0, .ofNat 0, .ofNat 0)), (2, 0, (13, .ofNat 1, .ofNat 0), (0, .ofNat 0, .ofNat 0), (0, .ofNat 0, .ofNat 0)), (2, 1, (1, .ofNat 1, .ofNat 0), (14, .ofNat 1, .ofNat 0), (0, .ofNat 0, .ofNat 0)), (0, 124, (7, .ofNat 1, .ofNat 0), (14, .ofNat 1, .ofNat 0), (0, .ofNat 0, .ofNat 0)), (0, 125, (7, .ofNat 1, .ofNat 0), (12, .ofNat 1, .ofNat 0), (0, .ofNat 0, .ofNat 0)), (2, 5, (2, .ofNat 1, .ofNat 0), (12, .ofNat 1, .ofNat 0), (0, .ofNat 0, .ofNat 0)), (0, 125, (7, .ofNat 1, .ofNat 0), (12, .ofNat 1, .ofNat 0), (0, .ofNat 0, .ofNat 0)), (2, 0, (6, .ofNat 1, .ofNat 0), (0, .ofNat 0, .ofNat 0), (0, .ofNat 0, .ofNat 0)), (0, 123, (7, .ofNat 1, .ofNat 0), (10, .ofNat 1, .ofNat 0), (0, .ofNat 0, .ofNat 0)), (2, 5, (10, .ofNat 1, .ofNat 0), (3, .ofNat 1, .ofNat 0), (0, .ofNat 0, .ofNat 0)), (0, 123, (7, .ofNat 1, .ofNat 0), (10, .ofNat 1, .ofNat 0), (0, .ofNat 0, .ofNat 0)), (2, 0, (0, .ofNat 0, .ofNat 0), (0, .ofNat 0, .ofNat 0), (0, .ofNat 0, .ofNat 0)), (2, 0, (9, .ofNat 1, .ofNat 0), (0, .ofNat 0, .negSucc 3), (0, .ofNat 0, .ofNat 0)), (0, 130, (5, .ofNat 1, .ofNat 0), (9, .ofNat 1, .ofNat 0), (0, .ofNat 0, .ofNat 0)), (2, 2, (7, .ofNat 1, .ofNat 0), (8, .ofNat 1, .ofNat 0), (0, .ofNat 0, .ofNat 0)), (0, 122, (0, .ofNat 0, .ofNat 0), (8, .ofNat 1, .ofNat 0), (0, .ofNat 0, .ofNat 0))], [(1, [(.ofNat 0, .ofNat 1)]), (2, [(.ofNat 0, .ofNat 9)]), (3, [(.ofNat 0, .ofNat 1003700)]), (4, [(.ofNat 0, .ofNat 16)]), (5, [(.ofNat 0, .ofNat 15)]), (6, [(.ofNat 0, .ofNat 0)]), (7, [(.ofNat 0, .ofNat 7)]), (8, [(.ofNat 1, .ofNat 8)]), (9, [(.negSucc 3, .negSucc 3)]), (10, [(.ofNat 0, .ofNat 1000000)]), (11, [(.negSucc 999999, .ofNat 1003700)]), (12, [(.ofNat 0, .ofNat 9)]), (13, [(.ofNat 0, .ofNat 0)]), (14, [(.ofNat 0, .ofNat 1)]), (15, [(.ofNat 1, .ofNat 18)]), (16, [(.ofNat 0, .ofNat 1000000)]), (17, [(.ofNat 0, .ofNat 1000)]), (18, [(.negSucc 1999999, .ofNat 1000)]), (19, [(.ofNat 1, .ofNat 2000000)])], [((16, .ofNat 1, .ofNat 0), (11, .negSucc 0, .ofNat 0), (19, .ofNat 1, .ofNat 0)), ((11, .ofNat 1, .ofNat 0), (16, .negSucc 0, .ofNat 0), (18, .ofNat 1, .ofNat 0)), ((2, .ofNat 1, .ofNat 0), (12, .ofNat 1, .ofNat 0), (15, .ofNat 1, .ofNat 0)), ((12, .ofNat 1, .ofNat 0), (2, .negSucc 0, .ofNat 0), (13, .ofNat 1, .ofNat 0)), ((3, .ofNat 1, .ofNat 0), (10, .negSucc 0, .ofNat 0), (11, .ofNat 1, .ofNat 0))], []),
  (22, [(0, .inr (.inl [122])), (1, .inl (false, (1, .ofNat 1, .ofNat 0))), (2, .inl (false, (2, .ofNat 1, .ofNat 0))), (3, .inl (false, (3, .ofNat 1, .ofNat 0))), (4, .inl (false, (4, .ofNat 1, .ofNat 0))), (5, .inl (false, (5, .ofNat 1, .ofNat 0))), (6, .inl (false, (0, .ofNat 0, .ofNat 1))), (7, .inl (false, (7, .ofNat 1, .ofNat 1))), (8, .inl (false, (11, .ofNat 1, .ofNat 0)))], [], [(2, 1, (0, .ofNat 0, .ofNat 1), (0, .ofNat 0, .ofNat 0), (0, .ofNat 0, .ofNat 0)), (2, 5, (19, .ofNat 1, .ofNat 0), (17, .ofNat 1, .ofNat 0), (0, .ofNat 0, .ofNat 0)), (2, 5, (18, .ofNat 1, .ofNat 0), (17, .ofNat 1, .ofNat 0), (0, .ofNat 0, .ofNat 0)), (0, 128, (5, .ofNat 1, .ofNat 0), (17, .ofNat 1, .ofNat 0), (0, .ofNat 0, .ofNat 0)), (0, 127, (5, .ofNat 1, .ofNat 0), (16, .ofNat 1, .ofNat 0), (0, .ofNat 0, .ofNat 0)), (2, 1, (0, .ofNat 0, .ofNat 1), (0, .ofNat 0, .ofNat 0), (0, .ofNat 0, .ofNat 0)), (2, 4, (15, .ofNat 1, .ofNat 0), (0, .ofNat 0, .ofNat 0), (0, .ofNat 0, .ofNat 0)), (0, 125, (7, .ofNat 1, .ofNat 0), (12, .ofNat 1, .ofNat 0), (0, .ofNat 0, .ofNat 0)), (2, 0, (13, .ofNat 1, .ofNat 0), (0, .ofNat 0, .ofNat 0), (0, .ofNat 0, .ofNat 0)), (2, 1, (1, .ofNat 1, .ofNat 0), (14, .ofNat 1, .ofNat 0), (0, .ofNat 0, .ofNat 0)), (0, 124, (7, .ofNat 1, .ofNat 0), (14, .ofNat 1, .ofNat 0), (0, .ofNat 0, .ofNat 0)), (0, 125, (7, .ofNat 1, .ofNat 0), (12, .ofNat 1, .ofNat 0), (0, .ofNat 0, .ofNat 0)), (2, 5, (2, .ofNat 1, .ofNat 0), (12, .ofNat 1, .ofNat 0), (0, .ofNat 0, .ofNat 0)), (0, 125, (7, .ofNat 1, .ofNat 0), (12, .ofNat 1, .ofNat 0), (0, .ofNat 0, .ofNat 0)), (2, 0, (6, .ofNat 1, .ofNat 0), (0, .ofNat 0, .ofNat 0), (0, .ofNat 0, .ofNat 0)), (0, 123, (7, .ofNat 1, .ofNat 0), (10, .ofNat 1, .ofNat 0), (0, .ofNat 0, .ofNat 0)), (2, 5, (10, .ofNat 1, .ofNat 0), (3, .ofNat 1, .ofNat 0), (0, .ofNat 0, .ofNat 0)), (0, 123, (7, .ofNat 1, .ofNat 0), (10, .ofNat 1, .ofNat 0), (0, .ofNat 0, .ofNat 0)), (2, 0, (0, .ofNat 0, .ofNat 0), (0, .ofNat 0, .ofNat 0), (0, .ofNat 0, .ofNat 0)), (2, 0, (9, .ofNat 1, .ofNat 0), (0, .ofNat 0, .negSucc 3), (0, .ofNat 0, .ofNat 0)), (0, 130, (5, .ofNat 1, .ofNat 0), (9, .ofNat 1, .ofNat 0), (0, .ofNat 0, .ofNat 0)), (2, 2, (7, .ofNat 1, .ofNat 0), (8, .ofNat 1, .ofNat 0), (0, .ofNat 0, .ofNat 0)), (0, 122, (0, .ofNat 0, .ofNat 0), (8, .ofNat 1, .ofNat 0), (0, .ofNat 0, .ofNat 0))], [(1, [(.ofNat 0, .ofNat 1)]), (2, [(.ofNat 0, .ofNat 9)]), (3, [(.ofNat 0, .ofNat 1003700)]), (4, [(.ofNat 0, .ofNat 16)]), (5, [(.ofNat 0, .ofNat 15)]), (6, [(.ofNat 0, .ofNat 0)]), (7, [(.ofNat 0, .ofNat 7)]), (8, [(.ofNat 1, .ofNat 8)]), (9, [(.negSucc 3, .negSucc 3)]), (10, [(.ofNat 0, .ofNat 1000000)]), (11, [(.negSucc 999999, .ofNat 1003700)]), (12, [(.ofNat 0, .ofNat 9)]), (13, [(.ofNat 0, .ofNat 0)]), (14, [(.ofNat 0, .ofNat 1)]), (15, [(.ofNat 1, .ofNat 18)]), (16, [(.ofNat 0, .ofNat 1000000)]), (17, [(.ofNat 0, .ofNat 1000)]), (18, [(.negSucc 1999999, .ofNat 1000)]), (19, [(.negSucc 1003699, .ofNat 1000)])], [((16, .ofNat 1, .ofNat 0), (11, .negSucc 0, .ofNat 0), (19, .ofNat 1, .ofNat 0)), ((11, .ofNat 1, .ofNat 0), (16, .negSucc 0, .ofNat 0), (18, .ofNat 1, .ofNat 0)), ((2, .ofNat 1, .ofNat 0), (12, .ofNat 1, .ofNat 0), (15, .ofNat 1, .ofNat 0)), ((12, .ofNat 1, .ofNat 0), (2, .negSucc 0, .ofNat 0), (13, .ofNat 1, .ofNat 0)), ((3, .ofNat 1, .ofNat 0), (10, .negSucc 0, .ofNat 0), (11, .ofNat 1, .ofNat 0))], []),
  (22, [(0, .inr (.inl [122])), (1, .inl (false, (1, .ofNat 1, .ofNat 0))), (2, .inl (false, (2, .ofNat 1, .ofNat 0))), (3, .inl (false, (3, .ofNat 1, .ofNat 0))), (4, .inl (false, (4, .ofNat 1, .ofNat 0))), (5, .inl (false, (5, .ofNat 1, .ofNat 0))), (6, .inl (false, (0, .ofNat 0, .ofNat 0))), (7, .inl (false, (7, .ofNat 1, .ofNat 1))), (8, .inl (false, (11, .ofNat 1, .ofNat 0)))], [], [(2, 0, (0, .ofNat 0, .ofNat 0), (0, .ofNat 0, .ofNat 0), (0, .ofNat 0, .ofNat 0)), (2, 1, (13, .ofNat 1, .ofNat 0), (0, .ofNat 0, .ofNat 2), (0, .ofNat 0, .ofNat 0)), (2, 1, (13, .ofNat 1, .ofNat 0), (0, .ofNat 0, .ofNat 0), (0, .ofNat 0, .ofNat 0)), (2, 1, (1, .ofNat 1, .ofNat 0), (14, .ofNat 1, .ofNat 0), (0, .ofNat 0, .ofNat 0)), (0, 124, (7, .ofNat 1, .ofNat 0), (14, .ofNat 1, .ofNat 0), (0, .ofNat 0, .ofNat 0)), (0, 125, (7, .ofNat 1, .ofNat 0), (12, .ofNat 1, .ofNat 0), (0, .ofNat 0, .ofNat 0)), (2, 5, (2, .ofNat 1, .ofNat 0), (12, .ofNat 1, .ofNat 0), (0, .ofNat 0, .ofNat 0)), (0, 125, (7, .ofNat 1, .ofNat 0), (12, .ofNat 1, .ofNat 0), (0, .ofNat 0, .ofNat 0)), (2, 0, (6, .ofNat 1, .ofNat 0), (0, .ofNat 0, .ofNat 0), (0, .ofNat 0, .ofNat 0)), (0, 123, (7, .ofNat 1, .ofNat 0), (10, .ofNat 1, .ofNat 0), (0, .ofNat 0, .ofNat 0)), (2, 5, (10, .ofNat 1, .ofNat 0), (3, .ofNat 1, .ofNat 0), (0, .ofNat 0, .ofNat 0)), (0, 123, (7, .ofNat 1, .ofNat 0), (10, .ofNat 1, .ofNat 0), (0, .ofNat 0, .ofNat 0)), (2, 0, (0, .ofNat 0, .ofNat 0), (0, .ofNat 0, .ofNat 0), (0, .ofNat 0, .ofNat 0)), (2, 0, (9, .ofNat 1, .ofNat 0), (0, .ofNat 0, .negSucc 3), (0, .ofNat 0, .ofNat 0)), (0, 130, (5, .ofNat 1, .ofNat 0), (9, .ofNat 1, .ofNat 0), (0, .ofNat 0, .ofNat 0)), (2, 2, (7, .ofNat 1, .ofNat 0), (8, .ofNat 1, .ofNat 0), (0, .ofNat 0, .ofNat 0)), (0, 122, (0, .ofNat 0, .ofNat 0), (8, .ofNat 1, .ofNat 0), (0, .ofNat 0, .ofNat 0))], [(1, [(.ofNat 0, .ofNat 1)]), (2, [(.ofNat 0, .ofNat 9)]), (3, [(.ofNat 0, .ofNat 1003700)]), (4, [(.ofNat 0, .ofNat 16)]), (5, [(.ofNat 0, .ofNat 15)]), (6, [(.ofNat 0, .ofNat 0)]), (7, [(.ofNat 0, .ofNat 7)]), (8, [(.ofNat 1, .ofNat 8)]), (9, [(.negSucc 3, .negSucc 3)]), (10, [(.ofNat 0, .ofNat 1000000)]), (11, [(.negSucc 999999, .ofNat 1003700)]), (12, [(.ofNat 0, .ofNat 9)]), (13, [(.negSucc 8, .negSucc 0), (.ofNat 1, .ofNat 1), (.ofNat 3, .ofNat 9)]), (14, [(.ofNat 0, .ofNat 1)])], [((12, .ofNat 1, .ofNat 0), (2, .negSucc 0, .ofNat 0), (13, .ofNat 1, .ofNat 0)), ((3, .ofNat 1, .ofNat 0), (10, .negSucc 0, .ofNat 0), (11, .ofNat 1, .ofNat 0))], []),
  (22, [(0, .inr (.inl [122])), (1, .inl (false, (1, .ofNat 1, .ofNat 0))), (2, .inl (false, (2, .ofNat 1, .ofNat 0))), (3, .inl (false, (3, .ofNat 1, .ofNat 0))), (4, .inl (false, (4, .ofNat 1, .ofNat 0))), (5, .inl (false, (5, .ofNat 1, .ofNat 0))), (6, .inl (false, (0, .ofNat 0, .ofNat 0))), (7, .inl (false, (7, .ofNat 1, .ofNat 1))), (8, .inl (false, (11, .ofNat 1, .ofNat 0)))], [], [(2, 0, (0, .ofNat 0, .ofNat 0), (0, .ofNat 0, .ofNat 0), (0, .ofNat 0, .ofNat 0)), (2, 5, (15, .ofNat 1, .ofNat 0), (0, .ofNat 0, .ofNat 0), (0, .ofNat 0, .ofNat 0)), (0, 125, (7, .ofNat 1, .ofNat 0), (12, .ofNat 1, .ofNat 0), (0, .ofNat 0, .ofNat 0)), (2, 0, (13, .ofNat 1, .ofNat 0), (0, .ofNat 0, .ofNat 2), (0, .ofNat 0, .ofNat 0)), (2, 1, (13, .ofNat 1, .ofNat 0), (0, .ofNat 0, .ofNat 0), (0, .ofNat 0, .ofNat 0)), (2, 1, (1, .ofNat 1, .ofNat 0), (14, .ofNat 1, .ofNat 0), (0, .ofNat 0, .ofNat 0)), (0, 124, (7, .ofNat 1, .ofNat 0), (14, .ofNat 1, .ofNat 0), (0, .ofNat 0, .ofNat 0)), (0, 125, (7, .ofNat 1, .ofNat 0), (12, .ofNat 1, .ofNat 0), (0, .ofNat 0, .ofNat 0)), (2, 5, (2, .ofNat 1, .ofNat 0), (12, .ofNat 1, .ofNat 0), (0, .ofNat 0, .ofNat 0)), (0, 125, (7, .ofNat 1, .ofNat 0), (12, .ofNat 1, .ofNat 0), (0, .ofNat 0, .ofNat 0)), (2, 0, (6, .ofNat 1, .ofNat 0), (0, .ofNat 0, .ofNat 0), (0, .ofNat 0, .ofNat 0)), (0, 123, (7, .ofNat 1, .ofNat 0), (10, .ofNat 1, .ofNat 0), (0, .ofNat 0, .ofNat 0)), (2, 5, (10, .ofNat 1, .ofNat 0), (3, .ofNat 1, .ofNat 0), (0, .ofNat 0, .ofNat 0)), (0, 123, (7, .ofNat 1, .ofNat 0), (10, .ofNat 1, .ofNat 0), (0, .ofNat 0, .ofNat 0)), (2, 0, (0, .ofNat 0, .ofNat 0), (0, .ofNat 0, .ofNat 0), (0, .ofNat 0, .ofNat 0)), (2, 0, (9, .ofNat 1, .ofNat 0), (0, .ofNat 0, .negSucc 3), (0, .ofNat 0, .ofNat 0)), (0, 130, (5, .ofNat 1, .ofNat 0), (9, .ofNat 1, .ofNat 0), (0, .ofNat 0, .ofNat 0)), (2, 2, (7, .ofNat 1, .ofNat 0), (8, .ofNat 1, .ofNat 0), (0, .ofNat 0, .ofNat 0)), (0, 122, (0, .ofNat 0, .ofNat 0), (8, .ofNat 1, .ofNat 0), (0, .ofNat 0, .ofNat 0))], [(1, [(.ofNat 0, .ofNat 1)]), (2, [(.ofNat 0, .ofNat 9)]), (3, [(.ofNat 0, .ofNat 1003700)]), (4, [(.ofNat 0, .ofNat 16)]), (5, [(.ofNat 0, .ofNat 15)]), (6, [(.ofNat 0, .ofNat 0)]), (7, [(.ofNat 0, .ofNat 7)]), (8, [(.ofNat 1, .ofNat 8)]), (9, [(.negSucc 3, .negSucc 3)]), (10, [(.ofNat 0, .ofNat 1000000)]), (11, [(.negSucc 999999, .ofNat 1003700)]), (12, [(.ofNat 0, .ofNat 9)]), (13, [(.ofNat 2, .ofNat 2)]), (14, [(.ofNat 0, .ofNat 1)]), (15, [(.ofNat 0, .ofNat 0)])], [((2, .ofNat 1, .ofNat 0), (12, .ofNat 1, .ofNat 0), (15, .ofNat 1, .ofNat 0)), ((12, .ofNat 1, .ofNat 0), (2, .negSucc 0, .ofNat 0), (13, .ofNat 1, .ofNat 0)), ((3, .ofNat 1, .ofNat 0), (10, .negSucc 0, .ofNat 0), (11, .ofNat 1, .ofNat 0))], []),
  (22, [(0, .inr (.inl [122])), (1, .inl (false, (1, .ofNat 1, .ofNat 0))), (2, .inl (false, (2, .ofNat 1, .ofNat 0))), (3, .inl (false, (3, .ofNat 1, .ofNat 0))), (4, .inl (false, (4, .ofNat 1, .ofNat 0))), (5, .inl (false, (5, .ofNat 1, .ofNat 0))), (6, .inl (false, (0, .ofNat 0, .ofNat 0))), (7, .inl (false, (7, .ofNat 1, .ofNat 1))), (8, .inl (false, (11, .ofNat 1, .ofNat 0)))], [], [(2, 0, (0, .ofNat 0, .ofNat 0), (0, .ofNat 0, .ofNat 0), (0, .ofNat 0, .ofNat 0)), (2, 4, (18, .ofNat 1, .ofNat 0), (17, .ofNat 1, .ofNat 0), (0, .ofNat 0, .ofNat 0)), (0, 128, (5, .ofNat 1, .ofNat 0), (17, .ofNat 1, .ofNat 0), (0, .ofNat 0, .ofNat 0)), (0, 127, (5, .ofNat 1, .ofNat 0), (16, .ofNat 1, .ofNat 0), (0, .ofNat 0, .ofNat 0)), (2, 1, (0, .ofNat 0, .ofNat 1), (0, .ofNat 0, .ofNat 0), (0, .ofNat 0, .ofNat 0)), (2, 4, (15, .ofNat 1, .ofNat 0), (0, .ofNat 0, .ofNat 0), (0, .ofNat 0, .ofNat 0)), (0, 125, (7, .ofNat 1, .ofNat 0), (12, .ofNat 1, .ofNat 0), (0, .ofNat 0, .ofNat 0)), (2, 0, (13, .ofNat 1, .ofNat 0), (0, .ofNat 0, .ofNat 2), (0, .ofNat 0, .ofNat 0)), (2, 1, (13, .ofNat 1, .ofNat 0), (0, .ofNat 0, .ofNat 0), (0, .ofNat 0, .ofNat 0)), (2, 1, (1, .ofNat 1, .ofNat 0), (14, .ofNat 1, .ofNat 0), (0, .ofNat 0, .ofNat 0)), (0, 124, (7, .ofNat 1, .ofNat 0), (14, .ofNat 1, .ofNat 0), (0, .ofNat 0, .ofNat 0)), (0, 125, (7, .ofNat 1, .ofNat 0), (12, .ofNat 1, .ofNat 0), (0, .ofNat 0, .ofNat 0)), (2, 5, (2, .ofNat 1, .ofNat 0), (12, .ofNat 1, .ofNat 0), (0, .ofNat 0, .ofNat 0)), (0, 125, (7, .ofNat 1, .ofNat 0), (12, .ofNat 1, .ofNat 0), (0, .ofNat 0, .ofNat 0)), (2, 0, (6, .ofNat 1, .ofNat 0), (0, .ofNat 0, .ofNat 0), (0, .ofNat 0, .ofNat 0)), (0, 123, (7, .ofNat 1, .ofNat 0), (10, .ofNat 1, .ofNat 0), (0, .ofNat 0, .ofNat 0)), (2, 5, (10, .ofNat 1, .ofNat 0), (3, .ofNat 1, .ofNat 0), (0, .ofNat 0, .ofNat 0)), (0, 123, (7, .ofNat 1, .ofNat 0), (10, .ofNat 1, .ofNat 0), (0, .ofNat 0, .ofNat 0)), (2, 0, (0, .ofNat 0, .ofNat 0), (0, .ofNat 0, .ofNat 0), (0, .ofNat 0, .ofNat 0)), (2, 0, (9, .ofNat 1, .ofNat 0), (0, .ofNat 0, .negSucc 3), (0, .ofNat 0, .ofNat 0)), (0, 130, (5, .ofNat 1, .ofNat 0), (9, .ofNat 1, .ofNat 0), (0, .ofNat 0, .ofNat 0)), (2, 2, (7, .ofNat 1, .ofNat 0), (8, .ofNat 1, .ofNat 0), (0, .ofNat 0, .ofNat 0)), (0, 122, (0, .ofNat 0, .ofNat 0), (8, .ofNat 1, .ofNat 0), (0, .ofNat 0, .ofNat 0))], [(1, [(.ofNat 0, .ofNat 1)]), (2, [(.ofNat 0, .ofNat 9)]), (3, [(.ofNat 0, .ofNat 1003700)]), (4, [(.ofNat 0, .ofNat 16)]), (5, [(.ofNat 0, .ofNat 15)]), (6, [(.ofNat 0, .ofNat 0)]), (7, [(.ofNat 0, .ofNat 7)]), (8, [(.ofNat 1, .ofNat 8)]), (9, [(.negSucc 3, .negSucc 3)]), (10, [(.ofNat 0, .ofNat 1000000)]), (11, [(.negSucc 999999, .ofNat 1003700)]), (12, [(.ofNat 0, .ofNat 9)]), (13, [(.ofNat 2, .ofNat 2)]), (14, [(.ofNat 0, .ofNat 1)]), (15, [(.ofNat 1, .ofNat 18)]), (16, [(.ofNat 0, .ofNat 1000000)]), (17, [(.ofNat 0, .ofNat 1000)]), (18, [(.ofNat 1, .ofNat 1003700)])], [((11, .ofNat 1, .ofNat 0), (16, .negSucc 0, .ofNat 0), (18, .ofNat 1, .ofNat 0)), ((2, .ofNat 1, .ofNat 0), (12, .ofNat 1, .ofNat 0), (15, .ofNat 1, .ofNat 0)), ((12, .ofNat 1, .ofNat 0), (2, .negSucc 0, .ofNat 0), (13, .ofNat 1, .ofNat 0)), ((3, .ofNat 1, .ofNat 0), (10, .negSucc 0, .ofNat 0), (11, .ofNat 1, .ofNat 0))], []),
  (22, [(0, .inr (.inl [122])), (1, .inl (false, (1, .ofNat 1, .ofNat 0))), (2, .inl (false, (2, .ofNat 1, .ofNat 0))), (3, .inl (false, (3, .ofNat 1, .ofNat 0))), (4, .inl (false, (4, .ofNat 1, .ofNat 0))), (5, .inl (false, (5, .ofNat 1, .ofNat 0))), (6, .inl (false, (0, .ofNat 0, .ofNat 0))), (7, .inl (false, (7, .ofNat 1, .ofNat 1))), (8, .inl (false, (11, .ofNat 1, .ofNat 0)))], [], [(2, 0, (0, .ofNat 0, .ofNat 0), (0, .ofNat 0, .ofNat 0), (0, .ofNat 0, .ofNat 0)), (2, 4, (19, .ofNat 1, .ofNat 0), (17, .ofNat 1, .ofNat 0), (0, .ofNat 0, .ofNat 0)), (2, 5, (18, .ofNat 1, .ofNat 0), (17, .ofNat 1, .ofNat 0), (0, .ofNat 0, .ofNat 0)), (0, 128, (5, .ofNat 1, .ofNat 0), (17, .ofNat 1, .ofNat 0), (0, .ofNat 0, .ofNat 0)), (0, 127, (5, .ofNat 1, .ofNat 0), (16, .ofNat 1, .ofNat 0), (0, .ofNat 0, .ofNat 0)), (2, 1, (0, .ofNat 0, .ofNat 1), (0, .ofNat 0, .ofNat 0), (0, .ofNat 0, .ofNat 0)), (2, 4, (15, .ofNat 1, .ofNat 0), (0, .ofNat 0, .ofNat 0), (0, .ofNat 0, .ofNat 0)), (0, 125, (7, .ofNat 1, .ofNat 0), (12, .ofNat 1, .ofNat 0), (0, .ofNat 0, .ofNat 0)), (2, 0, (13, .ofNat 1, .ofNat 0), (0, .ofNat 0, .ofNat 2), (0, .ofNat 0, .ofNat 0)), (2, 1, (13, .ofNat 1, .ofNat 0), (0, .ofNat 0, .ofNat 0), (0, .ofNat 0, .ofNat 0)), (2, 1, (1, .ofNat 1, .ofNat 0), (14, .ofNat 1, .ofNat 0), (0, .ofNat 0, .ofNat 0)), (0, 124, (7, .ofNat 1, .ofNat 0), (14, .ofNat 1, .ofNat 0), (0, .ofNat 0, .ofNat 0)), (0, 125, (7, .ofNat 1, .ofNat 0), (12, .ofNat 1, .ofNat 0), (0, .ofNat 0, .ofNat 0)), (2, 5, (2, .ofNat 1, .ofNat 0), (12, .ofNat 1, .ofNat 0), (0, .ofNat 0, .ofNat 0)), (0, 125, (7, .ofNat 1, .ofNat 0), (12, .ofNat 1, .ofNat 0), (0, .ofNat 0, .ofNat 0)), (2, 0, (6, .ofNat 1, .ofNat 0), (0, .ofNat 0, .ofNat 0), (0, .ofNat 0, .ofNat 0)), (0, 123, (7, .ofNat 1, .ofNat 0), (10, .ofNat 1, .ofNat 0), (0, .ofNat 0, .ofNat 0)), (2, 5, (10, .ofNat 1, .ofNat 0), (3, .ofNat 1, .ofNat 0), (0, .ofNat 0, .ofNat 0)), (0, 123, (7, .ofNat 1, .ofNat 0), (10, .ofNat 1, .ofNat 0), (0, .ofNat 0, .ofNat 0)), (2, 0, (0, .ofNat 0, .ofNat 0), (0, .ofNat 0, .ofNat 0), (0, .ofNat 0, .ofNat 0)), (2, 0, (9, .ofNat 1, .ofNat 0), (0, .ofNat 0, .negSucc 3), (0, .ofNat 0, .ofNat 0)), (0, 130, (5, .ofNat 1, .ofNat 0), (9, .ofNat 1, .ofNat 0), (0, .ofNat 0, .ofNat 0)), (2, 2, (7, .ofNat 1, .ofNat 0), (8, .ofNat 1, .ofNat 0), (0, .ofNat 0, .ofNat 0)), (0, 122, (0, .ofNat 0, .ofNat 0), (8, .ofNat 1, .ofNat 0), (0, .ofNat 0, .ofNat 0))], [(1, [(.ofNat 0, .ofNat 1)]), (2, [(.ofNat 0, .ofNat 9)]), (3, [(.ofNat 0, .ofNat 1003700)]), (4, [(.ofNat 0, .ofNat 16)]), (5, [(.ofNat 0, .ofNat 15)]), (6, [(.ofNat 0, .ofNat 0)]), (7, [(.ofNat 0, .ofNat 7)]), (8, [(.ofNat 1, .ofNat 8)]), (9, [(.negSucc 3, .negSucc 3)]), (10, [(.ofNat 0, .ofNat 1000000)]), (11, [(.negSucc 999999, .ofNat 1003700)]), (12, [(.ofNat 0, .ofNat 9)]), (13, [(.ofNat 2, .ofNat 2)]), (14, [(.ofNat 0, .ofNat 1)]), (15, [(.ofNat 1, .ofNat 18)]), (16, [(.ofNat 0, .ofNat 1000000)]), (17, [(.ofNat 0, .ofNat 1000)]), (18, [(.negSucc 1999999, .ofNat 1000)]), (19, [(.ofNat 1, .ofNat 2000000)])], [((16, .ofNat 1, .ofNat 0), (11, .negSucc 0, .ofNat 0), (19, .ofNat 1, .ofNat 0)), ((11, .ofNat 1, .ofNat 0), (16, .negSucc 0, .ofNat 0), (18, .ofNat 1, .ofNat 0)), ((2, .ofNat 1, .ofNat 0), (12, .ofNat 1, .ofNat 0), (15, .ofNat 1, .ofNat 0)), ((12, .ofNat 1, .ofNat 0), (2, .negSucc 0, .ofNat 0), (13, .ofNat 1, .ofNat 0)), ((3, .ofNat 1, .ofNat 0), (10, .negSucc 0, .ofNat 0), (11, .ofNat 1, .ofNat 0))], []),
  (22, [(0, .inr (.inl [122])), (1, .inl (false, (1, .ofNat 1, .ofNat 0))), (2, .inl (false, (2, .ofNat 1, .ofNat 0))), (3, .inl (false, (3, .ofNat 1, .ofNat 0))), (4, .inl (false, (4, .ofNat 1, .ofNat 0))), (5, .inl (false, (5, .ofNat 1, .ofNat 0))), (6, .inl (false, (0, .ofNat 0, .ofNat 1))), (7, .inl (false, (7, .ofNat 1, .ofNat 1))), (8, .inl (false, (11, .ofNat 1, .ofNat 0)))], [], [(2, 1, (0, .ofNat 0, .ofNat 1), (0, .ofNat 0, .ofNat 0), (0, .ofNat 0, .ofNat 0)), (2, 5, (19, .ofNat 1, .ofNat 0), (17, .ofNat 1, .ofNat 0), (0, .ofNat 0, .ofNat 0)), (2, 5, (18, .ofNat 1, .ofNat 0), (17, .ofNat 1, .ofNat 0), (0, .ofNat 0, .ofNat 0)), (0, 128, (5, .ofNat 1, .ofNat 0), (17, .ofNat 1, .ofNat 0), (0, .ofNat 0, .ofNat 0)), (0, 127, (5, .ofNat 1, .ofNat 0), (16, .ofNat 1, .ofNat 0), (0, .ofNat 0, .ofNat 0)), (2, 1, (0, .ofNat 0, .ofNat 1), (0, .ofNat 0, .ofNat 0), (0, .ofNat 0, .ofNat 0)), (2, 4, (15, .ofNat 1, .ofNat 0), (0, .ofNat 0, .ofNat 0), (0, .ofNat 0, .ofNat 0)), (0, 125, (7, .ofNat 1, .ofNat 0), (12, .ofNat 1, .ofNat 0), (0, .ofNat 0, .ofNat 0)), (2, 0, (13, .ofNat 1, .ofNat 0), (0, .ofNat 0, .ofNat 2), (0, .ofNat 0, .ofNat 0)), (2, 1, (13, .ofNat 1, .ofNat 0), (0, .ofNat 0, .ofNat 0), (0, .ofNat 0, .ofNat 0)), (2, 1, (1, .ofNat 1, .ofNat 0), (14, .ofNat 1, .ofNat 0), (0, .ofNat 0, .ofNat 0)), (0, 124, (7, .ofNat 1, .ofNat 0), (14, .ofNat 1, .ofNat 0), (0, .ofNat 0, .ofNat 0)), (0, 125, (7, .ofNat 1, .ofNat 0), (12, .ofNat 1, .ofNat 0), (0, .ofNat 0, .ofNat 0)), (2, 5, (2, .ofNat 1, .ofNat 0), (12, .ofNat 1, .ofNat 0), (0, .ofNat 0, .ofNat 0)), (0, 125, (7, .ofNat 1, .ofNat 0), (12, .ofNat 1, .ofNat 0), (0, .ofNat 0, .ofNat 0)), (2, 0, (6, .ofNat 1, .ofNat 0), (0, .ofNat 0, .ofNat 0), (0, .ofNat 0, .ofNat 0)), (0, 123, (7, .ofNat 1, .ofNat 0), (10, .ofNat 1, .ofNat 0), (0, .ofNat 0, .ofNat 0)), (2, 5, (10, .ofNat 1, .ofNat 0), (3, .ofNat 1, .ofNat 0), (0, .ofNat 0, .ofNat 0)), (0, 123, (7, .ofNat 1, .ofNat 0), (10, .ofNat 1, .ofNat 0), (0, .ofNat 0, .ofNat 0)), (2, 0, (0, .ofNat 0, .ofNat 0), (0, .ofNat 0, .ofNat 0), (0, .ofNat 0, .ofNat 0)), (2, 0, (9, .ofNat 1, .ofNat 0), (0, .ofNat 0, .negSucc 3), (0, .ofNat 0, .ofNat 0)), (0, 130, (5, .ofNat 1, .ofNat 0), (9, .ofNat 1, .ofNat 0), (0, .ofNat 0, .ofNat 0)), (2, 2, (7, .ofNat 1, .ofNat 0), (8, .ofNat 1, .ofNat 0), (0, .ofNat 0, .ofNat 0)), (0, 122, (0, .ofNat 0, .ofNat 0), (8, .ofNat 1, .ofNat 0), (0, .ofNat 0, .ofNat 0))], [(1, [(.ofNat 0, .ofNat 1)]), (2, [(.ofNat 0, .ofNat 9)]), (3, [(.ofNat 0, .ofNat 1003700)]), (4, [(.ofNat 0, .ofNat 16)]), (5, [(.ofNat 0, .ofNat 15)]), (6, [(.ofNat 0, .ofNat 0)]), (7, [(.ofNat 0, .ofNat 7)]), (8, [(.ofNat 1, .ofNat 8)]), (9, [(.negSucc 3, .negSucc 3)]), (10, [(.ofNat 0, .ofNat 1000000)]), (11, [(.negSucc 999999, .ofNat 1003700)]), (12, [(.ofNat 0, .ofNat 9)]), (13, [(.ofNat 2, .ofNat 2)]), (14, [(.ofNat 0, .ofNat 1)]), (15, [(.ofNat 1, .ofNat 18)]), (16, [(.ofNat 0, .ofNat 1000000)]), (17, [(.ofNat 0, .ofNat 1000)]), (18, [(.negSucc 1999999, .ofNat 1000)]), (19, [(.negSucc 1003699, .ofNat 1000)])], [((16, .ofNat 1, .ofNat 0), (11, .negSucc 0, .ofNat 0), (19, .ofNat 1, .ofNat 0)), ((11, .ofNat 1, .ofNat 0), (16, .negSucc 0, .ofNat 0), (18, .ofNat 1, .ofNat 0)), ((2, .ofNat 1, .ofNat 0), (12, .ofNat 1, .ofNat 0), (15, .ofNat 1, .ofNat 0)), ((12, .ofNat 1, .ofNat 0), (2, .negSucc 0, .ofNat 0), (13, .ofNat 1, .ofNat 0)), ((3, .ofNat 1, .ofNat 0), (10, .negSucc 0, .ofNat 0), (11, .ofNat 1, .ofNat 0))], []),
  (22, [(0, .inr (.inl [122])), (1, .inl (false, (1, .ofNat 1, .ofNat 0))), (2, .inl (false, (2, .ofNat 1, .ofNat 0))), (3, .inl (false, (3, .ofNat 1, .ofNat 0))), (4, .inl (false, (4, .ofNat 1, .ofNat 0))), (5, .inl (false, (5, .ofNat 1, .ofNat 0))), (6, .inl (false, (0, .ofNat 0, .ofNat 0))), (7, .inl (false, (7, .ofNat 1, .ofNat 1))), (8, .inl (false, (11, .ofNat 1, .ofNat 0)))], [], [(2, 0, (0, .ofNat 0, .ofNat 0), (0, .ofNat 0, .ofNat 0), (0, .ofNat 0, .ofNat 0)), (2, 0, (1, .ofNat 1, .ofNat 0), (14, .ofNat 1, .ofNat 0), (0, .ofNat 0, .ofNat 0)), (0, 124, (7, .ofNat 1, .ofNat 0), (14, .ofNat 1, .ofNat 0), (0, .ofNat 0, .ofNat 0)), (0, 125, (7, .ofNat 1, .ofNat 0), (12, .ofNat 1, .ofNat 0), (0, .ofNat 0, .ofNat 0)), (2, 4, (2, .ofNat 1, .ofNat 0), (12, .ofNat 1, .ofNat 0), (0, .ofNat 0, .ofNat 0)), (0, 125, (7, .ofNat 1, .ofNat 0), (12, .ofNat 1, .ofNat 0), (0, .ofNat 0, .ofNat 0)), (2, 0, (6, .ofNat 1, .ofNat 0), (0, .ofNat 0, .ofNat 0), (0, .ofNat 0, .ofNat 0)), (0, 123, (7, .ofNat 1, .ofNat 0), (10, .ofNat 1, .ofNat 0), (0, .ofNat 0, .ofNat 0)), (2, 5, (10, .ofNat 1, .ofNat 0), (3, .ofNat 1, .ofNat 0), (0, .ofNat 0, .ofNat 0)), (0, 123, (7, .ofNat 1, .ofNat 0), (10, .ofNat 1, .ofNat 0), (0, .ofNat 0, .ofNat 0)), (2, 0, (0, .ofNat 0, .ofNat 0), (0, .ofNat 0, .ofNat 0), (0, .ofNat 0, .ofNat 0)), (2, 0, (9, .ofNat 1, .ofNat 0), (0, .ofNat 0, .negSucc 3), (0, .ofNat 0, .ofNat 0)), (0, 130, (5, .ofNat 1, .ofNat 0), (9, .ofNat 1, .ofNat 0), (0, .ofNat 0, .ofNat 0)), (2, 2, (7, .ofNat 1, .ofNat 0), (8, .ofNat 1, .ofNat 0), (0, .ofNat 0, .ofNat 0)), (0, 122, (0, .ofNat 0, .ofNat 0), (8, .ofNat 1, .ofNat 0), (0, .ofNat 0, .ofNat 0))], [(1, [(.ofNat 0, .ofNat 1)]), (2, [(.ofNat 1, .ofNat 9)]), (3, [(.ofNat 0, .ofNat 1003700)]), (4, [(.ofNat 0, .ofNat 16)]), (5, [(.ofNat 0, .ofNat 15)]), (6, [(.ofNat 0, .ofNat 0)]), (7, [(.ofNat 0, .ofNat 7)]), (8, [(.ofNat 1, .ofNat 8)]), (9, [(.negSucc 3, .negSucc 3)]), (10, [(.ofNat 0, .ofNat 1000000)]), (11, [(.negSucc 999999, .ofNat 1003700)]), (12, [(.ofNat 0, .ofNat 8)]), (14, [(.ofNat 0, .ofNat 1)])], [((3, .ofNat 1, .ofNat 0), (10, .negSucc 0, .ofNat 0), (11, .ofNat 1, .ofNat 0))], []),
  (22, [(0, .inr (.inl [122])), (1, .inl (false, (1, .ofNat 1, .ofNat 0))), (2, .inl (false, (2, .ofNat 1, .ofNat 0))), (3, .inl (false, (3, .ofNat 1, .ofNat 0))), (4, .inl (false, (4, .ofNat 1, .ofNat 0))), (5, .inl (false, (5, .ofNat 1, .ofNat 0))), (6, .inl (false, (0, .ofNat 0, .ofNat 0))), (7, .inl (false, (7, .ofNat 1, .ofNat 1))), (8, .inl (false, (11, .ofNat 1, .ofNat 0)))], [], [(2, 0, (0, .ofNat 0, .ofNat 0), (0, .ofNat 0, .ofNat 0), (0, .ofNat 0, .ofNat 0)), (2, 4, (18, .ofNat 1, .ofNat 0), (17, .ofNat 1, .ofNat 0), (0, .ofNat 0, .ofNat 0)), (0, 128, (5, .ofNat 1, .ofNat 0), (17, .ofNat 1, .ofNat 0), (0, .ofNat 0, .ofNat 0)), (0, 127, (5, .ofNat 1, .ofNat 0), (16, .ofNat 1, .ofNat 0), (0, .ofNat 0, .ofNat 0)), (2, 1, (0, .ofNat 0, .ofNat 1), (0, .ofNat 0, .ofNat 0), (0, .ofNat 0, .ofNat 0)), (2, 4, (15, .ofNat 1, .ofNat 0), (0, .ofNat 0, .ofNat 0), (0, .ofNat 0, .ofNat 0)), (0, 125, (7, .ofNat 1, .ofNat 0), (12, .ofNat 1, .ofNat 0), (0, .ofNat 0, .ofNat 0)), (2, 0, (13, .ofNat 1, .ofNat 0), (0, .ofNat 0, .ofNat 0), (0, .ofNat 0, .ofNat 0)), (2, 1, (1, .ofNat 1, .ofNat 0), (14, .ofNat 1, .ofNat 0), (0, .ofNat 0, .ofNat 0)), (0, 124, (7, .ofNat 1, .ofNat 0), (14, .ofNat 1, .ofNat 0), (0, .ofNat 0, .ofNat 0)), (0, 125, (7, .ofNat 1, .ofNat 0), (12, .ofNat 1, .ofNat 0), (0, .ofNat 0, .ofNat 0)), (2, 4, (2, .ofNat 1, .ofNat 0), (12, .ofNat 1, .ofNat 0), (0, .ofNat 0, .ofNat 0)), (0, 125, (7, .ofNat 1, .ofNat 0), (12, .ofNat 1, .ofNat 0), (0, .ofNat 0, .ofNat 0)), (2, 0, (6, .ofNat 1, .ofNat 0), (0, .ofNat 0, .ofNat 0), (0, .ofNat 0, .ofNat 0)), (0, 123, (7, .ofNat 1, .ofNat 0), (10, .ofNat 1, .ofNat 0), (0, .ofNat 0, .ofNat 0)), (2, 5, (10, .ofNat 1, .ofNat 0), (3, .ofNat 1, .ofNat 0), (0, .ofNat 0, .ofNat 0)), (0, 123, (7, .ofNat 1, .ofNat 0), (10, .ofNat 1, .ofNat 0), (0, .ofNat 0, .ofNat 0)), (2, 0, (0, .ofNat 0, .ofNat 0), (0, .ofNat 0, .ofNat 0), (0, .ofNat 0, .ofNat 0)), (2, 0, (9, .ofNat 1, .ofNat 0), (0, .ofNat 0, .negSucc 3), (0, .ofNat 0, .ofNat 0)), (0, 130, (5, .ofNat 1, .ofNat 0), (9, .ofNat 1, .ofNat 0), (0, .ofNat 0, .ofNat 0)), (2, 2, (7, .ofNat 1, .ofNat 0), (8, .ofNat 1, .ofNat 0), (0, .ofNat 0, .ofNat 0)), (0, 122, (0, .ofNat 0, .ofNat 0), (8, .ofNat 1, .ofNat 0), (0, .ofNat 0, .ofNat 0))], [(1, [(.ofNat 0, .ofNat 1)]), (2, [(.ofNat 1, .ofNat 9)]), (3, [(.ofNat 0, .ofNat 1003700)]), (4, [(.ofNat 0, .ofNat 16)]), (5, [(.ofNat 0, .ofNat 15)]), (6, [(.ofNat 0, .ofNat 0)]), (7, [(.ofNat 0, .ofNat 7)]), (8, [(.ofNat 1, .ofNat 8)]), (9, [(.negSucc 3, .negSucc 3)]), (10, [(.ofNat 0, .ofNat 1000000)]), (11, [(.negSucc 999999, .ofNat 1003700)]), (12, [(.ofNat 0, .ofNat 8)]), (13, [(.ofNat 0, .ofNat 0)]), (14, [(.ofNat 0, .ofNat 1)]), (15, [(.ofNat 1, .ofNat 17)]), (16, [(.ofNat 0, .ofNat 1000000)]), (17, [(.ofNat 0, .ofNat 1000)]), (18, [(.ofNat 1, .ofNat 1003700)])], [((11, .ofNat 1, .ofNat 0), (16, .negSucc 0, .ofNat 0), (18, .ofNat 1, .ofNat 0)), ((2, .ofNat 1, .ofNat 0), (12, .ofNat 1, .ofNat 0), (15, .ofNat 1, .ofNat 0)), ((2, .ofNat 1, .ofNat 0), (12, .negSucc 0, .ofNat 0), (13, .ofNat 1, .ofNat 0)), ((3, .ofNat 1, .ofNat 0), (10, .negSucc 0, .ofNat 0), (11, .ofNat 1, .ofNat 0))], []),
  (22, [(0, .inr (.inl [122])), (1, .inl (false, (1, .ofNat 1, .ofNat 0))), (2, .inl (false, (2, .ofNat 1, .ofNat 0))), (3, .inl (false, (3, .ofNat 1, .ofNat 0))), (4, .inl (false, (4, .ofNat 1, .ofNat 0))), (5, .inl (false, (5, .ofNat 1, .ofNat 0))), (6, .inl (false, (0, .ofNat 0, .ofNat 0))), (7, .inl (false, (7, .ofNat 1, .ofNat 1))), (8, .inl (false, (11, .ofNat 1, .ofNat 0)))], [], [(2, 0, (0, .ofNat 0, .ofNat 0), (0, .ofNat 0, .ofNat 0), (0, .ofNat 0, .ofNat 0)), (2, 4, (19, .ofNat 1, .ofNat 0), (17, .ofNat 1, .ofNat 0), (0, .ofNat 0, .ofNat 0)), (2, 5, (18, .ofNat 1, .ofNat 0), (17, .ofNat 1, .ofNat 0), (0, .ofNat 0, .ofNat 0)), (0, 128, (5, .ofNat 1, .ofNat 0), (17, .ofNat 1, .ofNat 0), (0, .ofNat 0, .ofNat 0)), (0, 127, (5, .ofNat 1, .ofNat 0), (16, .ofNat 1, .ofNat 0), (0, .ofNat 0, .ofNat 0)), (2, 1, (0, .ofNat 0, .ofNat 1), (0, .ofNat 0, .ofNat 0), (0, .ofNat 0, .ofNat 0)), (2, 4, (15, .ofNat 1, .ofNat 0), (0, .ofNat 0, .ofNat 0), (0, .ofNat 0, .ofNat 0)), (0, 125, (7, .ofNat 1, .ofNat 0), (12, .ofNat 1, .ofNat 0), (0, .ofNat 0, .ofNat 0)), (2, 0, (13, .ofNat 1, .ofNat 0), (0, .ofNat 0, .ofNat 0), (0, .ofNat 0, .ofNat 0)), (2, 1, (1, .ofNat 1, .ofNat 0), (14, .ofNat 1, .ofNat 0), (0, .ofNat 0, .ofNat 0)), (0, 124, (7, .ofNat 1, .ofNat 0), (14, .ofNat 1, .ofNat 0), (0, .ofNat 0, .ofNat 0)), (0, 125, (7, .ofNat 1, .ofNat 0), (12, .ofNat 1, .ofNat 0), (0, .ofNat 0, .ofNat 0)), (2, 4, (2, .ofNat 1, .ofNat 0), (12, .ofNat 1, .ofNat 0), (0, .ofNat 0, .ofNat 0)), (0, 125, (7, .ofNat 1, .ofNat 0), (12, .ofNat 1, .ofNat 0), (0, .ofNat 0, .ofNat 0)), (2, 0, (6, .ofNat 1, .ofNat 0), (0, .ofNat 0, .ofNat 0), (0, .ofNat 0, .ofNat 0)), (0, 123, (7, .ofNat 1, .ofNat 0), (10, .ofNat 1, .ofNat 0), (0, .ofNat 0, .ofNat 0)), (2, 5, (10, .ofNat 1, .ofNat 0), (3, .ofNat 1, .ofNat 0), (0, .ofNat 0, .ofNat 0)), (0, 123, (7, .ofNat 1, .ofNat 0), (10, .ofNat 1, .ofNat 0), (0, .ofNat 0, .ofNat 0)), (2, 0, (0, .ofNat 0, .ofNat 0), (0, .ofNat 0, .ofNat 0), (0, .ofNat 0, .ofNat 0)), (2, 0, (9, .ofNat 1, .ofNat 0), (0, .ofNat 0, .negSucc 3), (0, .ofNat 0, .ofNat 0)), (0, 130, (5, .ofNat 1, .ofNat 0), (9, .ofNat 1, .ofNat 0), (0, .ofNat 0, .ofNat 0)), (2, 2, (7, .ofNat 1, .ofNat 0), (8, .ofNat 1, .ofNat 0), (0, .ofNat 0, .ofNat 0)), (0, 122, (0, .ofNat 0, .ofNat 0), (8, .ofNat 1, .ofNat 0), (0, .ofNat 0, .ofNat 0))], [(1, [(.ofNat 0, .ofNat 1)]), (2, [(.ofNat 1, .ofNat 9)]), (3, [(.ofNat 0, .ofNat 1003700)]), (4, [(.ofNat 0, .ofNat 16)]), (5, [(.ofNat 0, .ofNat 15)]), (6, [(.ofNat 0, .ofNat 0)]), (7, [(.ofNat 0, .ofNat 7)]), (8, [(.ofNat 1, .ofNat 8)]), (9, [(.negSucc 3, .negSucc 3)]), (10, [(.ofNat 0, .ofNat 1000000)]), (11, [(.negSucc 999999, .ofNat 1003700)]), (12, [(.ofNat 0, .ofNat 8)]), (13, [(.ofNat 0, .ofNat 0)]), (14, [(.ofNat 0, .ofNat 1)]), (15, [(.ofNat 1, .ofNat 17)]), (16, [(.ofNat 0, .ofNat 1000000)]), (17, [(.ofNat 0, .ofNat 1000)]), (18, [(.negSucc 1999999, .ofNat 1000)]), (19, [(.ofNat 1, .ofNat 2000000)])], [((16, .ofNat 1, .ofNat 0), (11, .negSucc 0, .ofNat 0), (19, .ofNat 1, .ofNat 0)), ((11, .ofNat 1, .ofNat 0), (16, .negSucc 0, .ofNat 0), (18, .ofNat 1, .ofNat 0)), ((2, .ofNat 1, .ofNat 0), (12, .ofNat 1, .ofNat 0), (15, .ofNat 1, .ofNat 0)), ((2, .ofNat 1, .ofNat 0), (12, .negSucc 0, .ofNat 0), (13, .ofNat 1, .ofNat 0)), ((3, .ofNat 1, .ofNat 0), (10, .negSucc 0, .ofNat 0), (11, .ofNat 1, .ofNat 0))], []),
  (22, [(0, .inr (.inl [122])), (1, .inl (false, (1, .ofNat 1, .ofNat 0))), (2, .inl (false, (2, .ofNat 1, .ofNat 0))), (3, .inl (false, (3, .ofNat 1, .ofNat 0))), (4, .inl (false, (4, .ofNat 1, .ofNat 0))), (5, .inl (false, (5, .ofNat 1, .ofNat 0))), (6, .inl (false, (0, .ofNat 0, .ofNat 1))), (7, .inl (false, (7, .ofNat 1, .ofNat 1))), (8, .inl (false, (11, .ofNat 1, .ofNat 0)))], [], [(2, 1, (0, .ofNat 0, .ofNat 1), (0, .ofNat 0, .ofNat 0), (0, .ofNat 0, .ofNat 0)), (2, 5, (19, .ofNat 1, .ofNat 0), (17, .ofNat 1, .ofNat 0), (0, .ofNat 0, .ofNat 0)), (2, 5, (18, .ofNat 1, .ofNat 0), (17, .ofNat 1, .ofNat 0), (0, .ofNat 0, .ofNat 0)), (0, 128, (5, .ofNat 1, .ofNat 0), (17, .ofNat 1, .ofNat 0), (0, .ofNat 0, .ofNat 0)), (0, 127, (5, .ofNat 1, .ofNat 0), (16, .ofNat 1, .ofNat 0), (0, .ofNat 0, .ofNat 0)), (2, 1, (0, .ofNat 0, .ofNat 1), (0, .ofNat 0, .ofNat 0), (0, .ofNat 0, .ofNat 0)), (2, 4, (15, .ofNat 1, .ofNat 0), (0, .ofNat 0, .ofNat 0), (0, .ofNat 0, .ofNat 0)), (0, 125, (7, .ofNat 1, .ofNat 0), (12, .ofNat 1, .ofNat 0), (0, .ofNat 0, .ofNat 0)), (2, 0, (13, .ofNat 1, .ofNat 0), (0, .ofNat 0, .ofNat 0), (0, .ofNat 0, .ofNat 0)), (2, 1, (1, .ofNat 1, .ofNat 0), (14, .ofNat 1, .ofNat 0), (0, .ofNat 0, .ofNat 0)), (0, 124, (7, .ofNat 1, .ofNat 0), (14, .ofNat 1, .ofNat 0), (0, .ofNat 0, .ofNat 0)), (0, 125, (7, .ofNat 1, .ofNat 0), (12, .ofNat 1, .ofNat 0), (0, .ofNat 0, .ofNat 0)), (2, 4, (2, .ofNat 1, .ofNat 0), (12, .ofNat 1, .ofNat 0), (0, .ofNat 0, .ofNat 0)), (0, 125, (7, .ofNat 1, .ofNat 0), (12, .ofNat 1, .ofNat 0), (0, .ofNat 0, .ofNat 0)), (2, 0, (6, .ofNat 1, .ofNat 0), (0, .ofNat 0, .ofNat 0), (0, .ofNat 0, .ofNat 0)), (0, 123, (7, .ofNat 1, .ofNat 0), (10, .ofNat 1, .ofNat 0), (0, .ofNat 0, .ofNat 0)), (2, 5, (10, .ofNat 1, .ofNat 0), (3, .ofNat 1, .ofNat 0), (0, .ofNat 0, .ofNat 0)), (0, 123, (7, .ofNat 1, .ofNat 0), (10, .ofNat 1, .ofNat 0), (0, .ofNat 0, .ofNat 0)), (2, 0, (0, .ofNat 0, .ofNat 0), (0, .ofNat 0, .ofNat 0), (0, .ofNat 0, .ofNat 0)), (2, 0, (9, .ofNat 1, .ofNat 0), (0, .ofNat 0, .negSucc 3), (0, .ofNat 0, .ofNat 0)), (0, 130, (5, .ofNat 1, .ofNat 0), (9, .ofNat 1, .ofNat 0), (0, .ofNat 0, .ofNat 0)), (2, 2, (7, .ofNat 1, .ofNat 0), (8, .ofNat 1, .ofNat 0), (0, .ofNat 0, .ofNat 0)), (0, 122, (0, .ofNat 0, .ofNat 0), (8, .ofNat 1, .ofNat 0), (0, .ofNat 0, .ofNat 0))], [(1, [(.ofNat 0, .ofNat 1)]), (2, [(.ofNat 1, .ofNat 9)]), (3, [(.ofNat 0, .ofNat 1003700)]), (4, [(.ofNat 0, .ofNat 16)]), (5, [(.ofNat 0, .ofNat 15)]), (6, [(.ofNat 0, .ofNat 0)]), (7, [(.ofNat 0, .ofNat 7)]), (8, [(.ofNat 1, .ofNat 8)]), (9, [(.negSucc 3, .negSucc 3)]), (10, [(.ofNat 0, .ofNat 1000000)]), (11, [(.negSucc 999999, .ofNat 1003700)]), (12, [(.ofNat 0, .ofNat 8)]), (13, [(.ofNat 0, .ofNat 0)]), (14, [(.ofNat 0, .ofNat 1)]), (15, [(.ofNat 1, .ofNat 17)]), (16, [(.ofNat 0, .ofNat 1000000)]), (17, [(.ofNat 0, .ofNat 1000)]), (18, [(.negSucc 1999999, .ofNat 1000)]), (19, [(.negSucc 1003699, .ofNat 1000)])], [((16, .ofNat 1, .ofNat 0), (11, .negSucc 0, .ofNat 0), (19, .ofNat 1, .ofNat 0)), ((11, .ofNat 1, .ofNat 0), (16, .negSucc 0, .ofNat 0), (18, .ofNat 1, .ofNat 0)), ((2, .ofNat 1, .ofNat 0), (12, .ofNat 1, .ofNat 0), (15, .ofNat 1, .ofNat 0)), ((2, .ofNat 1, .ofNat 0), (12, .negSucc 0, .ofNat 0), (13, .ofNat 1, .ofNat 0)), ((3, .ofNat 1, .ofNat 0), (10, .negSucc 0, .ofNat 0), (11, .ofNat 1, .ofNat 0))], []),
  (22, [(0, .inr (.inl [122])), (1, .inl (false, (1, .ofNat 1, .ofNat 0))), (2, .inl (false, (2, .ofNat 1, .ofNat 0))), (3, .inl (false, (3, .ofNat 1, .ofNat 0))), (4, .inl (false, (4, .ofNat 1, .ofNat 0))), (5, .inl (false, (5, .ofNat 1, .ofNat 0))), (6, .inl (false, (0, .ofNat 0, .ofNat 0))), (7, .inl (false, (7, .ofNat 1, .ofNat 1))), (8, .inl (false, (11, .ofNat 1, .ofNat 0)))], [], [(2, 0, (0, .ofNat 0, .ofNat 0), (0, .ofNat 0, .ofNat 0), (0, .ofNat 0, .ofNat 0)), (2, 1, (13, .ofNat 1, .ofNat 0), (0, .ofNat 0, .ofNat 2), (0, .ofNat 0, .ofNat 0)), (2, 1, (13, .ofNat 1, .ofNat 0), (0, .ofNat 0, .ofNat 0), (0, .ofNat 0, .ofNat 0)), (2, 1, (1, .ofNat 1, .ofNat 0), (14, .ofNat 1, .ofNat 0), (0, .ofNat 0, .ofNat 0)), (0, 124, (7, .ofNat 1, .ofNat 0), (14, .ofNat 1, .ofNat 0), (0, .ofNat 0, .ofNat 0)), (0, 125, (7, .ofNat 1, .ofNat 0), (12, .ofNat 1, .ofNat 0), (0, .ofNat 0, .ofNat 0)), (2, 4, (2, .ofNat 1, .ofNat 0), (12, .ofNat 1, .ofNat 0), (0, .ofNat 0, .ofNat 0)), (0, 125, (7, .ofNat 1, .ofNat 0), (12, .ofNat 1, .ofNat 0), (0, .ofNat 0, .ofNat 0)), (2, 0, (6, .ofNat 1, .ofNat 0), (0, .ofNat 0, .ofNat 0), (0, .ofNat 0, .ofNat 0)), (0, 123, (7, .ofNat 1, .ofNat 0), (10, .ofNat 1, .ofNat 0), (0, .ofNat 0, .ofNat 0)), (2, 5, (10, .ofNat 1, .ofNat 0), (3, .ofNat 1, .ofNat 0), (0, .ofNat 0, .ofNat 0)), (0, 123, (7, .ofNat 1, .ofNat 0), (10, .ofNat 1, .ofNat 0), (0, .ofNat 0, .ofNat 0)), (2, 0, (0, .ofNat 0, .ofNat 0), (0, .ofNat 0, .ofNat 0), (0, .ofNat 0, .ofNat 0)), (2, 0, (9, .ofNat 1, .ofNat 0), (0, .ofNat 0, .negSucc 3), (0, .ofNat 0, .ofNat 0)), (0, 130, (5, .ofNat 1, .ofNat 0), (9, .ofNat 1, .ofNat 0), (0, .ofNat 0, .ofNat 0)), (2, 2, (7, .ofNat 1, .ofNat 0), (8, .ofNat 1, .ofNat 0), (0, .ofNat 0, .ofNat 0)), (0, 122, (0, .ofNat 0, .ofNat 0), (8, .ofNat 1, .ofNat 0), (0, .ofNat 0, .ofNat 0))], [(1, [(.ofNat 0, .ofNat 1)]), (2, [(.ofNat 1, .ofNat 9)]), (3, [(.ofNat 0, .ofNat 1003700)]), (4, [(.ofNat 0, .ofNat 16)]), (5, [(.ofNat 0, .ofNat 15)]), (6, [(.ofNat 0, .ofNat 0)]), (7, [(.ofNat 0, .ofNat 7)]), (8, [(.ofNat 1, .ofNat 8)]), (9, [(.negSucc 3, .negSucc 3)]), (10, [(.ofNat 0, .ofNat 1000000)]), (11, [(.negSucc 999999, .ofNat 1003700)]), (12, [(.ofNat 0, .ofNat 8)]), (13, [(.negSucc 6, .negSucc 0), (.ofNat 1, .ofNat 1), (.ofNat 3, .ofNat 9)]), (14, [(.ofNat 0, .ofNat 1)])], [((2, .ofNat 1, .ofNat 0), (12, .negSucc 0, .ofNat 0), (13, .ofNat 1, .ofNat 0)), ((3, .ofNat 1, .ofNat 0), (10, .negSucc 0, .ofNat 0), (11, .ofNat 1, .ofNat 0))], []),
  (22, [(0, .inr (.inl [122])), (1, .inl (false, (1, .ofNat 1, .ofNat 0))), (2, .inl (false, (2, .ofNat 1, .ofNat 0))), (3, .inl (false, (3, .ofNat 1, .ofNat 0))), (4, .inl (false, (4, .ofNat 1, .ofNat 0))), (5, .inl (false, (5, .ofNat 1, .ofNat 0))), (6, .inl (false, (0, .ofNat 0, .ofNat 0))), (7, .inl (false, (7, .ofNat 1, .ofNat 1))), (8, .inl (false, (11, .ofNat 1, .ofNat 0)))], [], [(2, 0, (0, .ofNat 0, .ofNat 0), (0, .ofNat 0, .ofNat 0), (0, .ofNat 0, .ofNat 0)), (2, 4, (18, .ofNat 1, .ofNat 0), (17, .ofNat 1, .ofNat 0), (0, .ofNat 0, .ofNat 0)), (0, 128, (5, .ofNat 1, .ofNat 0), (17, .ofNat 1, .ofNat 0), (0, .ofNat 0, .ofNat 0)), (0, 127, (5, .ofNat 1, .ofNat 0), (16, .ofNat 1, .ofNat 0), (0, .ofNat 0, .ofNat 0)), (2, 1, (0, .ofNat 0, .ofNat 1), (0, .ofNat 0, .ofNat 0), (0, .ofNat 0, .ofNat 0)), (2, 4, (15, .ofNat 1, .ofNat 0), (0, .ofNat 0, .ofNat 0), (0, .ofNat 0, .ofNat 0)), (0, 125, (7, .ofNat 1, .ofNat 0), (12, .ofNat 1, .ofNat 0), (0, .ofNat 0, .ofNat 0)), (2, 0, (13, .ofNat 1, .ofNat 0), (0, .ofNat 0, .ofNat 2), (0, .ofNat 0, .ofNat 0)), (2, 1, (13, .ofNat 1, .ofNat 0), (0, .ofNat 0, .ofNat 0), (0, .ofNat 0, .ofNat 0)), (2, 1, (1, .ofNat 1, .ofNat 0), (14, .ofNat 1, .ofNat 0), (0, .ofNat 0, .ofNat 0)), (0, 124, (7, .ofNat 1, .ofNat 0), (14, .ofNat 1, .ofNat 0), (0, .ofNat 0, .ofNat 0)), (0, 125, (7, .ofNat 1, .ofNat 0), (12, .ofNat 1, .ofNat 0), (0, .ofNat 0, .ofNat 0)), (2, 4, (2, .ofNat 1, .ofNat 0), (12, .ofNat 1, .ofNat 0), (0, .ofNat 0, .ofNat 0)), (0, 125, (7, .ofNat 1, .ofNat 0), (12, .ofNat 1, .ofNat 0), (0, .ofNat 0, .ofNat 0)), (2, 0, (6, .ofNat 1, .ofNat 0), (0, .ofNat 0, .ofNat 0), (0, .ofNat 0, .ofNat 0)), (0, 123, (7, .ofNat 1, .ofNat 0), (10, .ofNat 1, .ofNat 0), (0, .ofNat 0, .ofNat 0)), (2, 5, (10, .ofNat 1, .ofNat 0), (3, .ofNat 1, .ofNat 0), (0, .ofNat 0, .ofNat 0)), (0, 123, (7, .ofNat 1, .ofNat 0), (10, .ofNat 1, .ofNat 0), (0, .ofNat 0, .ofNat 0)), (2, 0, (0, .ofNat 0, .ofNat 0), (0, .ofNat 0, .ofNat 0), (0, .ofNat 0, .ofNat 0)), (2, 0, (9, .ofNat 1, .ofNat 0), (0, .ofNat 0, .negSucc 3), (0, .ofNat 0, .ofNat 0)), (0, 130, (5, .ofNat 1, .ofNat 0), (9, .ofNat 1, .ofNat 0), (0, .ofNat 0, .ofNat 0)), (2, 2, (7, .ofNat 1, .ofNat 0), (8, .ofNat 1, .ofNat 0), (0, .ofNat 0, .ofNat 0)), (0, 122, (0, .ofNat 0, .ofNat 0), (8, .ofNat 1, .ofNat 0), (0, .ofNat 0, .ofNat 0))], [(1, [(.ofNat 0, .ofNat 1)]), (2, [(.ofNat 1, .ofNat 9)]), (3, [(.ofNat 0, .ofNat 1003700)]), (4, [(.ofNat 0, .ofNat 16)]), (5, [(.ofNat 0, .ofNat 15)]), (6, [(.ofNat 0, .ofNat 0)]), (7, [(.ofNat 0, .ofNat 7)]), (8, [(.ofNat 1, .ofNat 8)]), (9, [(.negSucc 3, .negSucc 3)]), (10, [(.ofNat 0, .ofNat 1000000)]), (11, [(.negSucc 999999, .ofNat 1003700)]), (12, [(.ofNat 0, .ofNat 8)]), (13, [(.ofNat 2, .ofNat 2)]), (14, [(.ofNat 0, .ofNat 1)]), (15, [(.ofNat 1, .ofNat 17)]), (16, [(.ofNat 0, .ofNat 1000000)]), (17, [(.ofNat 0, .ofNat 1000)]), (18, [(.ofNat 1, .ofNat 1003700)])], [((11, .ofNat 1, .ofNat 0), (16, .negSucc 0, .ofNat 0), (18, .ofNat 1, .ofNat 0)), ((2, .ofNat 1, .ofNat 0), (12, .ofNat 1, .ofNat 0), (15, .ofNat 1, .ofNat 0)), ((2, .ofNat 1, .ofNat 0), (12, .negSucc 0, .ofNat 0), (13, .ofNat 1, .ofNat 0)), ((3, .ofNat 1, .ofNat 0), (10, .negSucc 0, .ofNat 0), (11, .ofNat 1, .ofNat 0))], []),
  (22, [(0, .inr (.inl [122])), (1, .inl (false, (1, .ofNat 1, .ofNat 0))), (2, .inl (false, (2, .ofNat 1, .ofNat 0))), (3, .inl (false, (3, .ofNat 1, .ofNat 0))), (4, .inl (false, (4, .ofNat 1, .ofNat 0))), (5, .inl (false, (5, .ofNat 1, .ofNat 0))), (6, .inl (false, (0, .ofNat 0, .ofNat 0))), (7, .inl (false, (7, .ofNat 1, .ofNat 1))), (8, .inl (false, (11, .ofNat 1, .ofNat 0)))], [], [(2, 0, (0, .ofNat 0, .ofNat 0), (0, .ofNat 0, .ofNat 0), (0, .ofNat 0, .ofNat 0)), (2, 4, (19, .ofNat 1, .ofNat 0), (17, .ofNat 1, .ofNat 0), (0, .ofNat 0, .ofNat 0)), (2, 5, (18, .ofNat 1, .ofNat 0), (17, .ofNat 1, .ofNat 0), (0, .ofNat 0, .ofNat 0)), (0, 128, (5, .ofNat 1, .ofNat 0), (17, .ofNat 1, .ofNat 0), (0, .ofNat 0, .ofNat 0)), (0, 127, (5, .ofNat 1, .ofNat 0), (16, .ofNat 1, .ofNat 0), (0, .ofNat 0, .ofNat 0)), (2, 1, (0, .ofNat 0, .ofNat 1), (0, .ofNat 0, .ofNat 0), (0, .ofNat 0, .ofNat 0)), (2, 4, (15, .ofNat 1, .ofNat 0), (0, .ofNat 0, .ofNat 0), (0, .ofNat 0, .ofNat 0)), (0, 125, (7, .ofNat 1, .ofNat 0), (12, .ofNat 1, .ofNat 0), (0, .ofNat 0, .ofNat 0)), (2, 0, (13, .ofNat 1, .ofNat 0), (0, .ofNat 0, .ofNat 2), (0, .ofNat 0, .ofNat 0)), (2, 1, (13, .ofNat 1, .ofNat 0), (0, .ofNat 0, .ofNat 0), (0, .ofNat 0, .ofNat 0)), (2, 1, (1, .ofNat 1, .ofNat 0), (14, .ofNat 1, .ofNat 0), (0, .ofNat 0, .ofNat 0)), (0, 124, (7, .ofNat 1, .ofNat 0), (14, .ofNat 1, .ofNat 0), (0, .ofNat 0, .ofNat 0)), (0, 125, (7, .ofNat 1, .ofNat 0), (12, .ofNat 1, .ofNat 0), (0, .ofNat 0, .ofNat 0)), (2, 4, (2, .ofNat 1, .ofNat 0), (12, .ofNat 1, .ofNat 0), (0, .ofNat 0, .ofNat 0)), (0, 125, (7, .ofNat 1, .ofNat 0), (12, .ofNat 1, .ofNat 0), (0, .ofNat 0, .ofNat 0)), (2, 0, (6, .ofNat 1, .ofNat 0), (0, .ofNat 0, .ofNat 0), (0, .ofNat 0, .ofNat 0)), (0, 123, (7, .ofNat 1, .ofNat 0), (10, .ofNat 1, .ofNat 0), (0, .ofNat 0, .ofNat 0)), (2, 5, (10, .ofNat 1, .ofNat 0), (3, .ofNat 1, .ofNat 0), (0, .ofNat 0, .ofNat 0)), (0, 123, (7, .ofNat 1, .ofNat 0), (10, .ofNat 1, .ofNat 0), (0, .ofNat 0, .ofNat 0)), (2, 0, (0, .ofNat 0, .ofNat 0), (0, .ofNat 0, .ofNat 0), (0, .ofNat 0, .ofNat 0)), (2, 0, (9, .ofNat 1, .ofNat 0), (0, .ofNat 0, .negSucc 3), (0, .ofNat 0, .ofNat 0)), (0, 130, (5, .ofNat 1, .ofNat 0), (9, .ofNat 1, .ofNat 0), (0, .ofNat 0, .ofNat 0)), (2, 2, (7, .ofNat 1, .ofNat 0), (8, .ofNat 1, .ofNat 0), (0, .ofNat 0, .ofNat 0)), (0, 122, (0, .ofNat 0, .ofNat 0), (8, .ofNat 1, .ofNat 0), (0, .ofNat 0, .ofNat 0))], [(1, [(.ofNat 0, .ofNat 1)]), (2, [(.ofNat 1, .ofNat 9)]), (3, [(.ofNat 0, .ofNat 1003700)]), (4, [(.ofNat 0, .ofNat 16)]), (5, [(.ofNat 0, .ofNat 15)]), (6, [(.ofNat 0, .ofNat 0)]), (7, [(.ofNat 0, .ofNat 7)]), (8, [(.ofNat 1, .ofNat 8)]), (9, [(.negSucc 3, .negSucc 3)]), (10, [(.ofNat 0, .ofNat 1000000)]), (11, [(.negSucc 999999, .ofNat 1003700)]), (12, [(.ofNat 0, .ofNat 8)]), (13, [(.ofNat 2, .ofNat 2)]), (14, [(.ofNat 0, .ofNat 1)]), (15, [(.ofNat 1, .ofNat 17)]), (16, [(.ofNat 0, .ofNat 1000000)]), (17, [(.ofNat 0, .ofNat 1000)]), (18, [(.negSucc 1999999, .ofNat 1000)]), (19, [(.ofNat 1, .ofNat 2000000)])], [((16, .ofNat 1, .ofNat 0), (11, .negSucc 0, .ofNat 0), (19, .ofNat 1, .ofNat 0)), ((11, .ofNat 1, .ofNat 0), (16, .negSucc 0, .ofNat 0), (18, .ofNat 1, .ofNat 0)), ((2, .ofNat 1, .ofNat 0), (12, .ofNat 1, .ofNat 0), (15, .ofNat 1, .ofNat 0)), ((2, .ofNat 1, .ofNat 0), (12, .negSucc 0, .ofNat 0), (13, .ofNat 1, .ofNat 0)), ((3, .ofNat 1, .ofNat 0), (10, .negSucc 0, .ofNat 0), (11, .ofNat 1, .ofNat 0))], []),
  (22, [(0, .inr (.inl [122])), (1, .inl (false, (1, .ofNat 1, .ofNat 0))), (2, .inl (false, (2, .ofNat 1, .ofNat 0))), (3, .inl (false, (3, .ofNat 1, .ofNat 0))), (4, .inl (false, (4, .ofNat 1, .ofNat 0))), (5, .inl (false, (5, .ofNat 1, .ofNat 0))), (6, .inl (false, (0, .ofNat 0, .ofNat 1))), (7, .inl (false, (7, .ofNat 1, .ofNat 1))), (8, .inl (false, (11, .ofNat 1, .ofNat 0)))], [], [(2, 1, (0, .ofNat 0, .ofNat 1), (0, .ofNat 0, .ofNat 0), (0, .ofNat 0, .ofNat 0)), (2, 5, (19, .ofNat 1, .ofNat 0), (17, .ofNat 1, .ofNat 0), (0, .ofNat 0, .ofNat 0)), (2, 5, (18, .ofNat 1, .ofNat 0), (17, .ofNat 1, .ofNat 0), (0, .ofNat 0, .ofNat 0)), (0, 128, (5, .ofNat 1, .ofNat 0), (17, .ofNat 1, .ofNat 0), (0, .ofNat 0, .ofNat 0)), (0, 127, (5, .ofNat 1, .ofNat 0), (16, .ofNat 1, .ofNat 0), (0, .ofNat 0, .ofNat 0)), (2, 1, (0, .ofNat 0, .ofNat 1), (0, .ofNat 0, .ofNat 0), (0, .ofNat 0, .ofNat 0)), (2, 4, (15, .ofNat 1, .ofNat 0), (0, .ofNat 0, .ofNat 0), (0, .ofNat 0, .ofNat 0)), (0, 125, (7, .ofNat 1, .ofNat 0), (12, .ofNat 1, .ofNat 0), (0, .ofNat 0, .ofNat 0)), (2, 0, (13, .ofNat 1, .ofNat 0), (0, .ofNat 0, .ofNat 2), (0, .ofNat 0, .ofNat 0)), (2, 1, (13, .ofNat 1, .ofNat 0), (0, .ofNat 0, .ofNat 0), (0, .ofNat 0, .ofNat 0)), (2, 1, (1, .ofNat 1, .ofNat 0), (14, .ofNat 1, .ofNat 0), (0, .ofNat 0, .ofNat 0)), (0, 124, (7, .ofNat 1, .ofNat 0), (14, .ofNat 1, .ofNat 0), (0, .ofNat 0, .ofNat 0)), (0, 125, (7, .ofNat 1, .ofNat 0), (12, .ofNat 1, .ofNat 0), (0, .ofNat 0, .ofNat 0)), (2, 4, (2, .ofNat 1, .ofNat 0), (12, .ofNat 1, .ofNat 0), (0, .ofNat 0, .ofNat 0)), (0, 125, (7, .ofNat 1, .ofNat 0), (12, .ofNat 1, .ofNat 0), (0, .ofNat 0, .ofNat 0)), (2, 0, (6, .ofNat 1, .ofNat 0), (0, .ofNat 0, .ofNat 0), (0, .ofNat 0, .ofNat 0)), (0, 123, (7, .ofNat 1, .ofNat 0), (10, .ofNat 1, .ofNat 0), (0, .ofNat 0, .ofNat 0)), (2, 5, (10, .ofNat 1, .ofNat 0), (3, .ofNat 1, .ofNat 0), (0, .ofNat 0, .ofNat 0)), (0, 123, (7, .ofNat 1, .ofNat 0), (10, .ofNat 1, .ofNat 0), (0, .ofNat 0, .ofNat 0)), (2, 0, (0, .ofNat 0, .ofNat 0), (0, .ofNat 0, .ofNat 0), (0, .ofNat 0, .ofNat 0)), (2, 0, (9, .ofNat 1, .ofNat 0), (0, .ofNat 0, .negSucc 3), (0, .ofNat 0, .ofNat 0)), (0, 130, (5, .ofNat 1, .ofNat 0), (9, .ofNat 1, .ofNat 0), (0, .ofNat 0, .ofNat 0)), (2, 2, (7, .ofNat 1, .ofNat 0), (8, .ofNat 1, .ofNat 0), (0, .ofNat 0, .ofNat 0)), (0, 122, (0, .ofNat 0, .ofNat 0), (8, .ofNat 1, .ofNat 0), (0, .ofNat 0, .ofNat 0))], [(1, [(.ofNat 0, .ofNat 1)]), (2, [(.ofNat 1, .ofNat 9)]), (3, [(.ofNat 0, .ofNat 1003700)]), (4, [(.ofNat 0, .ofNat 16)]), (5, [(.ofNat 0, .ofNat 15)]), (6, [(.ofNat 0, .ofNat 0)]), (7, [(.ofNat 0, .ofNat 7)]), (8, [(.ofNat 1, .ofNat 8)]), (9, [(.negSucc 3, .negSucc 3)]), (10, [(.ofNat 0, .ofNat 1000000)]), (11, [(.negSucc 999999, .ofNat 1003700)]), (12, [(.ofNat 0, .ofNat 8)]), (13, [(.ofNat 2, .ofNat 2)]), (14, [(.ofNat 0, .ofNat 1)]), (15, [(.ofNat 1, .ofNat 17)]), (16, [(.ofNat 0, .ofNat 1000000)]), (17, [(.ofNat 0, .ofNat 1000)]), (18, [(.negSucc 1999999, .ofNat 1000)]), (19, [(.negSucc 1003699, .ofNat 1000)])], [((16, .ofNat 1, .ofNat 0), (11, .negSucc 0, .ofNat 0), (19, .ofNat 1, .ofNat 0)), ((11, .ofNat 1, .ofNat 0), (16, .negSucc 0, .ofNat 0), (18, .ofNat 1, .ofNat 0)), ((2, .ofNat 1, .ofNat 0), (12, .ofNat 1, .ofNat 0), (15, .ofNat 1, .ofNat 0)), ((2, .ofNat 1, .ofNat 0), (12, .negSucc 0, .ofNat 0), (13, .ofNat 1, .ofNat 0)), ((3, .ofNat 1, .ofNat 0), (10, .negSucc 0, .ofNat 0), (11, .ofNat 1, .ofNat 0))], []),
  (22, [(0, .inr (.inl [122])), (1, .inl (false, (1, .ofNat 1, .ofNat 0))), (2, .inl (false, (2, .ofNat 1, .ofNat 0))), (3, .inl (false, (3, .ofNat 1, .ofNat 0))), (4, .inl (false, (4, .ofNat 1, .ofNat 0))), (5, .inl (false, (5, .ofNat 1, .ofNat 0))), (6, .inl (false, (0, .ofNat 0, .ofNat 1))), (7, .inl (false, (7, .ofNat 1, .ofNat 1))), (8, .inl (false, (11, .ofNat 1, .ofNat 0)))], [], [(2, 1, (6, .ofNat 1, .ofNat 0), (0, .ofNat 0, .ofNat 0), (0, .ofNat 0, .ofNat 0)), (0, 123, (7, .ofNat 1, .ofNat 0), (10, .ofNat 1, .ofNat 0), (0, .ofNat 0, .ofNat 0)), (2, 4, (10, .ofNat 1, .ofNat 0), (3, .ofNat 1, .ofNat 0), (0, .ofNat 0, .ofNat 0)), (0, 123, (7, .ofNat 1, .ofNat 0), (10, .ofNat 1, .ofNat 0), (0, .ofNat 0, .ofNat 0)), (2, 0, (0, .ofNat 0, .ofNat 0), (0, .ofNat 0, .ofNat 0), (0, .ofNat 0, .ofNat 0)), (2, 0, (9, .ofNat 1, .ofNat 0), (0, .ofNat 0, .negSucc 3), (0, .ofNat 0, .ofNat 0)), (0, 130, (5, .ofNat 1, .ofNat 0), (9, .ofNat 1, .ofNat 0), (0, .ofNat 0, .ofNat 0)), (2, 2, (7, .ofNat 1, .ofNat 0), (8, .ofNat 1, .ofNat 0), (0, .ofNat 0, .ofNat 0)), (0, 122, (0, .ofNat 0, .ofNat 0), (8, .ofNat 1, .ofNat 0), (0, .ofNat 0, .ofNat 0))], [(1, [(.ofNat 0, .ofNat 1)]), (2, [(.ofNat 0, .ofNat 9)]), (3, [(.ofNat 0, .ofNat 999999)]), (4, [(.ofNat 0, .ofNat 16)]), (5, [(.ofNat 0, .ofNat 15)]), (6, [(.ofNat 1, .ofNat 1)]), (7, [(.ofNat 0, .ofNat 7)]), (8, [(.ofNat 1, .ofNat 8)]), (9, [(.negSucc 3, .negSucc 3)]), (10, [(.ofNat 1, .ofNat 1000000)]), (11, [(.negSucc 999997, .ofNat 1000000)])], [((10, .ofNat 1, .ofNat 0), (3, .negSucc 0, .ofNat 0), (11, .ofNat 1, .ofNat 0))], []),
  (22, [(0, .inr (.inl [122])), (1, .inl (false, (1, .ofNat 1, .ofNat 0))), (2, .inl (false, (2, .ofNat 1, .ofNat 0))), (3, .inl (false, (3, .ofNat 1, .ofNat 0))), (4, .inl (false, (4, .ofNat 1, .ofNat 0))), (5, .inl (false, (5, .ofNat 1, .ofNat 0))), (6, .inl (false, (0, .ofNat 0, .ofNat 0))), (7, .inl (false, (7, .ofNat 1, .ofNat 1))), (8, .inl (false, (11, .ofNat 1, .ofNat 0)))], [], [(2, 0, (0, .ofNat 0, .ofNat 0), (0, .ofNat 0, .ofNat 0), (0, .ofNat 0, .ofNat 0)), (2, 0, (1, .ofNat 1, .ofNat 0), (14, .ofNat 1, .ofNat 0), (0, .ofNat 0, .ofNat 0)), (0, 124, (7, .ofNat 1, .ofNat 0), (14, .ofNat 1, .ofNat 0), (0, .ofNat 0, .ofNat 0)), (0, 125, (7, .ofNat 1, .ofNat 0), (12, .ofNat 1, .ofNat 0), (0, .ofNat 0, .ofNat 0)), (2, 5, (2, .ofNat 1, .ofNat 0), (12, .ofNat 1, .ofNat 0), (0, .ofNat 0, .ofNat 0)), (0, 125, (7, .ofNat 1, .ofNat 0), (12, .ofNat 1, .ofNat 0), (0, .ofNat 0, .ofNat 0)), (2, 0, (6, .ofNat 1, .ofNat 0), (0, .ofNat 0, .ofNat 0), (0, .ofNat 0, .ofNat 0)), (0, 123, (7, .ofNat 1, .ofNat 0), (10, .ofNat 1, .ofNat 0), (0, .ofNat 0, .ofNat 0)), (2, 4, (10, .ofNat 1, .ofNat 0), (3, .ofNat 1, .ofNat 0), (0, .ofNat 0, .ofNat 0)), (0, 123, (7, .ofNat 1, .ofNat 0), (10, .ofNat 1, .ofNat 0), (0, .ofNat 0, .ofNat 0)), (2, 0, (0, .ofNat 0, .ofNat 0), (0, .ofNat 0, .ofNat 0), (0, .ofNat 0, .ofNat 0)), (2, 0, (9, .ofNat 1, .ofNat 0), (0, .ofNat 0, .negSucc 3), (0, .ofNat 0, .ofNat 0)), (0, 130, (5, .ofNat 1, .ofNat 0), (9, .ofNat 1, .ofNat 0), (0, .ofNat 0, .ofNat 0)), (2, 2, (7, .ofNat 1, .ofNat 0), (8, .ofNat 1, .ofNat 0), (0, .ofNat 0, .ofNat 0)), (0, 122, (0, .ofNat 0, .ofNat 0), (8, .ofNat 1, .ofNat 0), (0, .ofNat 0, .ofNat 0))], [(1, [(.ofNat 0, .ofNat 1)]), (2, [(.ofNat 0, .ofNat 9)]), (3, [(.ofNat 0, .ofNat 999999)]), (4, [(.ofNat 0, .ofNat 16)]), (5, [(.ofNat 0, .ofNat 15)]), (6, [(.ofNat 0, .ofNat 0)]), (7, [(.ofNat 0, .ofNat 7)]), (8, [(.ofNat 1, .ofNat 8)]), (9, [(.negSucc 3, .negSucc 3)]), (10, [(.ofNat 1, .ofNat 1000000)]), (11, [(.negSucc 999997, .ofNat 1000000)]), (12, [(.ofNat 0, .ofNat 9)]), (14, [(.ofNat 0, .ofNat 1)])], [((10, .ofNat 1, .ofNat 0), (3, .negSucc 0, .ofNat 0), (11, .ofNat 1, .ofNat 0))], []),
  (22, [(0, .inr (.inl [122])), (1, .inl (false, (1, .ofNat 1, .ofNat 0))), (2, .inl (false, (2, .ofNat 1, .ofNat 0))), (3, .inl (false, (3, .ofNat 1, .ofNat 0))), (4, .inl (false, (4, .ofNat 1, .ofNat 0))), (5, .inl (false, (5, .ofNat 1, .ofNat 0))), (6, .inl (false, (0, .ofNat 0, .ofNat 0))), (7, .inl (false, (7, .ofNat 1, .ofNat 1))), (8, .inl (false, (11, .ofNat 1, .ofNat 0)))], [], [(2, 0, (0, .ofNat 0, .ofNat 0), (0, .ofNat 0, .ofNat 0), (0, .ofNat 0, .ofNat 0)), (2, 5, (15, .ofNat 1, .ofNat 0), (0, .ofNat 0, .ofNat 0), (0, .ofNat 0, .ofNat 0)), (0, 125, (7, .ofNat 1, .ofNat 0), (12, .ofNat 1, .ofNat 0), (0, .ofNat 0, .ofNat 0)), (2, 0, (13, .ofNat 1, .ofNat 0), (0, .ofNat 0, .ofNat 0), (0, .ofNat 0, .ofNat 0)), (2, 1, (1, .ofNat 1, .ofNat 0), (14, .ofNat 1, .ofNat 0), (0, .ofNat 0, .ofNat 0)), (0, 124, (7, .ofNat 1, .ofNat 0), (14, .ofNat 1, .ofNat 0), (0, .ofNat 0, .ofNat 0)), (0, 125, (7, .ofNat 1, .ofNat 0), (12, .ofNat 1, .ofNat 0), (0, .ofNat 0, .ofNat 0)), (2, 5, (2, .ofNat 1, .ofNat 0), (12, .ofNat 1, .ofNat 0), (0, .ofNat 0, .ofNat 0)), (0, 125, (7, .ofNat 1, .ofNat 0), (12, .ofNat 1, .ofNat 0), (0, .ofNat 0, .ofNat 0)), (2, 0, (6, .ofNat 1, .ofNat 0), (0, .ofNat 0, .ofNat 0), (0, .ofNat 0, .ofNat 0)), (0, 123, (7, .ofNat 1, .ofNat 0), (10, .ofNat 1, .ofNat 0), (0, .ofNat 0, .ofNat 0)), (2, 4, (10, .ofNat 1, .ofNat 0), (3, .ofNat 1, .ofNat 0), (0, .ofNat 0, .ofNat 0)), (0, 123, (7, .ofNat 1, .ofNat 0), (10, .ofNat 1, .ofNat 0), (0, .ofNat 0, .ofNat 0)), (2, 0, (0, .ofNat 0, .ofNat 0), (0, .ofNat 0, .ofNat 0), (0, .ofNat 0, .ofNat 0)), (2, 0, (9, .ofNat 1, .ofNat 0), (0, .ofNat 0, .negSucc 3), (0, .ofNat 0, .ofNat 0)), (0, 130, (5, .ofNat 1, .ofNat 0), (9, .ofNat 1, .ofNat 0), (0, .ofNat 0, .ofNat 0)), (2, 2, (7, .ofNat 1, .ofNat 0), (8, .ofNat 1, .ofNat 0), (0, .ofNat 0, .ofNat 0)), (0, 122, (0, .ofNat 0, .ofNat 0), (8, .ofNat 1, .ofNat 0), (0, .ofNat 0, .ofNat 0))], [(1, [(.ofNat 0, .ofNat 1)]), (2, [(.ofNat 0, .ofNat 9)]), (3, [(.ofNat 0, .ofNat 999999)]), (4, [(.ofNat 0, .ofNat 16)]), (5, [(.ofNat 0, .ofNat 15)]), (6, [(.ofNat 0, .ofNat 0)]), (7, [(.ofNat 0, .ofNat 7)]), (8, [(.ofNat 1, .ofNat 8)]), (9, [(.negSucc 3, .negSucc 3)]), (10, [(.ofNat 1, .ofNat 1000000)]), (11, [(.negSucc 999997, .ofNat 1000000)]), (12, [(.ofNat 0, .ofNat 9)]), (13, [(.ofNat 0, .ofNat 0)]), (14, [(.ofNat 0, .ofNat 1)]), (15, [(.ofNat 0, .ofNat 0)])], [((2, .ofNat 1, .ofNat 0), (12, .ofNat 1, .ofNat 0), (15, .ofNat 1, .ofNat 0)), ((12, .ofNat 1, .ofNat 0), (2, .negSucc 0, .ofNat 0), (13, .ofNat 1, .ofNat 0)), ((10, .ofNat 1, .ofNat 0), (3, .negSucc 0, .ofNat 0), (11, .ofNat 1, .ofNat 0))], []),
  (22, [(0, .inr (.inl [122])), (1, .inl (false, (1, .ofNat 1, .ofNat 0))), (2, .inl (false, (2, .ofNat 1, .ofNat 0))), (3, .inl (false, (3, .ofNat 1, .ofNat 0))), (4, .inl (false, (4, .ofNat 1, .ofNat 0))), (5, .inl (false, (5, .ofNat 1, .ofNat 0))), (6, .inl (false, (0, .ofNat 0, .ofNat 0))), (7, .inl (false, (7, .ofNat 1, .ofNat 1))), (8, .inl (false, (11, .ofNat 1, .ofNat 0)))], [], [(2, 0, (0, .ofNat 0, .ofNat 0), (0, .ofNat 0, .ofNat 0), (0, .ofNat 0, .ofNat 0)), (2, 4, (18, .ofNat 1, .ofNat 0), (17, .ofNat 1, .ofNat 0), (0, .ofNat 0, .ofNat 0)), (0, 128, (5, .ofNat 1, .ofNat 0), (17, .ofNat 1, .ofNat 0), (0, .ofNat 0, .ofNat 0)), (0, 127, (5, .ofNat 1, .ofNat 0), (16, .ofNat 1, .ofNat 0), (0, .ofNat 0, .ofNat 0)), (2, 1, (0, .ofNat 0, .ofNat 1), (0, .ofNat 0, .ofNat 0), (0, .ofNat 0, .ofNat 0)), (2, 4, (15, .ofNat 1, .ofNat 0), (0, .ofNat 0, .ofNat 0), (0, .ofNat 0, .ofNat 0)), (0, 125, (7, .ofNat 1, .ofNat 0), (12, .ofNat 1, .ofNat 0), (0, .ofNat 0, .ofNat 0)), (2, 0, (13, .ofNat 1, .ofNat 0), (0, .ofNat 0, .ofNat 0), (0, .ofNat 0, .ofNat 0)), (2, 1, (1, .ofNat 1, .ofNat 0), (14, .ofNat 1, .ofNat 0), (0, .ofNat 0, .ofNat 0)), (0, 124, (7, .ofNat 1, .ofNat 0), (14, .ofNat 1, .ofNat 0), (0, .ofNat 0, .ofNat 0)), (0, 125, (7, .ofNat 1, .ofNat 0), (12, .ofNat 1, .ofNat 0), (0, .ofNat 0, .ofNat 0)), (2, 5, (2, .ofNat 1, .ofNat 0), (12, .ofNat 1, .ofNat 0), (0, .ofNat 0, .ofNat 0)), (0, 125, (7, .ofNat 1, .ofNat 0), (12, .ofNat 1, .ofNat 0), (0, .ofNat 0, .ofNat 0)), (2, 0, (6, .ofNat 1, .ofNat 0), (0, .ofNat 0, .ofNat 0), (0, .ofNat 0, .ofNat 0)), (0, 123, (7, .ofNat 1, .ofNat 0), (10, .ofNat 1, .ofNat 0), (0, .ofNat 0, .ofNat 0)), (2, 4, (10, .ofNat 1, .ofNat 0), (3, .ofNat 1, .ofNat 0), (0, .ofNat 0, .ofNat 0)), (0, 123, (7, .ofNat 1, .ofNat 0), (10, .ofNat 1, .ofNat 0), (0, .ofNat 0, .ofNat 0)), (2, 0, (0, .ofNat 0, .ofNat 0), (0, .ofNat 0, .ofNat 0), (0, .ofNat 0, .ofNat 0)), (2, 0, (9, .ofNat 1, .ofNat 0), (0, .ofNat 0, .negSucc 3), (0, .ofNat 0, .ofNat 0)), (0, 130, (5, .ofNat 1, .ofNat 0), (9, .ofNat 1, .ofNat 0), (0, .ofNat 0, .ofNat 0)), (2, 2, (7, .ofNat 1, .ofNat 0), (8, .ofNat 1, .ofNat 0), (0, .ofNat 0, .ofNat 0)), (0, 122, (0, .ofNat 0, .ofNat 0), (8, .ofNat 1, .ofNat 0), (0, .ofNat 0, .ofNat 0))], [(1, [(.ofNat 0, .ofNat 1)]), (2, [(.ofNat 0, .ofNat 9)]), (3, [(.ofNat 0, .ofNat 999999)]), (4, [(.ofNat 0, .ofNat 16)]), (5, [(.ofNat 0, .ofNat 15)]), (6, [(.ofNat 0, .ofNat 0)]), (7, [(.ofNat 0, .ofNat 7)]), (8, [(.ofNat 1, .ofNat 8)]), (9, [(.negSucc 3, .negSucc 3)]), (10, [(.ofNat 1, .ofNat 1000000)]), (11, [(.negSucc 999997, .ofNat 1000000)]), (12, [(.ofNat 0, .ofNat 9)]), (13, [(.ofNat 0, .ofNat 0)]), (14, [(.ofNat 0, .ofNat 1)]), (15, [(.ofNat 1, .ofNat 18)]), (16, [(.ofNat 0, .ofNat 1000000)]), (17, [(.ofNat 0, .ofNat 1000)]), (18, [(.ofNat 1, .ofNat 1000000)])], [((11, .ofNat 1, .ofNat 0), (16, .negSucc 0, .ofNat 0), (18, .ofNat 1, .ofNat 0)), ((2, .ofNat 1, .ofNat 0), (12, .ofNat 1, .ofNat 0), (15, .ofNat 1, .ofNat 0)), ((12, .ofNat 1, .ofNat 0), (2, .negSucc 0, .ofNat 0), (13, .ofNat 1, .ofNat 0)), ((10, .ofNat 1, .ofNat 0), (3, .negSucc 0, .ofNat 0), (11, .ofNat 1, .ofNat 0))], []),
  (22, [(0, .inr (.inl [122])), (1, .inl (false, (1, .ofNat 1, .ofNat 0))), (2, .inl (false, (2, .ofNat 1, .ofNat 0))), (3, .inl (false, (3, .ofNat 1, .ofNat 0))), (4, .inl (false, (4, .ofNat 1, .ofNat 0))), (5, .inl (false, (5, .ofNat 1, .ofNat 0))), (6, .inl (false, (0, .ofNat 0, .ofNat 0))), (7, .inl (false, (7, .ofNat 1, .ofNat 1))), (8, .inl (false, (11, .ofNat 1, .ofNat 0)))], [], [(2, 0, (0, .ofNat 0, .ofNat 0), (0, .ofNat 0, .ofNat 0), (0, .ofNat 0, .ofNat 0)), (2, 4, (19, .ofNat 1, .ofNat 0), (17, .ofNat 1, .ofNat 0), (0, .ofNat 0, .ofNat 0)), (2, 5, (18, .ofNat 1, .ofNat 0), (17, .ofNat 1, .ofNat 0), (0, .ofNat 0, .ofNat 0)), (0, 128, (5, .ofNat 1, .ofNat 0), (17, .ofNat 1, .ofNat 0), (0, .ofNat 0, .ofNat 0)), (0, 127, (5, .ofNat 1, .ofNat 0), (16, .ofNat 1, .ofNat 0), (0, .ofNat 0, .ofNat 0)), (2, 1, (0, .ofNat 0, .ofNat 1), (0, .ofNat 0, .ofNat 0), (0, .ofNat 0, .ofNat 0)), (2, 4, (15, .ofNat 1, .ofNat 0), (0, .ofNat 0, .ofNat 0), (0, .ofNat 0, .ofNat 0)), (0, 125, (7, .ofNat 1, .ofNat 0), (12, .ofNat 1, .ofNat 0), (0, .ofNat 0, .ofNat 0)), (2, 0, (13, .ofNat 1, .ofNat 0), (0, .ofNat 0, .ofNat 0), (0, .ofNat 0, .ofNat 0)), (2, 1, (1, .ofNat 1, .ofNat 0), (14, .ofNat 1, .ofNat 0), (0, .ofNat 0, .ofNat 0)), (0, 124, (7, .ofNat 1, .ofNat 0), (14, .ofNat 1, .ofNat 0), (0, .ofNat 0, .ofNat 0)), (0, 125, (7, .ofNat 1, .ofNat 0), (12, .ofNat 1, .ofNat 0), (0, .ofNat 0, .ofNat 0)), (2, 5, (2, .ofNat 1, .ofNat 0), (12, .ofNat 1, .ofNat 0), (0, .ofNat 0, .ofNat 0)), (0, 125, (7, .ofNat 1, .ofNat 0), (12, .ofNat 1, .ofNat 0), (0, .ofNat 0, .ofNat 0)), (2, 0, (6, .ofNat 1, .ofNat 0), (0, .ofNat 0, .ofNat 0), (0, .ofNat 0, .ofNat 0)), (0, 123, (7, .ofNat 1, .ofNat 0), (10, .ofNat 1, .ofNat 0), (0, .ofNat 0, .ofNat 0)), (2, 4, (10, .ofNat 1, .ofNat 0), (3, .ofNat 1, .ofNat 0), (0, .ofNat 0, .ofNat 0)), (0, 123, (7, .ofNat 1, .ofNat 0), (10, .ofNat 1, .ofNat 0), (0, .ofNat 0, .ofNat 0)), (2, 0, (0, .ofNat 0, .ofNat 0), (0, .ofNat 0, .ofNat 0), (0, .ofNat 0, .ofNat 0)), (2, 0, (9, .ofNat 1, .ofNat 0), (0, .ofNat 0, .negSucc 3), (0, .ofNat 0, .ofNat 0)), (0, 130, (5, .ofNat 1, .ofNat 0), (9, .ofNat 1, .ofNat 0), (0, .ofNat 0, .ofNat 0)), (2, 2, (7, .ofNat 1, .ofNat 0), (8, .ofNat 1, .ofNat 0), (0, .ofNat 0, .ofNat 0)), (0, 122, (0, .ofNat 0, .ofNat 0), (8, .ofNat 1, .ofNat 0), (0, .ofNat 0, .ofNat 0))], [(1, [(.ofNat 0, .ofNat 1)]), (2, [(.ofNat 0, .ofNat 9)]), (3, [(.ofNat 0, .ofNat 999999)]), (4, [(.ofNat 0, .ofNat 16)]), (5, [(.ofNat 0, .ofNat 15)]), (6, [(.ofNat 0, .ofNat 0)]), (7, [(.ofNat 0, .ofNat 7)]), (8, [(.ofNat 1, .ofNat 8)]), (9, [(.negSucc 3, .negSucc 3)]), (10, [(.ofNat 1, .ofNat 1000000)]), (11, [(.negSucc 999997, .ofNat 1000000)]), (12, [(.ofNat 0, .ofNat 9)]), (13, [(.ofNat 0, .ofNat 0)]), (14, [(.ofNat 0, .ofNat 1)]), (15, [(.ofNat 1, .ofNat 18)]), (16, [(.ofNat 0, .ofNat 1000000)]), (17, [(.ofNat 0, .ofNat 1000)]), (18, [(.negSucc 1999997, .ofNat 1000)]), (19, [(.ofNat 1, .ofNat 1999998)])], [((16, .ofNat 1, .ofNat 0), (11, .negSucc 0, .ofNat 0), (19, .ofNat 1, .ofNat 0)), ((11, .ofNat 1, .ofNat 0), (16, .negSucc 0, .ofNat 0), (18, .ofNat 1, .ofNat 0)), ((2, .ofNat 1, .ofNat 0), (12, .ofNat 1, .ofNat 0), (15, .ofNat 1, .ofNat 0)), ((12, .ofNat 1, .ofNat 0), (2, .negSucc 0, .ofNat 0), (13, .ofNat 1, .ofNat 0)), ((10, .ofNat 1, .ofNat 0), (3, .negSucc 0, .ofNat 0), (11, .ofNat 1, .ofNat 0))], []),
  (22, [(0, .inr (.inl [122])), (1, .inl (false, (1, .ofNat 1, .ofNat 0))), (2, .inl (false, (2, .ofNat 1, .ofNat 0))), (3, .inl (false, (3, .ofNat 1, .ofNat 0))), (4, .inl (false, (4, .ofNat 1, .ofNat 0))), (5, .inl (false, (5, .ofNat 1, .ofNat 0))), (6, .inl (false, (0, .ofNat 0, .ofNat 1))), (7, .inl (false, (7, .ofNat 1, .ofNat 1))), (8, .inl (false, (11, .ofNat 1, .ofNat 0)))], [], [(2, 1, (0, .ofNat 0, .ofNat 1), (0, .ofNat 0, .ofNat 0), (0, .ofNat 0, .ofNat 0)), (2, 5, (19, .ofNat 1, .ofNat 0), (17, .ofNat 1, .ofNat 0), (0, .ofNat 0, .ofNat 0)), (2, 5, (18, .ofNat 1, .ofNat 0), (17, .ofNat 1, .ofNat 0), (0, .ofNat 0, .ofNat 0)), (0, 128, (5, .ofNat 1, .ofNat 0), (17, .ofNat 1, .ofNat 0), (0, .ofNat 0, .ofNat 0)), (0, 127, (5, .ofNat 1, .ofNat 0), (16, .ofNat 1, .ofNat 0), (0, .ofNat 0, .ofNat 0)), (2, 1, (0, .ofNat 0, .ofNat 1), (0, .ofNat 0, .ofNat 0), (0, .ofNat 0, .ofNat 0)), (2, 4, (15, .ofNat 1, .ofNat 0), (0, .ofNat 0, .ofNat 0), (0, .ofNat 0, .ofNat 0)), (0, 125, (7, .ofNat 1, .ofNat 0), (12, .ofNat 1, .ofNat 0), (0, .ofNat 0, .ofNat 0)), (2, 0, (13, .ofNat 1, .ofNat 0), (0, .ofNat 0, .ofNat 0), (0, .ofNat 0, .ofNat 0)), (2, 1, (1, .ofNat 1, .ofNat 0), (14, .ofNat 1, .ofNat 0), (0, .ofNat 0, .ofNat 0)), (0, 124, (7, .ofNat 1, .ofNat 0), (14, .ofNat 1, .ofNat 0), (0, .ofNat 0, .ofNat 0)), (0, 125, (7, .ofNat 1, .ofNat 0), (12, .ofNat 1, .ofNat 0), (0, .ofNat 0, .ofNat 0)), (2, 5, (2, .ofNat 1, .ofNat 0), (12, .ofNat 1, .ofNat 0), (0, .ofNat 0, .ofNat 0)), (0, 125, (7, .ofNat 1, .ofNat 0), (12, .ofNat 1, .ofNat 0), (0, .ofNat 0, .ofNat 0)), (2, 0, (6, .ofNat 1, .ofNat 0), (0, .ofNat 0, .ofNat 0), (0, .ofNat 0, .ofNat 0)), (0, 123, (7, .ofNat 1, .ofNat 0), (10, .ofNat 1, .ofNat 0), (0, .ofNat 0, .ofNat 0)), (2, 4, (10, .ofNat 1, .ofNat 0), (3, .ofNat 1, .ofNat 0), (0, .ofNat 0, .ofNat 0)), (0, 123, (7, .ofNat 1, .ofNat 0), (10, .ofNat 1, .ofNat 0), (0, .ofNat 0, .ofNat 0)), (2, 0, (0, .ofNat 0, .ofNat 0), (0, .ofNat 0, .ofNat 0), (0, .ofNat 0, .ofNat 0)), (2, 0, (9, .ofNat 1, .ofNat 0), (0, .ofNat 0, .negSucc 3), (0, .ofNat 0, .ofNat 0)), (0, 130, (5, .ofNat 1, .ofNat 0), (9, .ofNat 1, .ofNat 0), (0, .ofNat 0, .ofNat 0)), (2, 2, (7, .ofNat 1, .ofNat 0), (8, .ofNat 1, .ofNat 0), (0, .ofNat 0, .ofNat 0)), (0, 122, (0, .ofNat 0, .ofNat 0), (8, .ofNat 1, .ofNat 0), (0, .ofNat 0, .ofNat 0))], [(1, [(.ofNat 0, .ofNat 1)]), (2, [(.ofNat 0, .ofNat 9)]), (3, [(.ofNat 0, .ofNat 999999)]), (4, [(.ofNat 0, .ofNat 16)]), (5, [(.ofNat 0, .ofNat 15)]), (6, [(.ofNat 0, .ofNat 0)]), (7, [(.ofNat 0, .ofNat 7)]), (8, [(.ofNat 1, .ofNat 8)]), (9, [(.negSucc 3, .negSucc 3)]), (10, [(.ofNat 1, .ofNat 1000000)]), (11, [(.negSucc 999997, .ofNat 1000000)]), (12, [(.ofNat 0, .ofNat 9)]), (13, [(.ofNat 0, .ofNat 0)]), (14, [(.ofNat 0, .ofNat 1)]), (15, [(.ofNat 1, .ofNat 18)]), (16, [(.ofNat 0, .ofNat 1000000)]), (17, [(.ofNat 0, .ofNat 1000)]), (18, [(.negSucc 1999997, .ofNat 1000)]), (19, [(.negSucc 999999, .ofNat 1000)])], [((16, .ofNat 1, .ofNat 0), (11, .negSucc 0, .ofNat 0), (19, .ofNat 1, .ofNat 0)), ((11, .ofNat 1, .ofNat 0), (16, .negSucc 0, .ofNat 0), (18, .ofNat 1, .ofNat 0)), ((2, .ofNat 1, .ofNat 0), (12, .ofNat 1, .ofNat 0), (15, .ofNat 1, .ofNat 0)), ((12, .ofNat 1, .ofNat 0), (2, .negSucc 0, .ofNat 0), (13, .ofNat 1, .ofNat 0)), ((10, .ofNat 1, .ofNat 0), (3, .negSucc 0, .ofNat 0), (11, .ofNat 1, .ofNat 0))], []),
  (22, [(0, .inr (.inl [122])), (1, .inl (false, (1, .ofNat 1, .ofNat 0))), (2, .inl (false, (2, .ofNat 1, .ofNat 0))), (3, .inl (false, (3, .ofNat 1, .ofNat 0))), (4, .inl (false, (4, .ofNat 1, .ofNat 0))), (5, .inl (false, (5, .ofNat 1, .ofNat 0))), (6, .inl (false, (0, .ofNat 0, .ofNat 0))), (7, .inl (false, (7, .ofNat 1, .ofNat 1))), (8, .inl (false, (11, .ofNat 1, .ofNat 0)))], [], [(2, 0, (0, .ofNat 0, .ofNat 0), (0, .ofNat 0, .ofNat 0), (0, .ofNat 0, .ofNat 0)), (2, 1, (13, .ofNat 1, .ofNat 0), (0, .ofNat 0, .ofNat 2), (0, .ofNat 0, .ofNat 0)), (2, 1, (13, .ofNat 1, .ofNat 0), (0, .ofNat 0, .ofNat 0), (0, .ofNat 0, .ofNat 0)), (2, 1, (1, .ofNat 1, .ofNat 0), (14, .ofNat 1, .ofNat 0), (0, .ofNat 0, .ofNat 0)), (0, 124, (7, .ofNat 1, .ofNat 0), (14, .ofNat 1, .ofNat 0), (0, .ofNat 0, .ofNat 0)), (0, 125, (7, .ofNat 1, .ofNat 0), (12, .ofNat 1, .ofNat 0), (0, .ofNat 0, .ofNat 0)), (2, 5, (2, .ofNat 1, .ofNat 0), (12, .ofNat 1, .ofNat 0), (0, .ofNat 0, .ofNat 0)), (0, 125, (7, .ofNat 1, .ofNat 0), (12, .ofNat 1, .ofNat 0), (0, .ofNat 0, .ofNat 0)), (2, 0, (6, .ofNat 1, .ofNat 0), (0, .ofNat 0, .ofNat 0), (0, .ofNat 0, .ofNat 0)), (0, 123, (7, .ofNat 1, .ofNat 0), (10, .ofNat 1, .ofNat 0), (0, .ofNat 0, .ofNat 0)), (2, 4, (10, .ofNat 1, .ofNat 0), (3, .ofNat 1, .ofNat 0), (0, .ofNat 0, .ofNat 0)), (0, 123, (7, .ofNat 1, .ofNat 0), (10, .ofNat 1, .ofNat 0), (0, .ofNat 0, .ofNat 0)), (2, 0, (0, .ofNat 0, .ofNat 0), (0, .ofNat 0, .ofNat 0), (0, .ofNat 0, .ofNat 0)), (2, 0, (9, .ofNat 1, .ofNat 0), (0, .ofNat 0, .negSucc 3), (0, .ofNat 0, .ofNat 0)), (0, 130, (5, .ofNat 1, .ofNat 0), (9, .ofNat 1, .ofNat 0), (0, .ofNat 0, .ofNat 0)), (2, 2, (7, .ofNat 1, .ofNat 0), (8, .ofNat 1, .ofNat 0), (0, .ofNat 0, .ofNat 0)), (0, 122, (0, .ofNat 0, .ofNat 0), (8, .ofNat 1, .ofNat 0), (0, .ofNat 0, .ofNat 0))], [(1, [(.ofNat 0, .ofNat 1)]), (2, [(.ofNat 0, .ofNat 9)]), (3, [(.ofNat 0, .ofNat 999999)]), (4, [(.ofNat 0, .ofNat 16)]), (5, [(.ofNat 0, .ofNat 15)]), (6, [(.ofNat 0, .ofNat 0)]), (7, [(.ofNat 0, .ofNat 7)]), (8, [(.ofNat 1, .ofNat 8)]), (9, [(.negSucc 3, .negSucc 3)]), (10, [(.ofNat 1, .ofNat 1000000)]), (11, [(.negSucc 999997, .ofNat 1000000)]), (12, [(.ofNat 0, .ofNat 9)]), (13, [(.negSucc 8, .negSucc 0), (.ofNat 1, .ofNat 1), (.ofNat 3, .ofNat 9)]), (14, [(.ofNat 0, .ofNat 1)])], [((12, .ofNat 1, .ofNat 0), (2, .negSucc 0, .ofNat 0), (13, .ofNat 1, .ofNat 0)), ((10, .ofNat 1, .ofNat 0), (3, .negSucc 0, .ofNat 0), (11, .ofNat 1, .ofNat 0))], []),
  (22, [(0, .inr (.inl [122])), (1, .inl (false, (1, .ofNat 1, .ofNat 0))), (2, .inl (false, (2, .ofNat 1, .ofNat 0))), (3, .inl (false, (3, .ofNat 1, .ofNat 0))), (4, .inl (false, (4, .ofNat 1, .ofNat 0))), (5, .inl (false, (5, .ofNat 1, .ofNat 0))), (6, .inl (false, (0, .ofNat 0, .ofNat 0))), (7, .inl (false, (7, .ofNat 1, .ofNat 1))), (8, .inl (false, (11, .ofNat 1, .ofNat 0)))], [], [(2, 0, (0, .ofNat 0, .ofNat 0), (0, .ofNat 0, .ofNat 0), (0, .ofNat 0, .ofNat 0)), (2, 5, (15, .ofNat 1, .ofNat 0), (0, .ofNat 0, .ofNat 0), (0, .ofNat 0, .ofNat 0)), (0, 125, (7, .ofNat 1, .ofNat 0), (12, .ofNat 1, .ofNat 0), (0, .ofNat 0, .ofNat 0)), (2, 0, (13, .ofNat 1, .ofNat 0), (0, .ofNat 0, .ofNat 2), (0, .ofNat 0, .ofNat 0)), (2, 1, (13, .ofNat 1, .ofNat 0), (0, .ofNat 0, .ofNat 0), (0, .ofNat 0, .ofNat 0)), (2, 1, (1, .ofNat 1, .ofNat 0), (14, .ofNat 1, .ofNat 0), (0, .ofNat 0, .ofNat 0)), (0, 124, (7, .ofNat 1, .ofNat 0), (14, .ofNat 1, .ofNat 0), (0, .ofNat 0, .ofNat 0)), (0, 125, (7, .ofNat 1, .ofNat 0), (12, .ofNat 1, .ofNat 0), (0, .ofNat 0, .ofNat 0)), (2, 5, (2, .ofNat 1, .ofNat 0), (12, .ofNat 1, .ofNat 0), (0, .ofNat 0, .ofNat 0)), (0, 125, (7, .ofNat 1, .ofNat 0), (12, .ofNat 1, .ofNat 0), (0, .ofNat 0, .ofNat 0)), (2, 0, (6, .ofNat 1, .ofNat 0), (0, .ofNat 0, .ofNat 0), (0, .ofNat 0, .ofNat 0)), (0, 123, (7, .ofNat 1, .ofNat 0), (10, .ofNat 1, .ofNat 0), (0, .ofNat 0, .ofNat 0)), (2, 4, (10, .ofNat 1, .ofNat 0), (3, .ofNat 1, .ofNat 0), (0, .ofNat 0, .ofNat 0)), (0, 123, (7, .ofNat 1, .ofNat 0), (10, .ofNat 1, .ofNat 0), (0, .ofNat 0, .ofNat 0)), (2, 0, (0, .ofNat 0, .ofNat 0), (0, .ofNat 0, .ofNat 0), (0, .ofNat 0, .ofNat 0)), (2, 0, (9, .ofNat 1, .ofNat 0), (0, .ofNat 0, .negSucc 3), (0, .ofNat 0, .ofNat 0)), (0, 130, (5, .ofNat 1, .ofNat 0), (9, .ofNat 1, .ofNat 0), (0, .ofNat 0, .ofNat 0)), (2, 2, (7, .ofNat 1, .ofNat 0), (8, .ofNat 1, .ofNat 0), (0, .ofNat 0, .ofNat 0)), (0, 122, (0, .ofNat 0, .ofNat 0), (8, .ofNat 1, .ofNat 0), (0, .ofNat 0, .ofNat 0))], [(1, [(.ofNat 0, .ofNat 1)]), (2, [(.ofNat 0, .ofNat 9)]), (3, [(.ofNat 0, .ofNat 999999)]), (4, [(.ofNat 0, .ofNat 16)]), (5, [(.ofNat 0, .ofNat 15)]), (6, [(.ofNat 0, .ofNat 0)]), (7, [(.ofNat 0, .ofNat 7)]), (8, [(.ofNat 1, .ofNat 8)]), (9, [(.negSucc 3, .negSucc 3)]), (10, [(.ofNat 1, .ofNat 1000000)]), (11, [(.negSucc 999997, .ofNat 1000000)]), (12, [(.ofNat 0, .ofNat 9)]), (13, [(.ofNat 2, .ofNat 2)]), (14, [(.ofNat 0, .ofNat 1)]), (15, [(.ofNat 0, .ofNat 0)])], [((2, .ofNat 1, .ofNat 0), (12, .ofNat 1, .ofNat 0), (15, .ofNat 1, .ofNat 0)), ((12, .ofNat 1, .ofNat 0), (2, .negSucc 0, .ofNat 0), (13, .ofNat 1, .ofNat 0)), ((10, .ofNat 1, .ofNat 0), (3, .negSucc 0, .ofNat 0), (11, .ofNat 1, .ofNat 0))], []),
  (22, [(0, .inr (.inl [122])), (1, .inl (false, (1, .ofNat 1, .ofNat 0))), (2, .inl (false, (2, .ofNat 1, .ofNat 0))), (3, .inl (false, (3, .ofNat 1, .ofNat 0))), (4, .inl (false, (4, .ofNat 1, .ofNat 0))), (5, .inl (false, (5, .ofNat 1, .ofNat 0))), (6, .inl (false, (0, .ofNat 0, .ofNat 0))), (7, .inl (false, (7, .ofNat 1, .ofNat 1))), (8, .inl (false, (11, .ofNat 1, .ofNat 0)))], [], [(2, 0, (0, .ofNat 0, .ofNat 0), (0, .ofNat 0, .ofNat 0), (0, .ofNat 0, .ofNat 0)), (2, 4, (18, .ofNat 1, .ofNat 0), (17, .ofNat 1, .ofNat 0), (0, .ofNat 0, .ofNat 0)), (0, 128, (5, .ofNat 1, .ofNat 0), (17, .ofNat 1, .ofNat 0), (0, .ofNat 0, .ofNat 0)), (0, 127, (5, .ofNat 1, .ofNat 0), (16, .ofNat 1, .ofNat 0), (0, .ofNat 0, .ofNat 0)), (2, 1, (0, .ofNat 0, .ofNat 1), (0, .ofNat 0, .ofNat 0), (0, .ofNat 0, .ofNat 0)), (2, 4, (15, .ofNat 1, .ofNat 0), (0, .ofNat 0, .ofNat 0), (0, .ofNat 0, .ofNat 0)), (0, 125, (7, .ofNat 1, .ofNat 0), (12, .ofNat 1, .ofNat 0), (0, .ofNat 0, .ofNat 0)), (2, 0, (13, .ofNat 1, .ofNat 0), (0, .ofNat 0, .ofNat 2), (0, .ofNat 0, .ofNat 0)), (2, 1, (13, .ofNat 1, .ofNat 0), (0, .ofNat 0, .ofNat 0), (0, .ofNat 0, .ofNat 0)), (2, 1, (1, .ofNat 1, .ofNat 0), (14, .ofNat 1, .ofNat 0), (0, .ofNat 0, .ofNat 0)), (0, 124, (7, .ofNat 1, .ofNat 0), (14, .ofNat 1, .ofNat 0), (0, .ofNat 0, .ofNat 0)), (0, 125, (7, .ofNat 1, .ofNat 0), (12, .ofNat 1, .ofNat 0), (0, .ofNat 0, .ofNat 0)), (2, 5, (2, .ofNat 1, .ofNat 0), (12, .ofNat 1, .ofNat 0), (0, .ofNat 0, .ofNat 0)), (0, 125, (7, .ofNat 1, .ofNat 0), (12, .ofNat 1, .ofNat 0), (0, .ofNat 0, .ofNat 0)), (2, 0, (6, .ofNat 1, .ofNat 0), (0, .ofNat 0, .ofNat 0), (0, .ofNat 0, .ofNat 0)), (0, 123, (7, .ofNat 1, .ofNat 0), (10, .ofNat 1, .ofNat 0), (0, .ofNat 0, .ofNat 0)), (2, 4, (10, .ofNat 1, .ofNat 0), (3, .ofNat 1, .ofNat 0), (0, .ofNat 0, .ofNat 0)), (0, 123, (7, .ofNat 1, .ofNat 0), (10, .ofNat 1, .ofNat 0), (0, .ofNat 0, .ofNat 0)), (2, 0, (0, .ofNat 0, .ofNat 0), (0, .ofNat 0, .ofNat 0), (0, .ofNat 0, .ofNat 0)), (2, 0, (9, .ofNat 1, .ofNat 0), (0, .ofNat 0, .negSucc 3), (0, .ofNat 0, .ofNat 0)), (0, 130, (5, .ofNat 1, .ofNat 0), (9, .ofNat 1, .ofNat 0), (0, .ofNat 0, .ofNat 0)), (2, 2, (7, .ofNat 1, .ofNat 0), (8, .ofNat 1, .ofNat 0), (0, .ofNat 0, .ofNat 0)), (0, 122, (0, .ofNat 0, .ofNat 0), (8, .ofNat 1, .ofNat 0), (0, .ofNat 0, .ofNat 0))], [(1, [(.ofNat 0, .ofNat 1)]), (2, [(.ofNat 0, .ofNat 9)]), (3, [(.ofNat 0, .ofNat 999999)]), (4, [(.ofNat 0, .ofNat 16)]), (5, [(.ofNat 0, .ofNat 15)]), (6, [(.ofNat 0, .ofNat 0)]), (7, [(.ofNat 0, .ofNat 7)]), (8, [(.ofNat 1, .ofNat 8)]), (9, [(.negSucc 3, .negSucc 3)]), (10, [(.ofNat 1, .ofNat 1000000)]), (11, [(.negSucc 999997, .ofNat 1000000)]), (12, [(.ofNat 0, .ofNat 9)]), (13, [(.ofNat 2, .ofNat 2)]), (14, [(.ofNat 0, .ofNat 1)]), (15, [(.ofNat 1, .ofNat 18)]), (16, [(.ofNat 0, .ofNat 1000000)]), (17, [(.ofNat 0, .ofNat 1000)]), (18, [(.ofNat 1, .ofNat 1000000)])], [((11, .ofNat 1, .ofNat 0), (16, .negSucc 0, .ofNat 0), (18, .ofNat 1, .ofNat 0)), ((2, .ofNat 1, .ofNat 0), (12, .ofNat 1, .ofNat 0), (15, .ofNat 1, .ofNat 0)), ((12, .ofNat 1, .ofNat 0), (2, .negSucc 0, .ofNat 0), (13, .ofNat 1, .ofNat 0)), ((10, .ofNat 1, .ofNat 0), (3, .negSucc 0, .ofNat 0), (11, .ofNat 1, .ofNat 0))], []),
  (22, [(0, .inr (.inl [122])), (1, .inl (false, (1, .ofNat 1, .ofNat 0))), (2, .inl (false, (2, .ofNat 1, .ofNat 0))), (3, .inl (false, (3, .ofNat 1, .ofNat 0))), (4, .inl (false, (4, .ofNat 1, .ofNat 0))), (5, .inl (false, (5, .ofNat 1, .ofNat 0))), (6, .inl (false, (0, .ofNat 0, .ofNat 0))), (7, .inl (false, (7, .ofNat 1, .ofNat 1))), (8, .inl (false, (11, .ofNat 1, .ofNat 0)))], [], [(2, 0, (0, .ofNat 0, .ofNat 0), (0, .ofNat 0, .ofNat 0), (0, .ofNat 0, .ofNat 0)), (2, 4, (19, .ofNat 1, .ofNat 0), (17, .ofNat 1, .ofNat 0), (0, .ofNat 0, .ofNat 0)), (2, 5, (18, .ofNat 1, .ofNat 0), (17, .ofNat 1, .ofNat 0), (0, .ofNat 0, .ofNat 0)), (0, 128, (5, .ofNat 1, .ofNat 0), (17, .ofNat 1, .ofNat 0), (0, .ofNat 0, .ofNat 0)), (0, 127, (5, .ofNat 1, .ofNat 0), (16, .ofNat 1, .ofNat 0), (0, .ofNat 0, .ofNat 0)), (2, 1, (0, .ofNat 0, .ofNat 1), (0, .ofNat 0, .ofNat 0), (0, .ofNat 0, .ofNat 0)), (2, 4, (15, .ofNat 1, .ofNat 0), (0, .ofNat 0, .ofNat 0), (0, .ofNat 0, .ofNat 0)), (0, 125, (7, .ofNat 1, .ofNat 0), (12, .ofNat 1, .ofNat 0), (0, .ofNat 0, .ofNat 0)), (2, 0, (13, .ofNat 1, .ofNat 0), (0, .ofNat 0, .ofNat 2), (0, .ofNat 0, .ofNat 0)), (2, 1, (13, .ofNat 1, .ofNat 0), (0, .ofNat 0, .ofNat 0), (0, .ofNat 0, .ofNat 0)), (2, 1, (1, .ofNat 1, .ofNat 0), (14, .ofNat 1, .ofNat 0), (0, .ofNat 0, .ofNat 0)), (0, 124, (7, .ofNat 1, .ofNat 0), (14, .ofNat 1, .ofNat 0), (0, .ofNat 0, .ofNat 0)), (0, 125, (7, .ofNat 1, .ofNat 0), (12, .ofNat 1, .ofNat 0), (0, .ofNat 0, .ofNat 0)), (2, 5, (2, .ofNat 1, .ofNat 0), (12, .ofNat 1, .ofNat 0), (0, .ofNat 0, .ofNat 0)), (0, 125, (7, .ofNat 1, .ofNat 0), (12, .ofNat 1, .ofNat 0), (0, .ofNat 0, .ofNat 0)), (2, 0, (6, .ofNat 1, .ofNat 0), (0, .ofNat 0, .ofNat 0), (0, .ofNat 0, .ofNat 0)), (0, 123, (7, .ofNat 1, .ofNat 0), (10, .ofNat 1, .ofNat 0), (0, .ofNat 0, .ofNat 0)), (2, 4, (10, .ofNat 1, .ofNat 0), (3, .ofNat 1, .ofNat 0), (0, .ofNat 0, .ofNat 0)), (0, 123, (7, .ofNat 1, .ofNat 0), (10, .ofNat 1, .ofNat 0), (0, .ofNat 0, .ofNat 0)), (2, 0, (0, .ofNat 0, .ofNat 0), (0, .ofNat 0, .ofNat 0), (0, .ofNat 0, .ofNat 0)), (2, 0, (9, .ofNat 1, .ofNat 0), (0, .ofNat 0, .negSucc 3), (0, .ofNat 0, .ofNat 0)), (0, 130, (5, .ofNat 1, .ofNat 0), (9, .ofNat 1, .ofNat 0), (0, .ofNat 0, .ofNat 0)), (2, 2, (7, .ofNat 1, .ofNat 0), (8, .ofNat 1, .ofNat 0), (0, .ofNat 0, .ofNat 0)), (0, 122, (0, .ofNat 0, .ofNat 0), (8, .ofNat 1, .ofNat 0), (0, .ofNat 0, .ofNat 0))], [(1, [(.ofNat 0, .ofNat 1)]), (2, [(.ofNat 0, .ofNat 9)]), (3, [(.ofNat 0, .ofNat 999999)]), (4, [(.ofNat 0, .ofNat 16)]), (5, [(.ofNat 0, .ofNat 15)]), (6, [(.ofNat 0, .ofNat 0)]), (7, [(.ofNat 0, .ofNat 7)]), (8, [(.ofNat 1, .ofNat 8)]), (9, [(.negSucc 3, .negSucc 3)]), (10, [(.ofNat 1, .ofNat 1000000)]), (11, [(.negSucc 999997, .ofNat 1000000)]), (12, [(.ofNat 0, .ofNat 9)]), (13, [(.ofNat 2, .ofNat 2)]), (14, [(.ofNat 0, .ofNat 1)]), (15, [(.ofNat 1, .ofNat 18)]), (16, [(.ofNat 0, .ofNat 1000000)]), (17, [(.ofNat 0, .ofNat 1000)]), (18, [(.negSucc 1999997, .ofNat 1000)]), (19, [(.ofNat 1, .ofNat 1999998)])], [((16, .ofNat 1, .ofNat 0), (11, .negSucc 0, .ofNat 0), (19, .ofNat 1, .ofNat 0)), ((11, .ofNat 1, .ofNat 0), (16, .negSucc 0, .ofNat 0), (18, .ofNat 1, .ofNat 0)), ((2, .ofNat 1, .ofNat 0), (12, .ofNat 1, .ofNat 0), (15, .ofNat 1, .ofNat 0)), ((12, .ofNat 1, .ofNat 0), (2, .negSucc 0, .ofNat 0), (13, .ofNat 1, .ofNat 0)), ((10, .ofNat 1, .ofNat 0), (3, .negSucc 0, .ofNat 0), (11, .ofNat 1, .ofNat 0))], []),
  (22, [(0, .inr (.inl [122])), (1, .inl (false, (1, .ofNat 1, .ofNat 0))), (2, .inl (false, (2, .ofNat 1, .ofNat 0))), (3, .inl (false, (3, .ofNat 1, .ofNat 0))), (4, .inl (false, (4, .ofNat 1, .ofNat 0))), (5, .inl (false, (5, .ofNat 1, .ofNat 0))), (6, .inl (false, (0, .ofNat 0, .ofNat 1))), (7, .inl (false, (7, .ofNat 1, .ofNat 1))), (8, .inl (false, (11, .ofNat 1, .ofNat 0)))], [], [(2, 1, (0, .ofNat 0, .ofNat 1), (0, .ofNat 0, .ofNat 0), (0, .ofNat 0, .ofNat 0)), (2, 5, (19, .ofNat 1, .ofNat 0), (17, .ofNat 1, .ofNat 0), (0, .ofNat 0, .ofNat 0)), (2, 5, (18, .ofNat 1, .ofNat 0), (17, .ofNat 1, .ofNat 0), (0, .ofNat 0, .ofNat 0)), (0, 128, (5, .ofNat 1, .ofNat 0), (17, .ofNat 1, .ofNat 0), (0, .ofNat 0, .ofNat 0)), (0, 127, (5, .ofNat 1, .ofNat 0), (16, .ofNat 1, .ofNat 0), (0, .ofNat 0, .ofNat 0)), (2, 1, (0, .ofNat 0, .ofNat 1), (0, .ofNat 0, .ofNat 0), (0, .ofNat 0, .ofNat 0)), (2, 4, (15, .ofNat 1, .ofNat 0), (0, .ofNat 0, .ofNat 0), (0, .ofNat 0, .ofNat 0)), (0, 125, (7, .ofNat 1, .ofNat 0), (12, .ofNat 1, .ofNat 0), (0, .ofNat 0, .ofNat 0)), (2, 0, (13, .ofNat 1, .ofNat 0), (0, .ofNat 0, .ofNat 2), (0, .ofNat 0, .ofNat 0)), (2, 1, (13, .ofNat 1, .ofNat 0), (0, .ofNat 0, .ofNat 0), (0, .ofNat 0, .ofNat 0)), (2, 1, (1, .ofNat 1, .ofNat 0), (14, .ofNat 1, .ofNat 0), (0, .ofNat 0, .ofNat 0)), (0, 124, (7, .ofNat 1, .ofNat 0), (14, .ofNat 1, .ofNat 0), (0, .ofNat 0, .ofNat 0)), (0, 125, (7, .ofNat 1, .ofNat 0), (12, .ofNat 1, .ofNat 0), (0, .ofNat 0, .ofNat 0)), (2, 5, (2, .ofNat 1, .ofNat 0), (12, .ofNat 1, .ofNat 0), (0, .ofNat 0, .ofNat 0)), (0, 125, (7, .ofNat 1, .ofNat 0), (12, .ofNat 1, .ofNat 0), (0, .ofNat 0, .ofNat 0)), (2, 0, (6, .ofNat 1, .ofNat 0), (0, .ofNat 0, .ofNat 0), (0, .ofNat 0, .ofNat 0)), (0, 123, (7, .ofNat 1, .ofNat 0), (10, .ofNat 1, .ofNat 0), (0, .ofNat 0, .ofNat 0)), (2, 4, (10, .ofNat 1, .ofNat 0), (3, .ofNat 1, .ofNat 0), (0, .ofNat 0, .ofNat 0)), (0, 123, (7, .ofNat 1, .ofNat 0), (10, .ofNat 1, .ofNat 0), (0, .ofNat 0, .ofNat 0)), (2, 0, (0, .ofNat 0, .ofNat 0), (0, .ofNat 0, .ofNat 0), (0, .ofNat 0, .ofNat 0)), (2, 0, (9, .ofNat 1, .ofNat 0), (0, .ofNat 0, .negSucc 3), (0, .ofNat 0, .ofNat 0)), (0, 130, (5, .ofNat 1, .ofNat 0), (9, .ofNat 1, .ofNat 0), (0, .ofNat 0, .ofNat 0)), (2, 2, (7, .ofNat 1, .ofNat 0), (8, .ofNat 1, .ofNat 0), (0, .ofNat 0, .ofNat 0)), (0, 122, (0, .ofNat 0, .ofNat 0), (8, .ofNat 1, .ofNat 0), (0, .ofNat 0, .ofNat 0))], [(1, [(.ofNat 0, .ofNat 1)]), (2, [(.ofNat 0, .ofNat 9)]), (3, [(.ofNat 0, .ofNat 999999)]), (4, [(.ofNat 0, .ofNat 16)]), (5, [(.ofNat 0, .ofNat 15)]), (6, [(.ofNat 0, .ofNat 0)]), (7, [(.ofNat 0, .ofNat 7)]), (8, [(.ofNat 1, .ofNat 8)]), (9, [(.negSucc 3, .negSucc 3)]), (10, [(.ofNat 1, .ofNat 1000000)]), (11, [(.negSucc 999997, .ofNat 1000000)]), (12, [(.ofNat 0, .ofNat 9)]), (13, [(.ofNat 2, .ofNat 2)]), (14, [(.ofNat 0, .ofNat 1)]), (15, [(.ofNat 1, .ofNat 18)]), (16, [(.ofNat 0, .ofNat 1000000)]), (17, [(.ofNat 0, .ofNat 1000)]), (18, [(.negSucc 1999997, .ofNat 1000)]), (19, [(.negSucc 999999, .ofNat 1000)])], [((16, .ofNat 1, .ofNat 0), (11, .negSucc 0, .ofNat 0), (19, .ofNat 1, .ofNat 0)), ((11, .ofNat 1, .ofNat 0), (16, .negSucc 0, .ofNat 0), (18, .ofNat 1, .ofNat 0)), ((2, .ofNat 1, .ofNat 0), (12, .ofNat 1, .ofNat 0), (15, .ofNat 1, .ofNat 0)), ((12, .ofNat 1, .ofNat 0), (2, .negSucc 0, .ofNat 0), (13, .ofNat 1, .ofNat 0)), ((10, .ofNat 1, .ofNat 0), (3, .negSucc 0, .ofNat 0), (11, .ofNat 1, .ofNat 0))], []),
  (22, [(0, .inr (.inl [122])), (1, .inl (false, (1, .ofNat 1, .ofNat 0))), (2, .inl (false, (2, .ofNat 1, .ofNat 0))), (3, .inl (false, (3, .ofNat 1, .ofNat 0))), (4, .inl (false, (4, .ofNat 1, .ofNat 0))), (5, .inl (false, (5, .ofNat 1, .ofNat 0))), (6, .inl (false, (0, .ofNat 0, .ofNat 0))), (7, .inl (false, (7, .ofNat 1, .ofNat 1))), (8, .inl (false, (11, .ofNat 1, .ofNat 0)))], [], [(2, 0, (0, .ofNat 0, .ofNat 0), (0, .ofNat 0, .ofNat 0), (0, .ofNat 0, .ofNat 0)), (2, 0, (1, .ofNat 1, .ofNat 0), (14, .ofNat 1, .ofNat 0), (0, .ofNat 0, .ofNat 0)), (0, 124, (7, .ofNat 1, .ofNat 0), (14, .ofNat 1, .ofNat 0), (0, .ofNat 0, .ofNat 0)), (0, 125, (7, .ofNat 1, .ofNat 0), (12, .ofNat 1, .ofNat 0), (0, .ofNat 0, .ofNat 0)), (2, 4, (2, .ofNat 1, .ofNat 0), (12, .ofNat 1, .ofNat 0), (0, .ofNat 0, .ofNat 0)), (0, 125, (7, .ofNat 1, .ofNat 0), (12, .ofNat 1, .ofNat 0), (0, .ofNat 0, .ofNat 0)), (2, 0, (6, .ofNat 1, .ofNat 0), (0, .ofNat 0, .ofNat 0), (0, .ofNat 0, .ofNat 0)), (0, 123, (7, .ofNat 1, .ofNat 0), (10, .ofNat 1, .ofNat 0), (0, .ofNat 0, .ofNat 0)), (2, 4, (10, .ofNat 1, .ofNat 0), (3, .ofNat 1, .ofNat 0), (0, .ofNat 0, .ofNat 0)), (0, 123, (7, .ofNat 1, .ofNat 0), (10, .ofNat 1, .ofNat 0), (0, .ofNat 0, .ofNat 0)), (2, 0, (0, .ofNat 0, .ofNat 0), (0, .ofNat 0, .ofNat 0), (0, .ofNat 0, .ofNat 0)), (2, 0, (9, .ofNat 1, .ofNat 0), (0, .ofNat 0, .negSucc 3), (0, .ofNat 0, .ofNat 0)), (0, 130, (5, .ofNat 1, .ofNat 0), (9, .ofNat 1, .ofNat 0), (0, .ofNat 0, .ofNat 0)), (2, 2, (7, .ofNat 1, .ofNat 0), (8, .ofNat 1, .ofNat 0), (0, .ofNat 0, .ofNat 0)), (0, 122, (0, .ofNat 0, .ofNat 0), (8, .ofNat 1, .ofNat 0), (0, .ofNat 0, .ofNat 0))], [(1, [(.ofNat 0, .ofNat 1)]), (2, [(.ofNat 1, .ofNat 9)]), (3, [(.ofNat 0, .ofNat 999999)]), (4, [(.ofNat 0, .ofNat 16)]), (5, [(.ofNat 0, .ofNat 15)]), (6, [(.ofNat 0, .ofNat 0)]), (7, [(.ofNat 0, .ofNat 7)]), (8, [(.ofNat 1, .ofNat 8)]), (9, [(.negSucc 3, .negSucc 3)]), (10, [(.ofNat 1, .ofNat 1000000)]), (11, [(.negSucc 999997, .ofNat 1000000)]), (12, [(.ofNat 0, .ofNat 8)]), (14, [(.ofNat 0, .ofNat 1)])], [((10, .ofNat 1, .ofNat 0), (3, .negSucc 0, .ofNat 0), (11, .ofNat 1, .ofNat 0))], []),
  (22, [(0, .inr (.inl [122])), (1, .inl (false, (1, .ofNat 1, .ofNat 0))), (2, .inl (false, (2, .ofNat 1, .ofNat 0))), (3, .inl (false, (3, .ofNat 1, .ofNat 0))), (4, .inl (false, (4, .ofNat 1, .ofNat 0))), (5, .inl (false, (5, .ofNat 1, .ofNat 0))), (6, .inl (false, (0, .ofNat 0, .ofNat 0))), (7, .inl (false, (7, .ofNat 1, .ofNat 1))), (8, .inl (false, (11, .ofNat 1, .ofNat 0)))], [], [(2, 0, (0, .ofNat 0, .ofNat 0), (0, .ofNat 0, .ofNat 0), (0, .ofNat 0, .ofNat 0)), (2, 4, (18, .ofNat 1, .ofNat 0), (17, .ofNat 1, .ofNat 0), (0, .ofNat 0, .ofNat 0)), (0, 128, (5, .ofNat 1, .ofNat 0), (17, .ofNat 1, .ofNat 0), (0, .ofNat 0, .ofNat 0)), (0, 127, (5, .ofNat 1, .ofNat 0), (16, .ofNat 1, .ofNat 0), (0, .ofNat 0, .ofNat 0)), (2, 1, (0, .ofNat 0, .ofNat 1), (0, .ofNat 0, .ofNat 0), (0, .ofNat 0, .ofNat 0)), (2, 4, (15, .ofNat 1, .ofNat 0), (0, .ofNat 0, .ofNat 0), (0, .ofNat 0, .ofNat 0)), (0, 125, (7, .ofNat 1, .ofNat 0), (12, .ofNat 1, .ofNat 0), (0, .ofNat 0, .ofNat 0)), (2, 0, (13, .ofNat 1, .ofNat 0), (0, .ofNat 0, .ofNat 0), (0, .ofNat 0, .ofNat 0)), (2, 1, (1, .ofNat 1, .ofNat 0), (14, .ofNat 1, .ofNat 0), (0, .ofNat 0, .ofNat 0)), (0, 124, (7, .ofNat 1, .ofNat 0), (14, .ofNat 1, .ofNat 0), (0, .ofNat 0, .ofNat 0)), (0, 125, (7, .ofNat 1, .ofNat 0), (12, .ofNat 1, .ofNat 0), (0, .ofNat 0, .ofNat 0)), (2, 4, (2, .ofNat 1, .ofNat 0), (12, .ofNat 1, .ofNat 0), (0, .ofNat 0, .ofNat 0)), (0, 125, (7, .ofNat 1, .ofNat 0), (12, .ofNat 1, .ofNat 0), (0, .ofNat 0, .ofNat 0)), (2, 0, (6, .ofNat 1, .ofNat 0), (0, .ofNat 0, .ofNat 0), (0, .ofNat 0, .ofNat 0)), (0, 123, (7, .ofNat 1, .ofNat 0), (10, .ofNat 1, .ofNat 0), (0, .ofNat 0, .ofNat 0)), (2, 4, (10, .ofNat 1, .ofNat 0), (3, .ofNat 1, .ofNat 0), (0, .ofNat 0, .ofNat 0)), (0, 123, (7, .ofNat 1, .ofNat 0), (10, .ofNat 1, .ofNat 0), (0, .ofNat 0, .ofNat 0)), (2, 0, (0, .ofNat 0, .ofNat 0), (0, .ofNat 0, .ofNat 0), (0, .ofNat 0, .ofNat 0)), (2, 0, (9, .ofNat 1, .ofNat 0), (0, .ofNat 0, .negSucc 3), (0, .ofNat 0, .ofNat 0)), (0, 130, (5, .ofNat 1, .ofNat 0), (9, .ofNat 1, .ofNat 0), (0, .ofNat 0, .ofNat 0)), (2, 2, (7, .ofNat 1, .ofNat 0), (8, .ofNat 1, .ofNat 0), (0, .ofNat 0, .ofNat 0)), (0, 122, (0, .ofNat 0, .ofNat 0), (8, .ofNat 1, .ofNat 0), (0, .ofNat 0, .ofNat 0))], [(1, [(.ofNat 0, .ofNat 1)]), (2, [(.ofNat 1, .ofNat 9)]), (3, [(.ofNat 0, .ofNat 999999)]), (4, [(.ofNat 0, .ofNat 16)]), (5, [(.ofNat 0, .ofNat 15)]), (6, [(.ofNat 0, .ofNat 0)]), (7, [(.ofNat 0, .ofNat 7)]), (8, [(.ofNat 1, .ofNat 8)]), (9, [(.negSucc 3, .negSucc 3)]), (10, [(.ofNat 1, .ofNat 1000000)]), (11, [(.negSucc 999997, .ofNat 1000000)]), (12, [(.ofNat 0, .ofNat 8)]), (13, [(.ofNat 0, .ofNat 0)]), (14, [(.ofNat 0, .ofNat 1)]), (15, [(.ofNat 1, .ofNat 17)]), (16, [(.ofNat 0, .ofNat 1000000)]), (17, [(.ofNat 0, .ofNat 1000)]), (18, [(.ofNat 1, .ofNat 1000000)])], [((11, .ofNat 1, .ofNat 0), (16, .negSucc 0, .ofNat 0), (18, .ofNat 1, .ofNat 0)), ((2, .ofNat 1, .ofNat 0), (12, .ofNat 1, .ofNat 0), (15, .ofNat 1, .ofNat 0)), ((2, .ofNat 1, .ofNat 0), (12, .negSucc 0, .ofNat 0), (13, .ofNat 1, .ofNat 0)), ((10, .ofNat 1, .ofNat 0), (3, .negSucc 0, .ofNat 0), (11, .ofNat 1, .ofNat 0))], []),
  (22, [(0, .inr (.inl [122])), (1, .inl (false, (1, .ofNat 1, .ofNat 0))), (2, .inl (false, (2, .ofNat 1, .ofNat 0))), (3, .inl (false, (3, .ofNat 1, .ofNat 0))), (4, .inl (false, (4, .ofNat 1, .ofNat 0))), (5, .inl (false, (5, .ofNat 1, .ofNat 0))), (6, .inl (false, (0, .ofNat 0, .ofNat 0))), (7, .inl (false, (7, .ofNat 1, .ofNat 1))), (8, .inl (false, (11, .ofNat 1, .ofNat 0)))], [], [(2, 0, (0, .ofNat 0, .ofNat 0), (0, .ofNat 0, .ofNat 0), (0, .ofNat 0, .ofNat 0)), (2, 4, (19, .ofNat 1, .ofNat 0), (17, .ofNat 1, .ofNat 0), (0, .ofNat 0, .ofNat 0)), (2, 5, (18, .ofNat 1, .ofNat 0), (17, .ofNat 1, .ofNat 0), (0, .ofNat 0, .ofNat 0)), (0, 128, (5, .ofNat 1, .ofNat 0), (17, .ofNat 1, .ofNat 0), (0, .ofNat 0, .ofNat 0)), (0, 127, (5, .ofNat 1, .ofNat 0), (16, .ofNat 1, .ofNat 0), (0, .ofNat 0, .ofNat 0)), (2, 1, (0, .ofNat 0, .ofNat 1), (0, .ofNat 0, .ofNat 0), (0, .ofNat 0, .ofNat 0)), (2, 4, (15, .ofNat 1, .ofNat 0), (0, .ofNat 0, .ofNat 0), (0, .ofNat 0, .ofNat 0)), (0, 125, (7, .ofNat 1, .ofNat 0), (12, .ofNat 1, .ofNat 0), (0, .ofNat 0, .ofNat 0)), (2, 0, (13, .ofNat 1, .ofNat 0), (0, .ofNat 0, .ofNat 0), (0, .ofNat 0, .ofNat 0)), (2, 1, (1, .ofNat 1, .ofNat 0), (14, .ofNat 1, .ofNat 0), (0, .ofNat 0, .ofNat 0)), (0, 124, (7, .ofNat 1, .ofNat 0), (14, .ofNat 1, .ofNat 0), (0, .ofNat 0, .ofNat 0)), (0, 125, (7, .ofNat 1, .ofNat 0), (12, .ofNat 1, .ofNat 0), (0, .ofNat 0, .ofNat 0)), (2, 4, (2, .ofNat 1, .ofNat 0), (12, .ofNat 1, .ofNat 0), (0, .ofNat 0, .ofNat 0)), (0, 125, (7, .ofNat 1, .ofNat 0), (12, .ofNat 1, .ofNat 0), (0, .ofNat 0, .ofNat 0)), (2, 0, (6, .ofNat 1, .ofNat 0), (0, .ofNat 0, .ofNat 0), (0, .ofNat 0, .ofNat 0)), (0, 123, (7, .ofNat 1, .ofNat 0), (10, .ofNat 1, .ofNat 0), (0, .ofNat 0, .ofNat 0)), (2, 4, (10, .ofNat 1, .ofNat 0), (3, .ofNat 1, .ofNat 0), (0, .ofNat 0, .ofNat 0)), (0, 123, (7, .ofNat 1, .ofNat 0), (10, .ofNat 1, .ofNat 0), (0, .ofNat 0, .ofNat 0)), (2, 0, (0, .ofNat 0, .ofNat 0), (0, .ofNat 0, .ofNat 0), (0, .ofNat 0, .ofNat 0)), (2, 0, (9, .ofNat 1, .ofNat 0), (0, .ofNat 0, .negSucc 3), (0, .ofNat 0, .ofNat 0)), (0, 130, (5, .ofNat 1, .ofNat 0), (9, .ofNat 1, .ofNat 0), (0, .ofNat 0, .ofNat 0)), (2, 2, (7, .ofNat 1, .ofNat 0), (8, .ofNat 1, .ofNat 0), (0, .ofNat 0, .ofNat 0)), (0, 122, (0, .ofNat 0, .ofNat 0), (8, .ofNat 1, .ofNat 0), (0, .ofNat 0, .ofNat 0))], [(1, [(.ofNat 0, .ofNat 1)]), (2, [(.ofNat 1, .ofNat 9)]), (3, [(.ofNat 0, .ofNat 999999)]), (4, [(.ofNat 0, .ofNat 16)]), (5, [(.ofNat 0, .ofNat 15)]), (6, [(.ofNat 0, .ofNat 0)]), (7, [(.ofNat 0, .ofNat 7)]), (8, [(.ofNat 1, .ofNat 8)]), (9, [(.negSucc 3, .negSucc 3)]), (10, [(.ofNat 1, .ofNat 1000000)]), (11, [(.negSucc 999997, .ofNat 1000000)]), (12, [(.ofNat 0, .ofNat 8)]), (13, [(.ofNat 0, .ofNat 0)]), (14, [(.ofNat 0, .ofNat 1)]), (15, [(.ofNat 1, .ofNat 17)]), (16, [(.ofNat 0, .ofNat 1000000)]), (17, [(.ofNat 0, .ofNat 1000)]), (18, [(.negSucc 1999997, .ofNat 1000)]), (19, [(.ofNat 1, .ofNat 1999998)])], [((16, .ofNat 1, .ofNat 0), (11, .negSucc 0, .ofNat 0), (19, .ofNat 1, .ofNat 0)), ((11, .ofNat 1, .ofNat 0), (16, .negSucc 0, .ofNat 0), (18, .ofNat 1, .ofNat 0)), ((2, .ofNat 1, .ofNat 0), (12, .ofNat 1, .ofNat 0), (15, .ofNat 1, .ofNat 0)), ((2, .ofNat 1, .ofNat 0), (12, .negSucc 0, .ofNat 0), (13, .ofNat 1, .ofNat 0)), ((10, .ofNat 1, .ofNat 0), (3, .negSucc 0, .ofNat 0), (11, .ofNat 1, .ofNat 0))], []),
  (22, [(0, .inr (.inl [122])), (1, .inl (false, (1, .ofNat 1, .ofNat 0))), (2, .inl (false, (2, .ofNat 1, .ofNat 0))), (3, .inl (false, (3, .ofNat 1, .ofNat 0))), (4, .inl (false, (4, .ofNat 1, .ofNat 0))), (5, .inl (false, (5, .ofNat 1, .ofNat 0))), (6, .inl (false, (0, .ofNat 0, .ofNat 1))), (7, .inl (false, (7, .ofNat 1, .ofNat 1))), (8, .inl (false, (11, .ofNat 1, .ofNat 0)))], [], [(2, 1, (0, .ofNat 0, .ofNat 1), (0, .ofNat 0, .ofNat 0), (0, .ofNat 0, .ofNat 0)), (2, 5, (19, .ofNat 1, .ofNat 0), (17, .ofNat 1, .ofNat 0), (0, .ofNat 0, .ofNat 0)), (2, 5, (18, .ofNat 1, .ofNat 0), (17, .ofNat 1, .ofNat 0), (0, .ofNat 0, .ofNat 0)), (0, 128, (5, .ofNat 1, .ofNat 0), (17, .ofNat 1, .ofNat 0), (0, .ofNat 0, .ofNat 0)), (0, 127, (5, .ofNat 1, .ofNat 0), (16, .ofNat 1, .ofNat 0), (0, .ofNat 0, .ofNat 0)), (2, 1, (0, .ofNat 0, .ofNat 1), (0, .ofNat 0, .ofNat 0), (0, .ofNat 0, .ofNat 0)), (2, 4, (15, .ofNat 1, .ofNat 0), (0, .ofNat 0, .ofNat 0), (0, .ofNat 0, .ofNat 0)), (0, 125, (7, .ofNat 1, .ofNat 0), (12, .ofNat 1, .ofNat 0), (0, .ofNat 0, .ofNat 0)), (2, 0, (13, .ofNat 1, .ofNat 0), (0, .ofNat 0, .ofNat 0), (0, .ofNat 0, .ofNat 0)), (2, 1, (1, .ofNat 1, .ofNat 0), (14, .ofNat 1, .ofNat 0), (0, .ofNat 0, .ofNat 0)), (0, 124, (7, .ofNat 1, .ofNat 0), (14, .ofNat 1, .ofNat 0), (0, .ofNat 0, .ofNat 0)), (0, 125, (7, .ofNat 1, .ofNat 0), (12, .ofNat 1, .ofNat 0), (0, .ofNat 0, .ofNat 0)), (2, 4, (2, .ofNat 1, .ofNat 0), (12, .ofNat 1, .ofNat 0), (0, .ofNat 0, .ofNat 0)), (0, 125, (7, .ofNat 1, .ofNat 0), (12, .ofNat 1, .ofNat 0), (0, .ofNat 0, .ofNat 0)), (2, 0, (6, .ofNat 1, .ofNat 0), (0, .ofNat 0, .ofNat 0), (0, .ofNat 0, .ofNat 0)), (0, 123, (7, .ofNat 1, .ofNat 0), (10, .ofNat 1, .ofNat 0), (0, .ofNat 0, .ofNat 0)), (2, 4, (10, .ofNat 1, .ofNat 0), (3, .ofNat 1, .ofNat 0), (0, .ofNat 0, .ofNat 0)), (0, 123, (7, .ofNat 1, .ofNat 0), (10, .ofNat 1, .ofNat 0), (0, .ofNat 0, .ofNat 0)), (2, 0, (0, .ofNat 0, .ofNat 0), (0, .ofNat 0, .ofNat 0), (0, .ofNat 0, .ofNat 0)), (2, 0, (9, .ofNat 1, .ofNat 0), (0, .ofNat 0, .negSucc 3), (0, .ofNat 0, .ofNat 0)), (0, 130, (5, .ofNat 1, .ofNat 0), (9, .ofNat 1, .ofNat 0), (0, .ofNat 0, .ofNat 0)), (2, 2, (7, .ofNat 1, .ofNat 0), (8, .ofNat 1, .ofNat 0), (0, .ofNat 0, .ofNat 0)), (0, 122, (0, .ofNat 0, .ofNat 0), (8, .ofNat 1, .ofNat 0), (0, .ofNat 0, .ofNat 0))], [(1, [(.ofNat 0, .ofNat 1)]), (2, [(.ofNat 1, .ofNat 9)]), (3, [(.ofNat 0, .ofNat 999999)]), (4, [(.ofNat 0, .ofNat 16)]), (5, [(.ofNat 0, .ofNat 15)]), (6, [(.ofNat 0, .ofNat 0)]), (7, [(.ofNat 0, .ofNat 7)]), (8, [(.ofNat 1, .ofNat 8)]), (9, [(.negSucc 3, .negSucc 3)]), (10, [(.ofNat 1, .ofNat 1000000)]), (11, [(.negSucc 999997, .ofNat 1000000)]), (12, [(.ofNat 0, .ofNat 8)]), (13, [(.ofNat 0, .ofNat 0)]), (14, [(.ofNat 0, .ofNat 1)]), (15, [(.ofNat 1, .ofNat 17)]), (16, [(.ofNat 0, .ofNat 1000000)]), (17, [(.ofNat 0, .ofNat 1000)]), (18, [(.negSucc 1999997, .ofNat 1000)]), (19, [(.negSucc 999999, .ofNat 1000)])], [((16, .ofNat 1, .ofNat 0), (11, .negSucc 0, .ofNat 0), (19, .ofNat 1, .ofNat 0)), ((11, .ofNat 1, .ofNat 0), (16, .negSucc 0, .ofNat 0), (18, .ofNat 1, .ofNat 0)), ((2, .ofNat 1, .ofNat 0), (12, .ofNat 1, .ofNat 0), (15, .ofNat 1, .ofNat 0)), ((2, .ofNat 1, .ofNat 0), (12, .negSucc 0, .ofNat 0), (13, .ofNat 1, .ofNat 0)), ((10, .ofNat 1, .ofNat 0), (3, .negSucc 0, .ofNat 0), (11, .ofNat 1, .ofNat 0))], []),
  (22, [(0, .inr (.inl [122])), (1, .inl (false, (1, .ofNat 1, .ofNat 0))), (2, .inl (false, (2, .ofNat 1, .ofNat 0))), (3, .inl (false, (3, .ofNat 1, .ofNat 0))), (4, .inl (false, (4, .ofNat 1, .ofNat 0))), (5, .inl (false, (5, .ofNat 1, .ofNat 0))), (6, .inl (false, (0, .ofNat 0, .ofNat 0))), (7, .inl (false, (7, .ofNat 1, .ofNat 1))), (8, .inl (false, (11, .ofNat 1, .ofNat 0)))], [], [(2, 0, (0, .ofNat 0, .ofNat 0), (0, .ofNat 0, .ofNat 0), (0, .ofNat 0, .ofNat 0)), (2, 1, (13, .ofNat 1, .ofNat 0), (0, .ofNat 0, .ofNat 2), (0, .ofNat 0, .ofNat 0)), (2, 1, (13, .ofNat 1, .ofNat 0), (0, .ofNat 0, .ofNat 0), (0, .ofNat 0, .ofNat 0)), (2, 1, (1, .ofNat 1, .ofNat 0), (14, .ofNat 1, .ofNat 0), (0, .ofNat 0, .ofNat 0)), (0, 124, (7, .ofNat 1, .ofNat 0), (14, .ofNat 1, .ofNat 0), (0, .ofNat 0, .ofNat 0)), (0, 125, (7, .ofNat 1, .ofNat 0), (12, .ofNat 1, .ofNat 0), (0, .ofNat 0, .ofNat 0)), (2, 4, (2, .ofNat 1, .ofNat 0), (12, .ofNat 1, .ofNat 0), (0, .ofNat 0, .ofNat 0)), (0, 125, (7, .ofNat 1, .ofNat 0), (12, .ofNat 1, .ofNat 0), (0, .ofNat 0, .ofNat 0)), (2, 0, (6, .ofNat 1, .ofNat 0), (0, .ofNat 0, .ofNat 0), (0, .ofNat 0, .ofNat 0)), (0, 123, (7, .ofNat 1, .ofNat 0), (10, .ofNat 1, .ofNat 0), (0, .ofNat 0, .ofNat 0)), (2, 4, (10, .ofNat 1, .ofNat 0), (3, .ofNat 1, .ofNat 0), (0, .ofNat 0, .ofNat 0)), (0, 123, (7, .ofNat 1, .ofNat 0), (10, .ofNat 1, .ofNat 0), (0, .ofNat 0, .ofNat 0)), (2, 0, (0, .ofNat 0, .ofNat 0), (0, .ofNat 0, .ofNat 0), (0, .ofNat 0, .ofNat 0)), (2, 0, (9, .ofNat 1, .ofNat 0), (0, .ofNat 0, .negSucc 3), (0, .ofNat 0, .ofNat 0)), (0, 130, (5, .ofNat 1, .ofNat 0), (9, .ofNat 1, .ofNat 0), (0, .ofNat 0, .ofNat 0)), (2, 2, (7, .ofNat 1, .ofNat 0), (8, .ofNat 1, .ofNat 0), (0, .ofNat 0, .ofNat 0)), (0, 122, (0, .ofNat 0, .ofNat 0), (8, .ofNat 1, .ofNat 0), (0, .ofNat 0, .ofNat 0))], [(1, [(.ofNat 0, .ofNat 1)]), (2, [(.ofNat 1, .ofNat 9)]), (3, [(.ofNat 0, .ofNat 999999)]), (4, [(.ofNat 0, .ofNat 16)]), (5, [(.ofNat 0, .ofNat 15)]), (6, [(.ofNat 0, .ofNat 0)]), (7, [(.ofNat 0, .ofNat 7)]), (8, [(.ofNat 1, .ofNat 8)]), (9, [(.negSucc 3, .negSucc 3)]), (10, [(.ofNat 1, .ofNat 1000000)]), (11, [(.negSucc 999997, .ofNat 1000000)]), (12, [(.ofNat 0, .ofNat 8)]), (13, [(.negSucc 6, .negSucc 0), (.ofNat 1, .ofNat 1), (.ofNat 3, .ofNat 9)]), (14, [(.ofNat 0, .ofNat 1)])], [((2, .ofNat 1, .ofNat 0), (12, .negSucc 0, .ofNat 0), (13, .ofNat 1, .ofNat 0)), ((10, .ofNat 1, .ofNat 0), (3, .negSucc 0, .ofNat 0), (11, .ofNat 1, .ofNat 0))], []),
  (22, [(0, .inr (.inl [122])), (1, .inl (false, (1, .ofNat 1, .ofNat 0))), (2, .inl (false, (2, .ofNat 1, .ofNat 0))), (3, .inl (false, (3, .ofNat 1, .ofNat 0))), (4, .inl (false, (4, .ofNat 1, .ofNat 0))), (5, .inl (false, (5, .ofNat 1, .ofNat 0))), (6, .inl (false, (0, .ofNat 0, .ofNat 0))), (7, .inl (false, (7, .ofNat 1, .ofNat 1))), (8, .inl (false, (11, .ofNat 1, .ofNat 0)))], [], [(2, 0, (0, .ofNat 0, .ofNat 0), (0, .ofNat 0, .ofNat 0), (0, .ofNat 0, .ofNat 0)), (2, 4, (18, .ofNat 1, .ofNat 0), (17, .ofNat 1, .ofNat 0), (0, .ofNat 0, .ofNat 0)), (0, 128, (5, .ofNat 1, .ofNat 0), (17, .ofNat 1, .ofNat 0), (0, .ofNat 0, .ofNat 0)), (0, 127, (5, .ofNat 1, .ofNat 0), (16, .ofNat 1, .ofNat 0), (0, .ofNat 0, .ofNat 0)), (2, 1, (0, .ofNat 0, .ofNat 1), (0, .ofNat 0, .ofNat 0), (0, .ofNat 0, .ofNat 0)), (2, 4, (15, .ofNat 1, .ofNat 0), (0, .ofNat 0, .ofNat 0), (0, .ofNat 0, .ofNat 0)), (0, 125, (7, .ofNat 1, .ofNat 0), (12, .ofNat 1, .ofNat 0), (0, .ofNat 0, .ofNat 0)), (2, 0, (13, .ofNat 1, .ofNat 0), (0, .ofNat 0, .ofNat 2), (0, .ofNat 0, .ofNat 0)), (2, 1, (13, .ofNat 1, .ofNat 0), (0, .ofNat 0, .ofNat 0), (0, .ofNat 0, .ofNat 0)), (2, 1, (1, .ofNat 1, .ofNat 0), (14, .ofNat 1, .ofNat 0), (0, .ofNat 0, .ofNat 0)), (0, 124, (7, .ofNat 1, .ofNat 0), (14, .ofNat 1, .ofNat 0), (0, .ofNat 0, .ofNat 0)), (0, 125, (7, .ofNat 1, .ofNat 0), (12, .ofNat 1, .ofNat 0), (0, .ofNat 0, .ofNat 0)), (2, 4, (2, .ofNat 1, .ofNat 0), (12, .ofNat 1, .ofNat 0), (0, .ofNat 0, .ofNat 0)), (0, 125, (7, .ofNat 1, .ofNat 0), (12, .ofNat 1, .ofNat 0), (0, .ofNat 0, .ofNat 0)), (2, 0, (6, .ofNat 1, .ofNat 0), (0, .ofNat 0, .ofNat 0), (0, .ofNat 0, .ofNat 0)), (0, 123, (7, .ofNat 1, .ofNat 0), (10, .ofNat 1, .ofNat 0), (0, .ofNat 0, .ofNat 0)), (2, 4, (10, .ofNat 1, .ofNat 0), (3, .ofNat 1, .ofNat 0), (0, .ofNat 0, .ofNat 0)), (0, 123, (7, .ofNat 1, .ofNat 0), (10, .ofNat 1, .ofNat 0), (0, .ofNat 0, .ofNat 0)), (2, 0, (0, .ofNat 0, .ofNat 0), (0, .ofNat 0, .ofNat 0), (0, .ofNat 0, .ofNat 0)), (2, 0, (9, .ofNat 1, .ofNat 0), (0, .ofNat 0, .negSucc 3), (0, .ofNat 0, .ofNat 0)), (0, 130, (5, .ofNat 1, .ofNat 0), (9, .ofNat 1, .ofNat 0), (0, .ofNat 0, .ofNat 0)), (2, 2, (7, .ofNat 1, .ofNat 0), (8, .ofNat 1, .ofNat 0), (0, .ofNat 0, .ofNat 0)), (0, 122, (0, .ofNat 0, .ofNat 0), (8, .ofNat 1, .ofNat 0), (0, .ofNat 0, .ofNat 0))], [(1, [(.ofNat 0, .ofNat 1)]), (2, [(.ofNat 1, .ofNat 9)]), (3, [(.ofNat 0, .ofNat 999999)]), (4, [(.ofNat 0, .ofNat 16)]), (5, [(.ofNat 0, .ofNat 15)]), (6, [(.ofNat 0, .ofNat 0)]), (7, [(.ofNat 0, .ofNat 7)]), (8, [(.ofNat 1, .ofNat 8)]), (9, [(.negSucc 3, .negSucc 3)]), (10, [(.ofNat 1, .ofNat 1000000)]), (11, [(.negSucc 999997, .ofNat 1000000)]), (12, [(.ofNat 0, .ofNat 8)]), (13, [(.ofNat 2, .ofNat 2)]), (14, [(.ofNat 0, .ofNat 1)]), (15, [(.ofNat 1, .ofNat 17)]), (16, [(.ofNat 0, .ofNat 1000000)]), (17, [(.ofNat 0, .ofNat 1000)]), (18, [(.ofNat 1, .ofNat 1000000)])], [((11, .ofNat 1, .ofNat 0), (16, .negSucc 0, .ofNat 0), (18, .ofNat 1, .ofNat 0)), ((2, .ofNat 1, .ofNat 0), (12, .ofNat 1, .ofNat 0), (15, .ofNat 1, .ofNat 0)), ((2, .ofNat 1, .ofNat 0), (12, .negSucc 0, .ofNat 0), (13, .ofNat 1, .ofNat 0)), ((10, .ofNat 1, .ofNat 0), (3, .negSucc 0, .ofNat 0), (11, .ofNat 1, .ofNat 0))], []),
  (22, [(0, .inr (.inl [122])), (1, .inl (false, (1, .ofNat 1, .ofNat 0))), (2, .inl (false, (2, .ofNat 1, .ofNat 0))), (3, .inl (false, (3, .ofNat 1, .ofNat 0))), (4, .inl (false, (4, .ofNat 1, .ofNat 0))), (5, .inl (false, (5, .ofNat 1, .ofNat 0))), (6, .inl (false, (0, .ofNat 0, .ofNat 0))), (7, .inl (false, (7, .ofNat 1, .ofNat 1))), (8, .inl (false, (11, .ofNat 1, .ofNat 0)))], [], [(2, 0, (0, .ofNat 0, .ofNat 0), (0, .ofNat 0, .ofNat 0), (0, .ofNat 0, .ofNat 0)), (2, 4, (19, .ofNat 1, .ofNat 0), (17, .ofNat 1, .ofNat 0), (0, .ofNat 0, .ofNat 0)), (2, 5, (18, .ofNat 1, .ofNat 0), (17, .ofNat 1, .ofNat 0), (0, .ofNat 0, .ofNat 0)), (0, 128, (5, .ofNat 1, .ofNat 0), (17, .ofNat 1, .ofNat 0), (0, .ofNat 0, .ofNat 0)), (0, 127, (5, .ofNat 1, .ofNat 0), (16, .ofNat 1, .ofNat 0), (0, .ofNat 0, .ofNat 0)), (2, 1, (0, .ofNat 0, .ofNat 1), (0, .ofNat 0, .ofNat 0), (0, .ofNat 0, .ofNat 0)), (2, 4, (15, .ofNat 1, .ofNat 0), (0, .ofNat 0, .ofNat 0), (0, .ofNat 0, .ofNat 0)), (0, 125, (7, .ofNat 1, .ofNat 0), (12, .ofNat 1, .ofNat 0), (0, .ofNat 0, .ofNat 0)), (2, 0, (13, .ofNat 1, .ofNat 0), (0, .ofNat 0, .ofNat 2), (0, .ofNat 0, .ofNat 0)), (2, 1, (13, .ofNat 1, .ofNat 0), (0, .ofNat 0, .ofNat 0), (0, .ofNat 0, .ofNat 0)), (2, 1, (1, .ofNat 1, .ofNat 0), (14, .ofNat 1, .ofNat 0), (0, .ofNat 0, .ofNat 0)), (0, 124, (7, .ofNat 1, .ofNat 0), (14, .ofNat 1, .ofNat 0), (0, .ofNat 0, .ofNat 0)), (0, 125, (7, .ofNat 1, .ofNat 0), (12, .ofNat 1, .ofNat 0), (0, .ofNat 0, .ofNat 0)), (2, 4, (2, .ofNat 1, .ofNat 0), (12, .ofNat 1, .ofNat 0), (0, .ofNat 0, .ofNat 0)), (0, 125, (7, .ofNat 1, .ofNat 0), (12, .ofNat 1, .ofNat 0), (0, .ofNat 0, .ofNat 0)), (2, 0, (6, .ofNat 1, .ofNat 0), (0, .ofNat 0, .ofNat 0), (0, .ofNat 0, .ofNat 0)), (0, 123, (7, .ofNat 1, .ofNat 0), (10, .ofNat 1, .ofNat 0), (0, .ofNat 0, .ofNat 0)), (2, 4, (10, .ofNat 1, .ofNat 0), (3, .ofNat 1, .ofNat 0), (0, .ofNat 0, .ofNat 0)), (0, 123, (7, .ofNat 1, .ofNat 0), (10, .ofNat 1, .ofNat 0), (0, .ofNat 0, .ofNat 0)), (2, 0, (0, .ofNat 0, .ofNat 0), (0, .ofNat 0, .ofNat 0), (0, .ofNat 0, .ofNat 0)), (2, 0, (9, .ofNat 1, .ofNat 0), (0, .ofNat 0, .negSucc 3), (0, .ofNat 0, .ofNat 0)), (0, 130, (5, .ofNat 1, .ofNat 0), (9, .ofNat 1, .ofNat 0), (0, .ofNat 0, .ofNat 0)), (2, 2, (7, .ofNat 1, .ofNat 0), (8, .ofNat 1, .ofNat 0), (0, .ofNat 0, .ofNat 0)), (0, 122, (0, .ofNat 0, .ofNat 0), (8, .ofNat 1, .ofNat 0), (0, .ofNat 0, .ofNat 0))], [(1, [(.ofNat 0, .ofNat 1)]), (2, [(.ofNat 1, .ofNat 9)]), (3, [(.ofNat 0, .ofNat 999999)]), (4, [(.ofNat 0, .ofNat 16)]), (5, [(.ofNat 0, .ofNat 15)]), (6, [(.ofNat 0, .ofNat 0)]), (7, [(.ofNat 0, .ofNat 7)]), (8, [(.ofNat 1, .ofNat 8)]), (9, [(.negSucc 3, .negSucc 3)]), (10, [(.ofNat 1, .ofNat 1000000)]), (11, [(.negSucc 999997, .ofNat 1000000)]), (12, [(.ofNat 0, .ofNat 8)]), (13, [(.ofNat 2, .ofNat 2)]), (14, [(.ofNat 0, .ofNat 1)]), (15, [(.ofNat 1, .ofNat 17)]), (16, [(.ofNat 0, .ofNat 1000000)]), (17, [(.ofNat 0, .ofNat 1000)]), (18, [(.negSucc 1999997, .ofNat 1000)]), (19, [(.ofNat 1, .ofNat 1999998)])], [((16, .ofNat 1, .ofNat 0), (11, .negSucc 0, .ofNat 0), (19, .ofNat 1, .ofNat 0)), ((11, .ofNat 1, .ofNat 0), (16, .negSucc 0, .ofNat 0), (18, .ofNat 1, .ofNat 0)), ((2, .ofNat 1, .ofNat 0), (12, .ofNat 1, .ofNat 0), (15, .ofNat 1, .ofNat 0)), ((2, .ofNat 1, .ofNat 0), (12, .negSucc 0, .ofNat 0), (13, .ofNat 1, .ofNat 0)), ((10, .ofNat 1, .ofNat 0), (3, .negSucc 0, .ofNat 0), (11, .ofNat 1, .ofNat 0))], []),
  (22, [(0, .inr (.inl [122])), (1, .inl (false, (1, .ofNat 1, .ofNat 0))), (2, .inl (false, (2, .ofNat 1, .ofNat 0))), (3, .inl (false, (3, .ofNat 1, .ofNat 0))), (4, .inl (false, (4, .ofNat 1, .ofNat 0))), (5, .inl (false, (5, .ofNat 1, .ofNat 0))), (6, .inl (false, (0, .ofNat 0, .ofNat 1))), (7, .inl (false, (7, .ofNat 1, .ofNat 1))), (8, .inl (false, (11, .ofNat 1, .ofNat 0)))], [], [(2, 1, (0, .ofNat 0, .ofNat 1), (0, .ofNat 0, .ofNat 0), (0, .ofNat 0, .ofNat 0)), (2, 5, (19, .ofNat 1, .ofNat 0), (17, .ofNat 1, .ofNat 0), (0, .ofNat 0, .ofNat 0)), (2, 5, (18, .ofNat 1, .ofNat 0), (17, .ofNat 1, .ofNat 0), (0, .ofNat 0, .ofNat 0)), (0, 128, (5, .ofNat 1, .ofNat 0), (17, .ofNat 1, .ofNat 0), (0, .ofNat 0, .ofNat 0)), (0, 127, (5, .ofNat 1, .ofNat 0), (16, .ofNat 1, .ofNat 0), (0, .ofNat 0, .ofNat 0)), (2, 1, (0, .ofNat 0, .ofNat 1), (0, .ofNat 0, .ofNat 0), (0, .ofNat 0, .ofNat 0)), (2, 4, (15, .ofNat 1, .ofNat 0), (0, .ofNat 0, .ofNat 0), (0, .ofNat 0, .ofNat 0)), (0, 125, (7, .ofNat 1, .ofNat 0), (12, .ofNat 1, .ofNat 0), (0, .ofNat 0, .ofNat 0)), (2, 0, (13, .ofNat 1, .ofNat 0), (0, .ofNat 0, .ofNat 2), (0, .ofNat 0, .ofNat 0)), (2, 1, (13, .ofNat 1, .ofNat 0), (0, .ofNat 0, .ofNat 0), (0, .ofNat 0, .ofNat 0)), (2, 1, (1, .ofNat 1, .ofNat 0), (14, .ofNat 1, .ofNat 0), (0, .ofNat 0, .ofNat 0)), (0, 124, (7, .ofNat 1, .ofNat 0), (14, .ofNat 1, .ofNat 0), (0, .ofNat 0, .ofNat 0)), (0, 125, (7, .ofNat 1, .ofNat 0), (12, .ofNat 1, .ofNat 0), (0, .ofNat 0, .ofNat 0)), (2, 4, (2, .ofNat 1, .ofNat 0), (12, .ofNat 1, .ofNat 0), (0, .ofNat 0, .ofNat 0)), (0, 125, (7, .ofNat 1, .ofNat 0), (12, .ofNat 1, .ofNat 0), (0, .ofNat 0, .ofNat 0)), (2, 0, (6, .ofNat 1, .ofNat 0), (0, .ofNat 0, .ofNat 0), (0, .ofNat 0, .ofNat 0)), (0, 123, (7, .ofNat 1, .ofNat 0), (10, .ofNat 1, .ofNat 0), (0, .ofNat 0, .ofNat 0)), (2, 4, (10, .ofNat 1, .ofNat 0), (3, .ofNat 1, .ofNat 0), (0, .ofNat 0, .ofNat 0)), (0, 123, (7, .ofNat 1, .ofNat 0), (10, .ofNat 1, .ofNat 0), (0, .ofNat 0, .ofNat 0)), (2, 0, (0, .ofNat 0, .ofNat 0), (0, .ofNat 0, .ofNat 0), (0, .ofNat 0, .ofNat 0)), (2, 0, (9, .ofNat 1, .ofNat 0), (0, .ofNat 0, .negSucc 3), (0, .ofNat 0, .ofNat 0)), (0, 130, (5, .ofNat 1, .ofNat 0), (9, .ofNat 1, .ofNat 0), (0, .ofNat 0, .ofNat 0)), (2, 2, (7, .ofNat 1, .ofNat 0), (8, .ofNat 1, .ofNat 0), (0, .ofNat 0, .ofNat 0)), (0, 122, (0, .ofNat 0, .ofNat 0), (8, .ofNat 1, .ofNat 0), (0, .ofNat 0, .ofNat 0))], [(1, [(.ofNat 0, .ofNat 1)]), (2, [(.ofNat 1, .ofNat 9)]), (3, [(.ofNat 0, .ofNat 999999)]), (4, [(.ofNat 0, .ofNat 16)]), (5, [(.ofNat 0, .ofNat 15)]), (6, [(.ofNat 0, .ofNat 0)]), (7, [(.ofNat 0, .ofNat 7)]), (8, [(.ofNat 1, .ofNat 8)]), (9, [(.negSucc 3, .negSucc 3)]), (10, [(.ofNat 1, .ofNat 1000000)]), (11, [(.negSucc 999997, .ofNat 1000000)]), (12, [(.ofNat 0, .ofNat 8)]), (13, [(.ofNat 2, .ofNat 2)]), (14, [(.ofNat 0, .ofNat 1)]), (15, [(.ofNat 1, .ofNat 17)]), (16, [(.ofNat 0, .ofNat 1000000)]), (17, [(.ofNat 0, .ofNat 1000)]), (18, [(.negSucc 1999997, .ofNat 1000)]), (19, [(.negSucc 999999, .ofNat 1000)])], [((16, .ofNat 1, .ofNat 0), (11, .negSucc 0, .ofNat 0), (19, .ofNat 1, .ofNat 0)), ((11, .ofNat 1, .ofNat 0), (16, .negSucc 0, .ofNat 0), (18, .ofNat 1, .ofNat 0)), ((2, .ofNat 1, .ofNat 0), (12, .ofNat 1, .ofNat 0), (15, .ofNat 1, .ofNat 0)), ((2, .ofNat 1, .ofNat 0), (12, .negSucc 0, .ofNat 0), (13, .ofNat 1, .ofNat 0)), ((10, .ofNat 1, .ofNat 0), (3, .negSucc 0, .ofNat 0), (11, .ofNat 1, .ofNat 0))], []),
  (7, [(0, .inr (.inl [122])), (1, .inl (false, (1, .ofNat 1, .ofNat 0))), (2, .inl (false, (2, .ofNat 1, .ofNat 0))), (3, .inl (false, (3, .ofNat 1, .ofNat 0))), (4, .inl (false, (4, .ofNat 1, .ofNat 0))), (5, .inl (false, (5, .ofNat 1, .ofNat 1))), (6, .inl (false, (0, .ofNat 0, .ofNat 0))), (7, .inl (false, (7, .ofNat 1, .ofNat 0)))], [], [(2, 0, (6, .ofNat 1, .ofNat 0), (0, .ofNat 0, .ofNat 0), (0, .ofNat 0, .ofNat 0)), (2, 1, (0, .ofNat 0, .ofNat 1), (0, .ofNat 0, .ofNat 0), (0, .ofNat 0, .ofNat 0)), (2, 1, (9, .ofNat 1, .ofNat 0), (0, .ofNat 0, .negSucc 3), (0, .ofNat 0, .ofNat 0)), (0, 130, (5, .ofNat 1, .ofNat 0), (9, .ofNat 1, .ofNat 0), (0, .ofNat 0, .ofNat 0)), (2, 2, (7, .ofNat 1, .ofNat 0), (8, .ofNat 1, .ofNat 0), (0, .ofNat 0, .ofNat 0)), (0, 122, (0, .ofNat 0, .ofNat 0), (8, .ofNat 1, .ofNat 0), (0, .ofNat 0, .ofNat 0))], [(1, [(.ofNat 0, .ofNat 1)]), (2, [(.ofNat 0, .ofNat 9)]), (3, [(.ofNat 0, .ofNat 1003700)]), (4, [(.ofNat 0, .ofNat 16)]), (5, [(.ofNat 0, .ofNat 15)]), (6, [(.ofNat 0, .ofNat 0)]), (7, [(.ofNat 0, .ofNat 7)]), (8, [(.ofNat 1, .ofNat 8)]), (9, [(.ofNat 0, .ofNat 7)])], [], []),
  (7, [(0, .inr (.inl [122])), (1, .inl (false, (1, .ofNat 1, .ofNat 0))), (2, .inl (false, (2, .ofNat 1, .ofNat 0))), (3, .inl (false, (3, .ofNat 1, .ofNat 0))), (4, .inl (false, (4, .ofNat 1, .ofNat 1))), (5, .inl (false, (5, .ofNat 1, .ofNat 1))), (6, .inl (false, (0, .ofNat 0, .ofNat 1))), (7, .inl (false, (7, .ofNat 1, .ofNat 0)))], [], [(2, 1, (6, .ofNat 1, .ofNat 0), (0, .ofNat 0, .ofNat 0), (0, .ofNat 0, .ofNat 0)), (2, 1, (0, .ofNat 0, .ofNat 1), (0, .ofNat 0, .ofNat 0), (0, .ofNat 0, .ofNat 0)), (2, 1, (9, .ofNat 1, .ofNat 0), (0, .ofNat 0, .negSucc 3), (0, .ofNat 0, .ofNat 0)), (0, 130, (5, .ofNat 1, .ofNat 0), (9, .ofNat 1, .ofNat 0), (0, .ofNat 0, .ofNat 0)), (2, 2, (7, .ofNat 1, .ofNat 0), (8, .ofNat 1, .ofNat 0), (0, .ofNat 0, .ofNat 0)), (0, 122, (0, .ofNat 0, .ofNat 0), (8, .ofNat 1, .ofNat 0), (0, .ofNat 0, .ofNat 0))], [(1, [(.ofNat 0, .ofNat 1)]), (2, [(.ofNat 0, .ofNat 9)]), (3, [(.ofNat 0, .ofNat 1003700)]), (4, [(.ofNat 0, .ofNat 16)]), (5, [(.ofNat 0, .ofNat 15)]), (6, [(.ofNat 1, .ofNat 1)]), (7, [(.ofNat 0, .ofNat 7)]), (8, [(.ofNat 1, .ofNat 8)]), (9, [(.ofNat 0, .ofNat 7)])], [], [])]
set_option maxRecDepth 1000000 in
theorem sg_mo_c_g : sg_go [] [21, 6] 3000 196 21 1 8 [(0, [(.ofNat 0, .ofNat 0)]), (1, [(.ofNat 0, .ofNat 1)]), (2, [(.ofNat 0, .ofNat 9)]), (3, [(.ofNat 0, .ofNat 1003700)]), (4, [(.ofNat 0, .ofNat 16)]), (5, [(.ofNat 0, .ofNat 15)]), (6, [(.ofNat 0, .ofNat 1)]), (7, [(.ofNat 0, .ofNat 8)])] [] [] [] [(0, .inr (.inl [122])), (1, .inl (false, (1, .ofNat 1, .ofNat 0))), (2, .inl (false, (2, .ofNat 1, .ofNat 0))), (3, .inl (false, (3, .ofNat 1, .ofNat 0))), (4, .inl (false, (4, .ofNat 1, .ofNat 0))), (5, .inl (false, (5, .ofNat 1, .ofNat 0))), (6, .inl (false, (6, .ofNat 1, .ofNat 0))), (7, .inl (false, (7, .ofNat 1, .ofNat 0)))] [] [] sg_mo_c_Z = true := by decide +kernel
set_option maxRecDepth 100000 in
theorem sg_mo_c {Q : Option Value × am_S → Prop} {d : Nat} {S : am_S} {L : am_L} {x1 x2 x3 x4 x5 x6 x7 : Int} (hd : 1 ≤ d) (hP : ax_P0 none S) (l0 : lc L 0 122) (l1 : li L 1 x1) (l2 : li L 2 x2) (l3 : li L 3 x3) (l4 : li L 4 x4) (l5 : li L 5 x5) (l6 : li L 6 x6) (l7 : li L 7 x7) (b1 : (0 ≤ x1 ∧ x1 ≤ 1)) (b2 : (0 ≤ x2 ∧ x2 ≤ 9)) (b3 : (0 ≤ x3 ∧ x3 ≤ 1003700)) (b4 : (0 ≤ x4 ∧ x4 ≤ 16)) (b5 : (0 ≤ x5 ∧ x5 ≤ 15)) (b6 : (0 ≤ x6 ∧ x6 ≤ 1)) (b7 : (0 ≤ x7 ∧ x7 ≤ 8))
    (k0 : ∀ (x8 : Int) (L' : am_L), rd S 122 0 = x8 → x8 ≤ x7 → x6 = 0 → (0 ≤ x1 ∧ x1 ≤ 1) → (0 ≤ x2 ∧ x2 ≤ 9) → (0 ≤ x3 ∧ x3 ≤ 1003700) → (0 ≤ x4 ∧ x4 ≤ 16) → (0 ≤ x5 ∧ x5 ≤ 15) → (0 ≤ x6 ∧ x6 ≤ 0) → (0 ≤ x7 ∧ x7 ≤ 8) → (0 ≤ x8 ∧ x8 ≤ 8) → lc L' 0 122 → li L' 1 x1 → li L' 2 x2 → li L' 3 x3 → li L' 4 x4 → li L' 5 (x5 + 1) → li L' 6 0 → li L' 7 x7 → am_V none d 196 6 L' ([]) S Q)
    (k1 : ∀ (x8 : Int) (L' : am_L), rd S 122 0 = x8 → x8 ≤ x7 → x6 ≠ 0 → (0 ≤ x1 ∧ x1 ≤ 1) → (0 ≤ x2 ∧ x2 ≤ 9) → (0 ≤ x3 ∧ x3 ≤ 1003700) → (0 ≤ x4 ∧ x4 ≤ 16) → (0 ≤ x5 ∧ x5 ≤ 15) → (1 ≤ x6 ∧ x6 ≤ 1) → (0 ≤ x7 ∧ x7 ≤ 8) → (0 ≤ x8 ∧ x8 ≤ 8) → lc L' 0 122 → li L' 1 x1 → li L' 2 x2 → li L' 3 x3 → li L' 4 (x4 + 1) → li L' 5 (x5 + 1) → li L' 6 1 → li L' 7 x7 → am_V none d 196 6 L' ([]) S Q)
    (k2 : ∀ (x8 x9 x10 x11 : Int) (L' : am_L), rd S 122 0 = x8 → x7 < x8 → rd S 130 x5 = x9 → x9 = (-4) → rd S 123 x7 = x10 → x10 ≤ x3 → x6 ≠ 0 → (0 ≤ x1 ∧ x1 ≤ 1) → (0 ≤ x2 ∧ x2 ≤ 9) → (0 ≤ x3 ∧ x3 ≤ 1003700) → (0 ≤ x4 ∧ x4 ≤ 16) → (0 ≤ x5 ∧ x5 ≤ 15) → (1 ≤ x6 ∧ x6 ≤ 1) → (0 ≤ x7 ∧ x7 ≤ 7) → (1 ≤ x8 ∧ x8 ≤ 8) → ((-4) ≤ x9 ∧ x9 ≤ (-4)) → (0 ≤ x10 ∧ x10 ≤ 1000000) → ((-1000000) ≤ x11 ∧ x11 ≤ 1003700) → x3 + ((-1) * x10 + 0) = x11 → lc L' 0 122 → li L' 1 x1 → li L' 2 x2 → li L' 3 x3 → li L' 4 x4 → li L' 5 x5 → li L' 6 1 → li L' 7 (x7 + 1) → li L' 8 x11 → am_V none d 196 21 L' ([]) S Q)
    (k3 : ∀ (x8 x9 x10 x11 x12 x14 : Int) (L' : am_L), rd S 122 0 = x8 → x7 < x8 → rd S 130 x5 = x9 → x9 = (-4) → rd S 123 x7 = x10 → x10 ≤ x3 → x6 = 0 → rd S 125 x7 = x12 → x2 ≤ x12 → rd S 124 x7 = x14 → x1 = x14 → (0 ≤ x1 ∧ x1 ≤ 1) → (0 ≤ x2 ∧ x2 ≤ 9) → (0 ≤ x3 ∧ x3 ≤ 1003700) → (0 ≤ x4 ∧ x4 ≤ 16) → (0 ≤ x5 ∧ x5 ≤ 15) → (0 ≤ x6 ∧ x6 ≤ 0) → (0 ≤ x7 ∧ x7 ≤ 7) → (1 ≤ x8 ∧ x8 ≤ 8) → ((-4) ≤ x9 ∧ x9 ≤ (-4)) → (0 ≤ x10 ∧ x10 ≤ 1000000) → ((-1000000) ≤ x11 ∧ x11 ≤ 1003700) → (0 ≤ x12 ∧ x12 ≤ 9) → (0 ≤ x14 ∧ x14 ≤ 1) → x3 + ((-1) * x10 + 0) = x11 → lc L' 0 122 → li L' 1 x1 → li L' 2 x2 → li L' 3 x3 → li L' 4 x4 → li L' 5 x5 → li L' 6 0 → li L' 7 (x7 + 1) → li L' 8 x11 → am_V none d 196 21 L' ([]) S Q)
    (k4 : ∀ (x8 x9 x10 x11 x12 x13 x14 x15 : Int) (L' : am_L), rd S 122 0 = x8 → x7 < x8 → rd S 130 x5 = x9 → x9 = (-4) → rd S 123 x7 = x10 → x10 ≤ x3 → x6 = 0 → rd S 125 x7 = x12 → x2 ≤ x12 → rd S 124 x7 = x14 → x1 ≠ x14 → x13 = 0 → x15 ≤ 0 → (0 ≤ x1 ∧ x1 ≤ 1) → (0 ≤ x2 ∧ x2 ≤ 9) → (0 ≤ x3 ∧ x3 ≤ 1003700) → (0 ≤ x4 ∧ x4 ≤ 16) → (0 ≤ x5 ∧ x5 ≤ 15) → (0 ≤ x6 ∧ x6 ≤ 0) → (0 ≤ x7 ∧ x7 ≤ 7) → (1 ≤ x8 ∧ x8 ≤ 8) → ((-4) ≤ x9 ∧ x9 ≤ (-4)) → (0 ≤ x10 ∧ x10 ≤ 1000000) → ((-1000000) ≤ x11 ∧ x11 ≤ 1003700) → (0 ≤ x12 ∧ x12 ≤ 9) → (0 ≤ x13 ∧ x13 ≤ 0) → (0 ≤ x14 ∧ x14 ≤ 1) → (0 ≤ x15 ∧ x15 ≤ 0) → x2 + x12 = x15 → x12 + ((-1) * x2 + 0) = x13 → x3 + ((-1) * x10 + 0) = x11 → lc L' 0 122 → li L' 1 x1 → li L' 2 x2 → li L' 3 x3 → li L' 4 x4 → li L' 5 x5 → li L' 6 0 → li L' 7 (x7 + 1) → li L' 8 x11 → am_V none d 196 21 L' ([]) S Q)
    (k5 : ∀ (x8 x9 x10 x11 x12 x13 x14 x15 x16 x17 x18 : Int) (L' : am_L), rd S 122 0 = x8 → x7 < x8 → rd S 130 x5 = x9 → x9 = (-4) → rd S 123 x7 = x10 → x10 ≤ x3 → x6 = 0 → rd S 125 x7 = x12 → x2 ≤ x12 → rd S 124 x7 = x14 → x1 ≠ x14 → x13 = 0 → 0 < x15 → rd S 127 x5 = x16 → rd S 128 x5 = x17 → x17 < x18 → (0 ≤ x1 ∧ x1 ≤ 1) → (0 ≤ x2 ∧ x2 ≤ 9) → (0 ≤ x3 ∧ x3 ≤ 1003700) → (0 ≤ x4 ∧ x4 ≤ 16) → (0 ≤ x5 ∧ x5 ≤ 15) → (0 ≤ x6 ∧ x6 ≤ 0) → (0 ≤ x7 ∧ x7 ≤ 7) → (1 ≤ x8 ∧ x8 ≤ 8) → ((-4) ≤ x9 ∧ x9 ≤ (-4)) → (0 ≤ x10 ∧ x10 ≤ 1000000) → ((-1000000) ≤ x11 ∧ x11 ≤ 1003700) → (0 ≤ x12 ∧ x12 ≤ 9) → (0 ≤ x13 ∧ x13 ≤ 0) → (0 ≤ x14 ∧ x14 ≤ 1) → (1 ≤ x15 ∧ x15 ≤ 18) → (0 ≤ x16 ∧ x16 ≤ 1000000) → (0 ≤ x17 ∧ x17 ≤ 1000) → (1 ≤ x18 ∧ x18 ≤ 1003700) → x11 + ((-1) * x16 + 0) = x18 → x2 + x12 = x15 → x12 + ((-1) * x2 + 0) = x13 → x3 + ((-1) * x10 + 0) = x11 → lc L' 0 122 → li L' 1 x1 → li L' 2 x2 → li L' 3 x3 → li L' 4 x4 → li L' 5 x5 → li L' 6 0 → li L' 7 (x7 + 1) → li L' 8 x11 → am_V none d 196 21 L' ([]) S Q)
    (k6 : ∀ (x8 x9 x10 x11 x12 x13 x14 x15 x16 x17 x18 x19 : Int) (L' : am_L), rd S 122 0 = x8 → x7 < x8 → rd S 130 x5 = x9 → x9 = (-4) → rd S 123 x7 = x10 → x10 ≤ x3 → x6 = 0 → rd S 125 x7 = x12 → x2 ≤ x12 → rd S 124 x7 = x14 → x1 ≠ x14 → x13 = 0 → 0 < x15 → rd S 127 x5 = x16 → rd S 128 x5 = x17 → x18 ≤ x17 → x17 < x19 → (0 ≤ x1 ∧ x1 ≤ 1) → (0 ≤ x2 ∧ x2 ≤ 9) → (0 ≤ x3 ∧ x3 ≤ 1003700) → (0 ≤ x4 ∧ x4 ≤ 16) → (0 ≤ x5 ∧ x5 ≤ 15) → (0 ≤ x6 ∧ x6 ≤ 0) → (0 ≤ x7 ∧ x7 ≤ 7) → (1 ≤ x8 ∧ x8 ≤ 8) → ((-4) ≤ x9 ∧ x9 ≤ (-4)) → (0 ≤ x10 ∧ x10 ≤ 1000000) → ((-1000000) ≤ x11 ∧ x11 ≤ 1003700) → (0 ≤ x12 ∧ x12 ≤ 9) → (0 ≤ x13 ∧ x13 ≤ 0) → (0 ≤ x14 ∧ x14 ≤ 1) → (1 ≤ x15 ∧ x15 ≤ 18) → (0 ≤ x16 ∧ x16 ≤ 1000000) → (0 ≤ x17 ∧ x17 ≤ 1000) → ((-2000000) ≤ x18 ∧ x18 ≤ 1000) → (1 ≤ x19 ∧ x19 ≤ 2000000) → x16 + ((-1) * x11 + 0) = x19 → x11 + ((-1) * x16 + 0) = x18 → x2 + x12 = x15 → x12 + ((-1) * x2 + 0) = x13 → x3 + ((-1) * x10 + 0) = x11 → lc L' 0 122 → li L' 1 x1 → li L' 2 x2 → li L' 3 x3 → li L' 4 x4 → li L' 5 x5 → li L' 6 0 → li L' 7 (x7 + 1) → li L' 8 x11 → am_V none d 196 21 L' ([]) S Q)
    (k7 : ∀ (x8 x9 x10 x11 x12 x13 x14 x15 x16 x17 x18 x19 : Int) (L' : am_L), rd S 122 0 = x8 → x7 < x8 → rd S 130 x5 = x9 → x9 = (-4) → rd S 123 x7 = x10 → x10 ≤ x3 → x6 = 0 → rd S 125 x7 = x12 → x2 ≤ x12 → rd S 124 x7 = x14 → x1 ≠ x14 → x13 = 0 → 0 < x15 → rd S 127 x5 = x16 → rd S 128 x5 = x17 → x18 ≤ x17 → x19 ≤ x17 → (0 ≤ x1 ∧ x1 ≤ 1) → (0 ≤ x2 ∧ x2 ≤ 9) → (0 ≤ x3 ∧ x3 ≤ 1003700) → (0 ≤ x4 ∧ x4 ≤ 16) → (0 ≤ x5 ∧ x5 ≤ 15) → (0 ≤ x6 ∧ x6 ≤ 0) → (0 ≤ x7 ∧ x7 ≤ 7) → (1 ≤ x8 ∧ x8 ≤ 8) → ((-4) ≤ x9 ∧ x9 ≤ (-4)) → (0 ≤ x10 ∧ x10 ≤ 1000000) → ((-1000000) ≤ x11 ∧ x11 ≤ 1003700) → (0 ≤ x12 ∧ x12 ≤ 9) → (0 ≤ x13 ∧ x13 ≤ 0) → (0 ≤ x14 ∧ x14 ≤ 1) → (1 ≤ x15 ∧ x15 ≤ 18) → (0 ≤ x16 ∧ x16 ≤ 1000000) → (0 ≤ x17 ∧ x17 ≤ 1000) → ((-2000000) ≤ x18 ∧ x18 ≤ 1000) → ((-1003700) ≤ x19 ∧ x19 ≤ 1000) → x16 + ((-1) * x11 + 0) = x19 → x11 + ((-1) * x16 + 0) = x18 → x2 + x12 = x15 → x12 + ((-1) * x2 + 0) = x13 → x3 + ((-1) * x10 + 0) = x11 → lc L' 0 122 → li L' 1 x1 → li L' 2 x2 → li L' 3 x3 → li L' 4 x4 → li L' 5 x5 → li L' 6 1 → li L' 7 (x7 + 1) → li L' 8 x11 → am_V none d 196 21 L' ([]) S Q)
    (k8 : ∀ (x8 x9 x10 x11 x12 x13 x14 : Int) (L' : am_L), rd S 122 0 = x8 → x7 < x8 → rd S 130 x5 = x9 → x9 = (-4) → rd S 123 x7 = x10 → x10 ≤ x3 → x6 = 0 → rd S 125 x7 = x12 → x2 ≤ x12 → rd S 124 x7 = x14 → x1 ≠ x14 → x13 ≠ 0 → x13 ≠ 2 → (0 ≤ x1 ∧ x1 ≤ 1) → (0 ≤ x2 ∧ x2 ≤ 9) → (0 ≤ x3 ∧ x3 ≤ 1003700) → (0 ≤ x4 ∧ x4 ≤ 16) → (0 ≤ x5 ∧ x5 ≤ 15) → (0 ≤ x6 ∧ x6 ≤ 0) → (0 ≤ x7 ∧ x7 ≤ 7) → (1 ≤ x8 ∧ x8 ≤ 8) → ((-4) ≤ x9 ∧ x9 ≤ (-4)) → (0 ≤ x10 ∧ x10 ≤ 1000000) → ((-1000000) ≤ x11 ∧ x11 ≤ 1003700) → (0 ≤ x12 ∧ x12 ≤ 9) → ((-9) ≤ x13 ∧ x13 ≤ (-1)) ∨ (1 ≤ x13 ∧ x13 ≤ 1) ∨ (3 ≤ x13 ∧ x13 ≤ 9) → (0 ≤ x14 ∧ x14 ≤ 1) → x12 + ((-1) * x2 + 0) = x13 → x3 + ((-1) * x10 + 0) = x11 → lc L' 0 122 → li L' 1 x1 → li L' 2 x2 → li L' 3 x3 → li L' 4 x4 → li L' 5 x5 → li L' 6 0 → li L' 7 (x7 + 1) → li L' 8 x11 → am_V none d 196 21 L' ([]) S Q)
    (k9 : ∀ (x8 x9 x10 x11 x12 x13 x14 x15 : Int) (L' : am_L), rd S 122 0 = x8 → x7 < x8 → rd S 130 x5 = x9 → x9 = (-4) → rd S 123 x7 = x10 → x10 ≤ x3 → x6 = 0 → rd S 125 x7 = x12 → x2 ≤ x12 → rd S 124 x7 = x14 → x1 ≠ x14 → x13 ≠ 0 → x13 = 2 → x15 ≤ 0 → (0 ≤ x1 ∧ x1 ≤ 1) → (0 ≤ x2 ∧ x2 ≤ 9) → (0 ≤ x3 ∧ x3 ≤ 1003700) → (0 ≤ x4 ∧ x4 ≤ 16) → (0 ≤ x5 ∧ x5 ≤ 15) → (0 ≤ x6 ∧ x6 ≤ 0) → (0 ≤ x7 ∧ x7 ≤ 7) → (1 ≤ x8 ∧ x8 ≤ 8) → ((-4) ≤ x9 ∧ x9 ≤ (-4)) → (0 ≤ x10 ∧ x10 ≤ 1000000) → ((-1000000) ≤ x11 ∧ x11 ≤ 1003700) → (0 ≤ x12 ∧ x12 ≤ 9) → (2 ≤ x13 ∧ x13 ≤ 2) → (0 ≤ x14 ∧ x14 ≤ 1) → (0 ≤ x15 ∧ x15 ≤ 0) → x2 + x12 = x15 → x12 + ((-1) * x2 + 0) = x13 → x3 + ((-1) * x10 + 0) = x11 → lc L' 0 122 → li L' 1 x1 → li L' 2 x2 → li L' 3 x3 → li L' 4 x4 → li L' 5 x5 → li L' 6 0 → li L' 7 (x7 + 1) → li L' 8 x11 → am_V none d 196 21 L' ([]) S Q)
    (k10 : ∀ (x8 x9 x10 x11 x12 x13 x14 x15 x16 x17 x18 : Int) (L' : am_L), rd S 122 0 = x8 → x7 < x8 → rd S 130 x5 = x9 → x9 = (-4) → rd S 123 x7 = x10 → x10 ≤ x3 → x6 = 0 → rd S 125 x7 = x12 → x2 ≤ x12 → rd S 124 x7 = x14 → x1 ≠ x14 → x13 ≠ 0 → x13 = 2 → 0 < x15 → rd S 127 x5 = x16 → rd S 128 x5 = x17 → x17 < x18 → (0 ≤ x1 ∧ x1 ≤ 1) → (0 ≤ x2 ∧ x2 ≤ 9) → (0 ≤ x3 ∧ x3 ≤ 1003700) → (0 ≤ x4 ∧ x4 ≤ 16) → (0 ≤ x5 ∧ x5 ≤ 15) → (0 ≤ x6 ∧ x6 ≤ 0) → (0 ≤ x7 ∧ x7 ≤ 7) → (1 ≤ x8 ∧ x8 ≤ 8) → ((-4) ≤ x9 ∧ x9 ≤ (-4)) → (0 ≤ x10 ∧ x10 ≤ 1000000) → ((-1000000) ≤ x11 ∧ x11 ≤ 1003700) → (0 ≤ x12 ∧ x12 ≤ 9) → (2 ≤ x13 ∧ x13 ≤ 2) → (0 ≤ x14 ∧ x14 ≤ 1) → (1 ≤ x15 ∧ x15 ≤ 18) → (0 ≤ x16 ∧ x16 ≤ 1000000) → (0 ≤ x17 ∧ x17 ≤ 1000) → (1 ≤ x18 ∧ x18 ≤ 1003700) → x11 + ((-1) * x16 + 0) = x18 → x2 + x12 = x15 → x12 + ((-1) * x2 + 0) = x13 → x3 + ((-1) * x10 + 0) = x11 → lc L' 0 122 → li L' 1 x1 → li L' 2 x2 → li L' 3 x3 → li L' 4 x4 → li L' 5 x5 → li L' 6 0 → li L' 7 (x7 + 1) → li L' 8 x11 → am_V none d 196 21 L' ([]) S Q)
    (k11 : ∀ (x8 x9 x10 x11 x12 x13 x14 x15 x16 x17 x18 x19 : Int) (L' : am_L), rd S 122 0 = x8 → x7 < x8 → rd S 130 x5 = x9 → x9 = (-4) → rd S 123 x7 = x10 → x10 ≤ x3 → x6 = 0 → rd S 125 x7 = x12 → x2 ≤ x12 → rd S 124 x7 = x14 → x1 ≠ x14 → x13 ≠ 0 → x13 = 2 → 0 < x15 → rd S 127 x5 = x16 → rd S 128 x5 = x17 → x18 ≤ x17 → x17 < x19 → (0 ≤ x1 ∧ x1 ≤ 1) → (0 ≤ x2 ∧ x2 ≤ 9) → (0 ≤ x3 ∧ x3 ≤ 1003700) → (0 ≤ x4 ∧ x4 ≤ 16) → (0 ≤ x5 ∧ x5 ≤ 15) → (0 ≤ x6 ∧ x6 ≤ 0) → (0 ≤ x7 ∧ x7 ≤ 7) → (1 ≤ x8 ∧ x8 ≤ 8) → ((-4) ≤ x9 ∧ x9 ≤ (-4)) → (0 ≤ x10 ∧ x10 ≤ 1000000) → ((-1000000) ≤ x11 ∧ x11 ≤ 1003700) → (0 ≤ x12 ∧ x12 ≤ 9) → (2 ≤ x13 ∧ x13 ≤ 2) → (0 ≤ x14 ∧ x14 ≤ 1) → (1 ≤ x15 ∧ x15 ≤ 18) → (0 ≤ x16 ∧ x16 ≤ 1000000) → (0 ≤ x17 ∧ x17 ≤ 1000) → ((-2000000) ≤ x18 ∧ x18 ≤ 1000) → (1 ≤ x19 ∧ x19 ≤ 2000000) → x16 + ((-1) * x11 + 0) = x19 → x11 + ((-1) * x16 + 0) = x18 → x2 + x12 = x15 → x12 + ((-1) * x2 + 0) = x13 → x3 + ((-1) * x10 + 0) = x11 → lc L' 0 122 → li L' 1 x1 → li L' 2 x2 → li L' 3 x3 → li L' 4 x4 → li L' 5 x5 → li L' 6 0 → li L' 7 (x7 + 1) → li L' 8 x11 → am_V none d 196 21 L' ([]) S Q)
    (k12 : ∀ (x8 x9 x10 x11 x12 x13 x14 x15 x16 x17 x18 x19 : Int) (L' : am_L), rd S 122 0 = x8 → x7 < x8 → rd S 130 x5 = x9 → x9 = (-4) → rd S 123 x7 = x10 → x10 ≤ x3 → x6 = 0 → rd S 125 x7 = x12 → x2 ≤ x12 → rd S 124 x7 = x14 → x1 ≠ x14 → x13 ≠ 0 → x13 = 2 → 0 < x15 → rd S 127 x5 = x16 → rd S 128 x5 = x17 → x18 ≤ x17 → x19 ≤ x17 → (0 ≤ x1 ∧ x1 ≤ 1) → (0 ≤ x2 ∧ x2 ≤ 9) → (0 ≤ x3 ∧ x3 ≤ 1003700) → (0 ≤ x4 ∧ x4 ≤ 16) → (0 ≤ x5 ∧ x5 ≤ 15) → (0 ≤ x6 ∧ x6 ≤ 0) → (0 ≤ x7 ∧ x7 ≤ 7) → (1 ≤ x8 ∧ x8 ≤ 8) → ((-4) ≤ x9 ∧ x9 ≤ (-4)) → (0 ≤ x10 ∧ x10 ≤ 1000000) → ((-1000000) ≤ x11 ∧ x11 ≤ 1003700) → (0 ≤ x12 ∧ x12 ≤ 9) → (2 ≤ x13 ∧ x13 ≤ 2) → (0 ≤ x14 ∧ x14 ≤ 1) → (1 ≤ x15 ∧ x15 ≤ 18) → (0 ≤ x16 ∧ x16 ≤ 1000000) → (0 ≤ x17 ∧ x17 ≤ 1000) → ((-2000000) ≤ x18 ∧ x18 ≤ 1000) → ((-1003700) ≤ x19 ∧ x19 ≤ 1000) → x16 + ((-1) * x11 + 0) = x19 → x11 + ((-1) * x16 + 0) = x18 → x2 + x12 = x15 → x12 + ((-1) * x2 + 0) = x13 → x3 + ((-1) * x10 + 0) = x11 → lc L' 0 122 → li L' 1 x1 → li L' 2 x2 → li L' 3 x3 → li L' 4 x4 → li L' 5 x5 → li L' 6 1 → li L' 7 (x7 + 1) → li L' 8 x11 → am_V none d 196 21 L' ([]) S Q)
    (k13 : ∀ (x8 x9 x10 x11 x12 x14 : Int) (L' : am_L), rd S 122 0 = x8 → x7 < x8 → rd S 130 x5 = x9 → x9 = (-4) → rd S 123 x7 = x10 → x10 ≤ x3 → x6 = 0 → rd S 125 x7 = x12 → x12 < x2 → rd S 124 x7 = x14 → x1 = x14 → (0 ≤ x1 ∧ x1 ≤ 1) → (1 ≤ x2 ∧ x2 ≤ 9) → (0 ≤ x3 ∧ x3 ≤ 1003700) → (0 ≤ x4 ∧ x4 ≤ 16) → (0 ≤ x5 ∧ x5 ≤ 15) → (0 ≤ x6 ∧ x6 ≤ 0) → (0 ≤ x7 ∧ x7 ≤ 7) → (1 ≤ x8 ∧ x8 ≤ 8) → ((-4) ≤ x9 ∧ x9 ≤ (-4)) → (0 ≤ x10 ∧ x10 ≤ 1000000) → ((-1000000) ≤ x11 ∧ x11 ≤ 1003700) → (0 ≤ x12 ∧ x12 ≤ 8) → (0 ≤ x14 ∧ x14 ≤ 1) → x3 + ((-1) * x10 + 0) = x11 → lc L' 0 122 → li L' 1 x1 → li L' 2 x2 → li L' 3 x3 → li L' 4 x4 → li L' 5 x5 → li L' 6 0 → li L' 7 (x7 + 1) → li L' 8 x11 → am_V none d 196 21 L' ([]) S Q)
    (k14 : ∀ (x8 x9 x10 x11 x12 x13 x14 x15 x16 x17 x18 : Int) (L' : am_L), rd S 122 0 = x8 → x7 < x8 → rd S 130 x5 = x9 → x9 = (-4) → rd S 123 x7 = x10 → x10 ≤ x3 → x6 = 0 → rd S 125 x7 = x12 → x12 < x2 → rd S 124 x7 = x14 → x1 ≠ x14 → x13 = 0 → 0 < x15 → rd S 127 x5 = x16 → rd S 128 x5 = x17 → x17 < x18 → (0 ≤ x1 ∧ x1 ≤ 1) → (1 ≤ x2 ∧ x2 ≤ 9) → (0 ≤ x3 ∧ x3 ≤ 1003700) → (0 ≤ x4 ∧ x4 ≤ 16) → (0 ≤ x5 ∧ x5 ≤ 15) → (0 ≤ x6 ∧ x6 ≤ 0) → (0 ≤ x7 ∧ x7 ≤ 7) → (1 ≤ x8 ∧ x8 ≤ 8) → ((-4) ≤ x9 ∧ x9 ≤ (-4)) → (0 ≤ x10 ∧ x10 ≤ 1000000) → ((-1000000) ≤ x11 ∧ x11 ≤ 1003700) → (0 ≤ x12 ∧ x12 ≤ 8) → (0 ≤ x13 ∧ x13 ≤ 0) → (0 ≤ x14 ∧ x14 ≤ 1) → (1 ≤ x15 ∧ x15 ≤ 17) → (0 ≤ x16 ∧ x16 ≤ 1000000) → (0 ≤ x17 ∧ x17 ≤ 1000) → (1 ≤ x18 ∧ x18 ≤ 1003700) → x11 + ((-1) * x16 + 0) = x18 → x2 + x12 = x15 → x2 + ((-1) * x12 + 0) = x13 → x3 + ((-1) * x10 + 0) = x11 → lc L' 0 122 → li L' 1 x1 → li L' 2 x2 → li L' 3 x3 → li L' 4 x4 → li L' 5 x5 → li L' 6 0 → li L' 7 (x7 + 1) → li L' 8 x11 → am_V none d 196 21 L' ([]) S Q)
    (k15 : ∀ (x8 x9 x10 x11 x12 x13 x14 x15 x16 x17 x18 x19 : Int) (L' : am_L), rd S 122 0 = x8 → x7 < x8 → rd S 130 x5 = x9 → x9 = (-4) → rd S 123 x7 = x10 → x10 ≤ x3 → x6 = 0 → rd S 125 x7 = x12 → x12 < x2 → rd S 124 x7 = x14 → x1 ≠ x14 → x13 = 0 → 0 < x15 → rd S 127 x5 = x16 → rd S 128 x5 = x17 → x18 ≤ x17 → x17 < x19 → (0 ≤ x1 ∧ x1 ≤ 1) → (1 ≤ x2 ∧ x2 ≤ 9) → (0 ≤ x3 ∧ x3 ≤ 1003700) → (0 ≤ x4 ∧ x4 ≤ 16) → (0 ≤ x5 ∧ x5 ≤ 15) → (0 ≤ x6 ∧ x6 ≤ 0) → (0 ≤ x7 ∧ x7 ≤ 7) → (1 ≤ x8 ∧ x8 ≤ 8) → ((-4) ≤ x9 ∧ x9 ≤ (-4)) → (0 ≤ x10 ∧ x10 ≤ 1000000) → ((-1000000) ≤ x11 ∧ x11 ≤ 1003700) → (0 ≤ x12 ∧ x12 ≤ 8) → (0 ≤ x13 ∧ x13 ≤ 0) → (0 ≤ x14 ∧ x14 ≤ 1) → (1 ≤ x15 ∧ x15 ≤ 17) → (0 ≤ x16 ∧ x16 ≤ 1000000) → (0 ≤ x17 ∧ x17 ≤ 1000) → ((-2000000) ≤ x18 ∧ x18 ≤ 1000) → (1 ≤ x19 ∧ x19 ≤ 2000000) → x16 + ((-1) * x11 + 0) = x19 → x11 + ((-1) * x16 + 0) = x18 → x2 + x12 = x15 → x2 + ((-1) * x12 + 0) = x13 → x3 + ((-1) * x10 + 0) = x11 → lc L' 0 122 → li L' 1 x1 → li L' 2 x2 → li L' 3 x3 → li L' 4 x4 → li L' 5 x5 → li L' 6 0 → li L' 7 (x7 + 1) → li L' 8 x11 → am_V none d 196 21 L' ([]) S Q)
    (k16 : ∀ (x8 x9 x10 x11 x12 x13 x14 x15 x16 x17 x18 x19 : Int) (L' : am_L), rd S 122 0 = x8 → x7 < x8 → rd S 130 x5 = x9 → x9 = (-4) → rd S 123 x7 = x10 → x10 ≤ x3 → x6 = 0 → rd S 125 x7 = x12 → x12 < x2 → rd S 124 x7 = x14 → x1 ≠ x14 → x13 = 0 → 0 < x15 → rd S 127 x5 = x16 → rd S 128 x5 = x17 → x18 ≤ x17 → x19 ≤ x17 → (0 ≤ x1 ∧ x1 ≤ 1) → (1 ≤ x2 ∧ x2 ≤ 9) → (0 ≤ x3 ∧ x3 ≤ 1003700) → (0 ≤ x4 ∧ x4 ≤ 16) → (0 ≤ x5 ∧ x5 ≤ 15) → (0 ≤ x6 ∧ x6 ≤ 0) → (0 ≤ x7 ∧ x7 ≤ 7) → (1 ≤ x8 ∧ x8 ≤ 8) → ((-4) ≤ x9 ∧ x9 ≤ (-4)) → (0 ≤ x10 ∧ x10 ≤ 1000000) → ((-1000000) ≤ x11 ∧ x11 ≤ 1003700) → (0 ≤ x12 ∧ x12 ≤ 8) → (0 ≤ x13 ∧ x13 ≤ 0) → (0 ≤ x14 ∧ x14 ≤ 1) → (1 ≤ x15 ∧ x15 ≤ 17) → (0 ≤ x16 ∧ x16 ≤ 1000000) → (0 ≤ x17 ∧ x17 ≤ 1000) → ((-2000000) ≤ x18 ∧ x18 ≤ 1000) → ((-1003700) ≤ x19 ∧ x19 ≤ 1000) → x16 + ((-1) * x11 + 0) = x19 → x11 + ((-1) * x16 + 0) = x18 → x2 + x12 = x15 → x2 + ((-1) * x12 + 0) = x13 → x3 + ((-1) * x10 + 0) = x11 → lc L' 0 122 → li L' 1 x1 → li L' 2 x2 → li L' 3 x3 → li L' 4 x4 → li L' 5 x5 → li L' 6 1 → li L' 7 (x7 + 1) → li L' 8 x11 → am_V none d 196 21 L' ([]) S Q)
    (k17 : ∀ (x8 x9 x10 x11 x12 x13 x14 : Int) (L' : am_L), rd S 122 0 = x8 → x7 < x8 → rd S 130 x5 = x9 → x9 = (-4) → rd S 123 x7 = x10 → x10 ≤ x3 → x6 = 0 → rd S 125 x7 = x12 → x12 < x2 → rd S 124 x7 = x14 → x1 ≠ x14 → x13 ≠ 0 → x13 ≠ 2 → (0 ≤ x1 ∧ x1 ≤ 1) → (1 ≤ x2 ∧ x2 ≤ 9) → (0 ≤ x3 ∧ x3 ≤ 1003700) → (0 ≤ x4 ∧ x4 ≤ 16) → (0 ≤ x5 ∧ x5 ≤ 15) → (0 ≤ x6 ∧ x6 ≤ 0) → (0 ≤ x7 ∧ x7 ≤ 7) → (1 ≤ x8 ∧ x8 ≤ 8) → ((-4) ≤ x9 ∧ x9 ≤ (-4)) → (0 ≤ x10 ∧ x10 ≤ 1000000) → ((-1000000) ≤ x11 ∧ x11 ≤ 1003700) → (0 ≤ x12 ∧ x12 ≤ 8) → ((-7) ≤ x13 ∧ x13 ≤ (-1)) ∨ (1 ≤ x13 ∧ x13 ≤ 1) ∨ (3 ≤ x13 ∧ x13 ≤ 9) → (0 ≤ x14 ∧ x14 ≤ 1) → x2 + ((-1) * x12 + 0) = x13 → x3 + ((-1) * x10 + 0) = x11 → lc L' 0 122 → li L' 1 x1 → li L' 2 x2 → li L' 3 x3 → li L' 4 x4 → li L' 5 x5 → li L' 6 0 → li L' 7 (x7 + 1) → li L' 8 x11 → am_V none d 196 21 L' ([]) S Q)
    (k18 : ∀ (x8 x9 x10 x11 x12 x13 x14 x15 x16 x17 x18 : Int) (L' : am_L), rd S 122 0 = x8 → x7 < x8 → rd S 130 x5 = x9 → x9 = (-4) → rd S 123 x7 = x10 → x10 ≤ x3 → x6 = 0 → rd S 125 x7 = x12 → x12 < x2 → rd S 124 x7 = x14 → x1 ≠ x14 → x13 ≠ 0 → x13 = 2 → 0 < x15 → rd S 127 x5 = x16 → rd S 128 x5 = x17 → x17 < x18 → (0 ≤ x1 ∧ x1 ≤ 1) → (1 ≤ x2 ∧ x2 ≤ 9) → (0 ≤ x3 ∧ x3 ≤ 1003700) → (0 ≤ x4 ∧ x4 ≤ 16) → (0 ≤ x5 ∧ x5 ≤ 15) → (0 ≤ x6 ∧ x6 ≤ 0) → (0 ≤ x7 ∧ x7 ≤ 7) → (1 ≤ x8 ∧ x8 ≤ 8) → ((-4) ≤ x9 ∧ x9 ≤ (-4)) → (0 ≤ x10 ∧ x10 ≤ 1000000) → ((-1000000) ≤ x11 ∧ x11 ≤ 1003700) → (0 ≤ x12 ∧ x12 ≤ 8) → (2 ≤ x13 ∧ x13 ≤ 2) → (0 ≤ x14 ∧ x14 ≤ 1) → (1 ≤ x15 ∧ x15 ≤ 17) → (0 ≤ x16 ∧ x16 ≤ 1000000) → (0 ≤ x17 ∧ x17 ≤ 1000) → (1 ≤ x18 ∧ x18 ≤ 1003700) → x11 + ((-1) * x16 + 0) = x18 → x2 + x12 = x15 → x2 + ((-1) * x12 + 0) = x13 → x3 + ((-1) * x10 + 0) = x11 → lc L' 0 122 → li L' 1 x1 → li L' 2 x2 → li L' 3 x3 → li L' 4 x4 → li L' 5 x5 → li L' 6 0 → li L' 7 (x7 + 1) → li L' 8 x11 → am_V none d 196 21 L' ([]) S Q)
    (k19 : ∀ (x8 x9 x10 x11 x12 x13 x14 x15 x16 x17 x18 x19 : Int) (L' : am_L), rd S 122 0 = x8 → x7 < x8 → rd S 130 x5 = x9 → x9 = (-4) → rd S 123 x7 = x10 → x10 ≤ x3 → x6 = 0 → rd S 125 x7 = x12 → x12 < x2 → rd S 124 x7 = x14 → x1 ≠ x14 → x13 ≠ 0 → x13 = 2 → 0 < x15 → rd S 127 x5 = x16 → rd S 128 x5 = x17 → x18 ≤ x17 → x17 < x19 → (0 ≤ x1 ∧ x1 ≤ 1) → (1 ≤ x2 ∧ x2 ≤ 9) → (0 ≤ x3 ∧ x3 ≤ 1003700) → (0 ≤ x4 ∧ x4 ≤ 16) → (0 ≤ x5 ∧ x5 ≤ 15) → (0 ≤ x6 ∧ x6 ≤ 0) → (0 ≤ x7 ∧ x7 ≤ 7) → (1 ≤ x8 ∧ x8 ≤ 8) → ((-4) ≤ x9 ∧ x9 ≤ (-4)) → (0 ≤ x10 ∧ x10 ≤ 1000000) → ((-1000000) ≤ x11 ∧ x11 ≤ 1003700) → (0 ≤ x12 ∧ x12 ≤ 8) → (2 ≤ x13 ∧ x13 ≤ 2) → (0 ≤ x14 ∧ x14 ≤ 1) → (1 ≤ x15 ∧ x15 ≤ 17) → (0 ≤ x16 ∧ x16 ≤ 1000000) → (0 ≤ x17 ∧ x17 ≤ 1000) → ((-2000000) ≤ x18 ∧ x18 ≤ 1000) → (1 ≤ x19 ∧ x19 ≤ 2000000) → x16 + ((-1) * x11 + 0) = x19 → x11 + ((-1) * x16 + 0) = x18 → x2 + x12 = x15 → x2 + ((-1) * x12 + 0) = x13 → x3 + ((-1) * x10 + 0) = x11 → lc L' 0 122 → li L' 1 x1 → li L' 2 x2 → li L' 3 x3 → li L' 4 x4 → li L' 5 x5 → li L' 6 0 → li L' 7 (x7 + 1) → li L' 8 x11 → am_V none d 196 21 L' ([]) S Q)
    (k20 : ∀ (x8 x9 x10 x11 x12 x13 x14 x15 x16 x17 x18 x19 : Int) (L' : am_L), rd S 122 0 = x8 → x7 < x8 → rd S 130 x5 = x9 → x9 = (-4) → rd S 123 x7 = x10 → x10 ≤ x3 → x6 = 0 → rd S 125 x7 = x12 → x12 < x2 → rd S 124 x7 = x14 → x1 ≠ x14 → x13 ≠ 0 → x13 = 2 → 0 < x15 → rd S 127 x5 = x16 → rd S 128 x5 = x17 → x18 ≤ x17 → x19 ≤ x17 → (0 ≤ x1 ∧ x1 ≤ 1) → (1 ≤ x2 ∧ x2 ≤ 9) → (0 ≤ x3 ∧ x3 ≤ 1003700) → (0 ≤ x4 ∧ x4 ≤ 16) → (0 ≤ x5 ∧ x5 ≤ 15) → (0 ≤ x6 ∧ x6 ≤ 0) → (0 ≤ x7 ∧ x7 ≤ 7) → (1 ≤ x8 ∧ x8 ≤ 8) → ((-4) ≤ x9 ∧ x9 ≤ (-4)) → (0 ≤ x10 ∧ x10 ≤ 1000000) → ((-1000000) ≤ x11 ∧ x11 ≤ 1003700) → (0 ≤ x12 ∧ x12 ≤ 8) → (2 ≤ x13 ∧ x13 ≤ 2) → (0 ≤ x14 ∧ x14 ≤ 1) → (1 ≤ x15 ∧ x15 ≤ 17) → (0 ≤ x16 ∧ x16 ≤ 1000000) → (0 ≤ x17 ∧ x17 ≤ 1000) → ((-2000000) ≤ x18 ∧ x18 ≤ 1000) → ((-1003700) ≤ x19 ∧ x19 ≤ 1000) → x16 + ((-1) * x11 + 0) = x19 → x11 + ((-1) * x16 + 0) = x18 → x2 + x12 = x15 → x2 + ((-1) * x12 + 0) = x13 → x3 + ((-1) * x10 + 0) = x11 → lc L' 0 122 → li L' 1 x1 → li L' 2 x2 → li L' 3 x3 → li L' 4 x4 → li L' 5 x5 → li L' 6 1 → li L' 7 (x7 + 1) → li L' 8 x11 → am_V none d 196 21 L' ([]) S Q)
    (k21 : ∀ (x8 x9 x10 x11 : Int) (L' : am_L), rd S 122 0 = x8 → x7 < x8 → rd S 130 x5 = x9 → x9 = (-4) → rd S 123 x7 = x10 → x3 < x10 → x6 ≠ 0 → (0 ≤ x1 ∧ x1 ≤ 1) → (0 ≤ x2 ∧ x2 ≤ 9) → (0 ≤ x3 ∧ x3 ≤ 999999) → (0 ≤ x4 ∧ x4 ≤ 16) → (0 ≤ x5 ∧ x5 ≤ 15) → (1 ≤ x6 ∧ x6 ≤ 1) → (0 ≤ x7 ∧ x7 ≤ 7) → (1 ≤ x8 ∧ x8 ≤ 8) → ((-4) ≤ x9 ∧ x9 ≤ (-4)) → (1 ≤ x10 ∧ x10 ≤ 1000000) → ((-999998) ≤ x11 ∧ x11 ≤ 1000000) → x10 + ((-1) * x3 + 0) = x11 → lc L' 0 122 → li L' 1 x1 → li L' 2 x2 → li L' 3 x3 → li L' 4 x4 → li L' 5 x5 → li L' 6 1 → li L' 7 (x7 + 1) → li L' 8 x11 → am_V none d 196 21 L' ([]) S Q)
    (k22 : ∀ (x8 x9 x10 x11 x12 x14 : Int) (L' : am_L), rd S 122 0 = x8 → x7 < x8 → rd S 130 x5 = x9 → x9 = (-4) → rd S 123 x7 = x10 → x3 < x10 → x6 = 0 → rd S 125 x7 = x12 → x2 ≤ x12 → rd S 124 x7 = x14 → x1 = x14 → (0 ≤ x1 ∧ x1 ≤ 1) → (0 ≤ x2 ∧ x2 ≤ 9) → (0 ≤ x3 ∧ x3 ≤ 999999) → (0 ≤ x4 ∧ x4 ≤ 16) → (0 ≤ x5 ∧ x5 ≤ 15) → (0 ≤ x6 ∧ x6 ≤ 0) → (0 ≤ x7 ∧ x7 ≤ 7) → (1 ≤ x8 ∧ x8 ≤ 8) → ((-4) ≤ x9 ∧ x9 ≤ (-4)) → (1 ≤ x10 ∧ x10 ≤ 1000000) → ((-999998) ≤ x11 ∧ x11 ≤ 1000000) → (0 ≤ x12 ∧ x12 ≤ 9) → (0 ≤ x14 ∧ x14 ≤ 1) → x10 + ((-1) * x3 + 0) = x11 → lc L' 0 122 → li L' 1 x1 → li L' 2 x2 → li L' 3 x3 → li L' 4 x4 → li L' 5 x5 → li L' 6 0 → li L' 7 (x7 + 1) → li L' 8 x11 → am_V none d 196 21 L' ([]) S Q)
    (k23 : ∀ (x8 x9 x10 x11 x12 x13 x14 x15 : Int) (L' : am_L), rd S 122 0 = x8 → x7 < x8 → rd S 130 x5 = x9 → x9 = (-4) → rd S 123 x7 = x10 → x3 < x10 → x6 = 0 → rd S 125 x7 = x12 → x2 ≤ x12 → rd S 124 x7 = x14 → x1 ≠ x14 → x13 = 0 → x15 ≤ 0 → (0 ≤ x1 ∧ x1 ≤ 1) → (0 ≤ x2 ∧ x2 ≤ 9) → (0 ≤ x3 ∧ x3 ≤ 999999) → (0 ≤ x4 ∧ x4 ≤ 16) → (0 ≤ x5 ∧ x5 ≤ 15) → (0 ≤ x6 ∧ x6 ≤ 0) → (0 ≤ x7 ∧ x7 ≤ 7) → (1 ≤ x8 ∧ x8 ≤ 8) → ((-4) ≤ x9 ∧ x9 ≤ (-4)) → (1 ≤ x10 ∧ x10 ≤ 1000000) → ((-999998) ≤ x11 ∧ x11 ≤ 1000000) → (0 ≤ x12 ∧ x12 ≤ 9) → (0 ≤ x13 ∧ x13 ≤ 0) → (0 ≤ x14 ∧ x14 ≤ 1) → (0 ≤ x15 ∧ x15 ≤ 0) → x2 + x12 = x15 → x12 + ((-1) * x2 + 0) = x13 → x10 + ((-1) * x3 + 0) = x11 → lc L' 0 122 → li L' 1 x1 → li L' 2 x2 → li L' 3 x3 → li L' 4 x4 → li L' 5 x5 → li L' 6 0 → li L' 7 (x7 + 1) → li L' 8 x11 → am_V none d 196 21 L' ([]) S Q)
    (k24 : ∀ (x8 x9 x10 x11 x12 x13 x14 x15 x16 x17 x18 : Int) (L' : am_L), rd S 122 0 = x8 → x7 < x8 → rd S 130 x5 = x9 → x9 = (-4) → rd S 123 x7 = x10 → x3 < x10 → x6 = 0 → rd S 125 x7 = x12 → x2 ≤ x12 → rd S 124 x7 = x14 → x1 ≠ x14 → x13 = 0 → 0 < x15 → rd S 127 x5 = x16 → rd S 128 x5 = x17 → x17 < x18 → (0 ≤ x1 ∧ x1 ≤ 1) → (0 ≤ x2 ∧ x2 ≤ 9) → (0 ≤ x3 ∧ x3 ≤ 999999) → (0 ≤ x4 ∧ x4 ≤ 16) → (0 ≤ x5 ∧ x5 ≤ 15) → (0 ≤ x6 ∧ x6 ≤ 0) → (0 ≤ x7 ∧ x7 ≤ 7) → (1 ≤ x8 ∧ x8 ≤ 8) → ((-4) ≤ x9 ∧ x9 ≤ (-4)) → (1 ≤ x10 ∧ x10 ≤ 1000000) → ((-999998) ≤ x11 ∧ x11 ≤ 1000000) → (0 ≤ x12 ∧ x12 ≤ 9) → (0 ≤ x13 ∧ x13 ≤ 0) → (0 ≤ x14 ∧ x14 ≤ 1) → (1 ≤ x15 ∧ x15 ≤ 18) → (0 ≤ x16 ∧ x16 ≤ 1000000) → (0 ≤ x17 ∧ x17 ≤ 1000) → (1 ≤ x18 ∧ x18 ≤ 1000000) → x11 + ((-1) * x16 + 0) = x18 → x2 + x12 = x15 → x12 + ((-1) * x2 + 0) = x13 → x10 + ((-1) * x3 + 0) = x11 → lc L' 0 122 → li L' 1 x1 → li L' 2 x2 → li L' 3 x3 → li L' 4 x4 → li L' 5 x5 → li L' 6 0 → li L' 7 (x7 + 1) → li L' 8 x11 → am_V none d 196 21 L' ([]) S Q)
    (k25 : ∀ (x8 x9 x10 x11 x12 x13 x14 x15 x16 x17 x18 x19 : Int) (L' : am_L), rd S 122 0 = x8 → x7 < x8 → rd S 130 x5 = x9 → x9 = (-4) → rd S 123 x7 = x10 → x3 < x10 → x6 = 0 → rd S 125 x7 = x12 → x2 ≤ x12 → rd S 124 x7 = x14 → x1 ≠ x14 → x13 = 0 → 0 < x15 → rd S 127 x5 = x16 → rd S 128 x5 = x17 → x18 ≤ x17 → x17 < x19 → (0 ≤ x1 ∧ x1 ≤ 1) → (0 ≤ x2 ∧ x2 ≤ 9) → (0 ≤ x3 ∧ x3 ≤ 999999) → (0 ≤ x4 ∧ x4 ≤ 16) → (0 ≤ x5 ∧ x5 ≤ 15) → (0 ≤ x6 ∧ x6 ≤ 0) → (0 ≤ x7 ∧ x7 ≤ 7) → (1 ≤ x8 ∧ x8 ≤ 8) → ((-4) ≤ x9 ∧ x9 ≤ (-4)) → (1 ≤ x10 ∧ x10 ≤ 1000000) → ((-999998) ≤ x11 ∧ x11 ≤ 1000000) → (0 ≤ x12 ∧ x12 ≤ 9) → (0 ≤ x13 ∧ x13 ≤ 0) → (0 ≤ x14 ∧ x14 ≤ 1) → (1 ≤ x15 ∧ x15 ≤ 18) → (0 ≤ x16 ∧ x16 ≤ 1000000) → (0 ≤ x17 ∧ x17 ≤ 1000) → ((-1999998) ≤ x18 ∧ x18 ≤ 1000) → (1 ≤ x19 ∧ x19 ≤ 1999998) → x16 + ((-1) * x11 + 0) = x19 → x11 + ((-1) * x16 + 0) = x18 → x2 + x12 = x15 → x12 + ((-1) * x2 + 0) = x13 → x10 + ((-1) * x3 + 0) = x11 → lc L' 0 122 → li L' 1 x1 → li L' 2 x2 → li L' 3 x3 → li L' 4 x4 → li L' 5 x5 → li L' 6 0 → li L' 7 (x7 + 1) → li L' 8 x11 → am_V none d 196 21 L' ([]) S Q)
    (k26 : ∀ (x8 x9 x10 x11 x12 x13 x14 x15 x16 x17 x18 x19 : Int) (L' : am_L), rd S 122 0 = x8 → x7 < x8 → rd S 130 x5 = x9 → x9 = (-4) → rd S 123 x7 = x10 → x3 < x10 → x6 = 0 → rd S 125 x7 = x12 → x2 ≤ x12 → rd S 124 x7 = x14 → x1 ≠ x14 → x13 = 0 → 0 < x15 → rd S 127 x5 = x16 → rd S 128 x5 = x17 → x18 ≤ x17 → x19 ≤ x17 → (0 ≤ x1 ∧ x1 ≤ 1) → (0 ≤ x2 ∧ x2 ≤ 9) → (0 ≤ x3 ∧ x3 ≤ 999999) → (0 ≤ x4 ∧ x4 ≤ 16) → (0 ≤ x5 ∧ x5 ≤ 15) → (0 ≤ x6 ∧ x6 ≤ 0) → (0 ≤ x7 ∧ x7 ≤ 7) → (1 ≤ x8 ∧ x8 ≤ 8) → ((-4) ≤ x9 ∧ x9 ≤ (-4)) → (1 ≤ x10 ∧ x10 ≤ 1000000) → ((-999998) ≤ x11 ∧ x11 ≤ 1000000) → (0 ≤ x12 ∧ x12 ≤ 9) → (0 ≤ x13 ∧ x13 ≤ 0) → (0 ≤ x14 ∧ x14 ≤ 1) → (1 ≤ x15 ∧ x15 ≤ 18) → (0 ≤ x16 ∧ x16 ≤ 1000000) → (0 ≤ x17 ∧ x17 ≤ 1000) → ((-1999998) ≤ x18 ∧ x18 ≤ 1000) → ((-1000000) ≤ x19 ∧ x19 ≤ 1000) → x16 + ((-1) * x11 + 0) = x19 → x11 + ((-1) * x16 + 0) = x18 → x2 + x12 = x15 → x12 + ((-1) * x2 + 0) = x13 → x10 + ((-1) * x3 + 0) = x11 → lc L' 0 122 → li L' 1 x1 → li L' 2 x2 → li L' 3 x3 → li L' 4 x4 → li L' 5 x5 → li L' 6 1 → li L' 7 (x7 + 1) → li L' 8 x11 → am_V none d 196 21 L' ([]) S Q)
    (k27 : ∀ (x8 x9 x10 x11 x12 x13 x14 : Int) (L' : am_L), rd S 122 0 = x8 → x7 < x8 → rd S 130 x5 = x9 → x9 = (-4) → rd S 123 x7 = x10 → x3 < x10 → x6 = 0 → rd S 125 x7 = x12 → x2 ≤ x12 → rd S 124 x7 = x14 → x1 ≠ x14 → x13 ≠ 0 → x13 ≠ 2 → (0 ≤ x1 ∧ x1 ≤ 1) → (0 ≤ x2 ∧ x2 ≤ 9) → (0 ≤ x3 ∧ x3 ≤ 999999) → (0 ≤ x4 ∧ x4 ≤ 16) → (0 ≤ x5 ∧ x5 ≤ 15) → (0 ≤ x6 ∧ x6 ≤ 0) → (0 ≤ x7 ∧ x7 ≤ 7) → (1 ≤ x8 ∧ x8 ≤ 8) → ((-4) ≤ x9 ∧ x9 ≤ (-4)) → (1 ≤ x10 ∧ x10 ≤ 1000000) → ((-999998) ≤ x11 ∧ x11 ≤ 1000000) → (0 ≤ x12 ∧ x12 ≤ 9) → ((-9) ≤ x13 ∧ x13 ≤ (-1)) ∨ (1 ≤ x13 ∧ x13 ≤ 1) ∨ (3 ≤ x13 ∧ x13 ≤ 9) → (0 ≤ x14 ∧ x14 ≤ 1) → x12 + ((-1) * x2 + 0) = x13 → x10 + ((-1) * x3 + 0) = x11 → lc L' 0 122 → li L' 1 x1 → li L' 2 x2 → li L' 3 x3 → li L' 4 x4 → li L' 5 x5 → li L' 6 0 → li L' 7 (x7 + 1) → li L' 8 x11 → am_V none d 196 21 L' ([]) S Q)
    (k28 : ∀ (x8 x9 x10 x11 x12 x13 x14 x15 : Int) (L' : am_L), rd S 122 0 = x8 → x7 < x8 → rd S 130 x5 = x9 → x9 = (-4) → rd S 123 x7 = x10 → x3 < x10 → x6 = 0 → rd S 125 x7 = x12 → x2 ≤ x12 → rd S 124 x7 = x14 → x1 ≠ x14 → x13 ≠ 0 → x13 = 2 → x15 ≤ 0 → (0 ≤ x1 ∧ x1 ≤ 1) → (0 ≤ x2 ∧ x2 ≤ 9) → (0 ≤ x3 ∧ x3 ≤ 999999) → (0 ≤ x4 ∧ x4 ≤ 16) → (0 ≤ x5 ∧ x5 ≤ 15) → (0 ≤ x6 ∧ x6 ≤ 0) → (0 ≤ x7 ∧ x7 ≤ 7) → (1 ≤ x8 ∧ x8 ≤ 8) → ((-4) ≤ x9 ∧ x9 ≤ (-4)) → (1 ≤ x10 ∧ x10 ≤ 1000000) → ((-999998) ≤ x11 ∧ x11 ≤ 1000000) → (0 ≤ x12 ∧ x12 ≤ 9) → (2 ≤ x13 ∧ x13 ≤ 2) → (0 ≤ x14 ∧ x14 ≤ 1) → (0 ≤ x15 ∧ x15 ≤ 0) → x2 + x12 = x15 → x12 + ((-1) * x2 + 0) = x13 → x10 + ((-1) * x3 + 0) = x11 → lc L' 0 122 → li L' 1 x1 → li L' 2 x2 → li L' 3 x3 → li L' 4 x4 → li L' 5 x5 → li L' 6 0 → li L' 7 (x7 + 1) → li L' 8 x11 → am_V none d 196 21 L' ([]) S Q)
    (k29 : ∀ (x8 x9 x10 x11 x12 x13 x14 x15 x16 x17 x18 : Int) (L' : am_L), rd S 122 0 = x8 → x7 < x8 → rd S 130 x5 = x9 → x9 = (-4) → rd S 123 x7 = x10 → x3 < x10 → x6 = 0 → rd S 125 x7 = x12 → x2 ≤ x12 → rd S 124 x7 = x14 → x1 ≠ x14 → x13 ≠ 0 → x13 = 2 → 0 < x15 → rd S 127 x5 = x16 → rd S 128 x5 = x17 → x17 < x18 → (0 ≤ x1 ∧ x1 ≤ 1) → (0 ≤ x2 ∧ x2 ≤ 9) → (0 ≤ x3 ∧ x3 ≤ 999999) → (0 ≤ x4 ∧ x4 ≤ 16) → (0 ≤ x5 ∧ x5 ≤ 15) → (0 ≤ x6 ∧ x6 ≤ 0) → (0 ≤ x7 ∧ x7 ≤ 7) → (1 ≤ x8 ∧ x8 ≤ 8) → ((-4) ≤ x9 ∧ x9 ≤ (-4)) → (1 ≤ x10 ∧ x10 ≤ 1000000) → ((-999998) ≤ x11 ∧ x11 ≤ 1000000) → (0 ≤ x12 ∧ x12 ≤ 9) → (2 ≤ x13 ∧ x13 ≤ 2) → (0 ≤ x14 ∧ x14 ≤ 1) → (1 ≤ x15 ∧ x15 ≤ 18) → (0 ≤ x16 ∧ x16 ≤ 1000000) → (0 ≤ x17 ∧ x17 ≤ 1000) → (1 ≤ x18 ∧ x18 ≤ 1000000) → x11 + ((-1) * x16 + 0) = x18 → x2 + x12 = x15 → x12 + ((-1) * x2 + 0) = x13 → x10 + ((-1) * x3 + 0) = x11 → lc L' 0 122 → li L' 1 x1 → li L' 2 x2 → li L' 3 x3 → li L' 4 x4 → li L' 5 x5 → li L' 6 0 → li L' 7 (x7 + 1) → li L' 8 x11 → am_V none d 196 21 L' ([]) S Q)
    (k30 : ∀ (x8 x9 x10 x11 x12 x13 x14 x15 x16 x17 x18 x19 : Int) (L' : am_L), rd S 122 0 = x8 → x7 < x8 → rd S 130 x5 = x9 → x9 = (-4) → rd S 123 x7 = x10 → x3 < x10 → x6 = 0 → rd S 125 x7 = x12 → x2 ≤ x12 → rd S 124 x7 = x14 → x1 ≠ x14 → x13 ≠ 0 → x13 = 2 → 0 < x15 → rd S 127 x5 = x16 → rd S 128 x5 = x17 → x18 ≤ x17 → x17 < x19 → (0 ≤ x1 ∧ x1 ≤ 1) → (0 ≤ x2 ∧ x2 ≤ 9) → (0 ≤ x3 ∧ x3 ≤ 999999) → (0 ≤ x4 ∧ x4 ≤ 16) → (0 ≤ x5 ∧ x5 ≤ 15) → (0 ≤ x6 ∧ x6 ≤ 0) → (0 ≤ x7 ∧ x7 ≤ 7) → (1 ≤ x8 ∧ x8 ≤ 8) → ((-4) ≤ x9 ∧ x9 ≤ (-4)) → (1 ≤ x10 ∧ x10 ≤ 1000000) → ((-999998) ≤ x11 ∧ x11 ≤ 1000000) → (0 ≤ x12 ∧ x12 ≤ 9) → (2 ≤ x13 ∧ x13 ≤ 2) → (0 ≤ x14 ∧ x14 ≤ 1) → (1 ≤ x15 ∧ x15 ≤ 18) → (0 ≤ x16 ∧ x16 ≤ 1000000) → (0 ≤ x17 ∧ x17 ≤ 1000) → ((-1999998) ≤ x18 ∧ x18 ≤ 1000) → (1 ≤ x19 ∧ x19 ≤ 1999998) → x16 + ((-1) * x11 + 0) = x19 → x11 + ((-1) * x16 + 0) = x18 → x2 + x12 = x15 → x12 + ((-1) * x2 + 0) = x13 → x10 + ((-1) * x3 + 0) = x11 → lc L' 0 122 → li L' 1 x1 → li L' 2 x2 → li L' 3 x3 → li L' 4 x4 → li L' 5 x5 → li L' 6 0 → li L' 7 (x7 + 1) → li L' 8 x11 → am_V none d 196 21 L' ([]) S Q)
    (k31 : ∀ (x8 x9 x10 x11 x12 x13 x14 x15 x16 x17 x18 x19 : Int) (L' : am_L), rd S 122 0 = x8 → x7 < x8 → rd S 130 x5 = x9 → x9 = (-4) → rd S 123 x7 = x10 → x3 < x10 → x6 = 0 → rd S 125 x7 = x12 → x2 ≤ x12 → rd S 124 x7 = x14 → x1 ≠ x14 → x13 ≠ 0 → x13 = 2 → 0 < x15 → rd S 127 x5 = x16 → rd S 128 x5 = x17 → x18 ≤ x17 → x19 ≤ x17 → (0 ≤ x1 ∧ x1 ≤ 1) → (0 ≤ x2 ∧ x2 ≤ 9) → (0 ≤ x3 ∧ x3 ≤ 999999) → (0 ≤ x4 ∧ x4 ≤ 16) → (0 ≤ x5 ∧ x5 ≤ 15) → (0 ≤ x6 ∧ x6 ≤ 0) → (0 ≤ x7 ∧ x7 ≤ 7) → (1 ≤ x8 ∧ x8 ≤ 8) → ((-4) ≤ x9 ∧ x9 ≤ (-4)) → (1 ≤ x10 ∧ x10 ≤ 1000000) → ((-999998) ≤ x11 ∧ x11 ≤ 1000000) → (0 ≤ x12 ∧ x12 ≤ 9) → (2 ≤ x13 ∧ x13 ≤ 2) → (0 ≤ x14 ∧ x14 ≤ 1) → (1 ≤ x15 ∧ x15 ≤ 18) → (0 ≤ x16 ∧ x16 ≤ 1000000) → (0 ≤ x17 ∧ x17 ≤ 1000) → ((-1999998) ≤ x18 ∧ x18 ≤ 1000) → ((-1000000) ≤ x19 ∧ x19 ≤ 1000) → x16 + ((-1) * x11 + 0) = x19 → x11 + ((-1) * x16 + 0) = x18 → x2 + x12 = x15 → x12 + ((-1) * x2 + 0) = x13 → x10 + ((-1) * x3 + 0) = x11 → lc L' 0 122 → li L' 1 x1 → li L' 2 x2 → li L' 3 x3 → li L' 4 x4 → li L' 5 x5 → li L' 6 1 → li L' 7 (x7 + 1) → li L' 8 x11 → am_V none d 196 21 L' ([]) S Q)
    (k32 : ∀ (x8 x9 x10 x11 x12 x14 : Int) (L' : am_L), rd S 122 0 = x8 → x7 < x8 → rd S 130 x5 = x9 → x9 = (-4) → rd S 123 x7 = x10 → x3 < x10 → x6 = 0 → rd S 125 x7 = x12 → x12 < x2 → rd S 124 x7 = x14 → x1 = x14 → (0 ≤ x1 ∧ x1 ≤ 1) → (1 ≤ x2 ∧ x2 ≤ 9) → (0 ≤ x3 ∧ x3 ≤ 999999) → (0 ≤ x4 ∧ x4 ≤ 16) → (0 ≤ x5 ∧ x5 ≤ 15) → (0 ≤ x6 ∧ x6 ≤ 0) → (0 ≤ x7 ∧ x7 ≤ 7) → (1 ≤ x8 ∧ x8 ≤ 8) → ((-4) ≤ x9 ∧ x9 ≤ (-4)) → (1 ≤ x10 ∧ x10 ≤ 1000000) → ((-999998) ≤ x11 ∧ x11 ≤ 1000000) → (0 ≤ x12 ∧ x12 ≤ 8) → (0 ≤ x14 ∧ x14 ≤ 1) → x10 + ((-1) * x3 + 0) = x11 → lc L' 0 122 → li L' 1 x1 → li L' 2 x2 → li L' 3 x3 → li L' 4 x4 → li L' 5 x5 → li L' 6 0 → li L' 7 (x7 + 1) → li L' 8 x11 → am_V none d 196 21 L' ([]) S Q)
    (k33 : ∀ (x8 x9 x10 x11 x12 x13 x14 x15 x16 x17 x18 : Int) (L' : am_L), rd S 122 0 = x8 → x7 < x8 → rd S 130 x5 = x9 → x9 = (-4) → rd S 123 x7 = x10 → x3 < x10 → x6 = 0 → rd S 125 x7 = x12 → x12 < x2 → rd S 124 x7 = x14 → x1 ≠ x14 → x13 = 0 → 0 < x15 → rd S 127 x5 = x16 → rd S 128 x5 = x17 → x17 < x18 → (0 ≤ x1 ∧ x1 ≤ 1) → (1 ≤ x2 ∧ x2 ≤ 9) → (0 ≤ x3 ∧ x3 ≤ 999999) → (0 ≤ x4 ∧ x4 ≤ 16) → (0 ≤ x5 ∧ x5 ≤ 15) → (0 ≤ x6 ∧ x6 ≤ 0) → (0 ≤ x7 ∧ x7 ≤ 7) → (1 ≤ x8 ∧ x8 ≤ 8) → ((-4) ≤ x9 ∧ x9 ≤ (-4)) → (1 ≤ x10 ∧ x10 ≤ 1000000) → ((-999998) ≤ x11 ∧ x11 ≤ 1000000) → (0 ≤ x12 ∧ x12 ≤ 8) → (0 ≤ x13 ∧ x13 ≤ 0) → (0 ≤ x14 ∧ x14 ≤ 1) → (1 ≤ x15 ∧ x15 ≤ 17) → (0 ≤ x16 ∧ x16 ≤ 1000000) → (0 ≤ x17 ∧ x17 ≤ 1000) → (1 ≤ x18 ∧ x18 ≤ 1000000) → x11 + ((-1) * x16 + 0) = x18 → x2 + x12 = x15 → x2 + ((-1) * x12 + 0) = x13 → x10 + ((-1) * x3 + 0) = x11 → lc L' 0 122 → li L' 1 x1 → li L' 2 x2 → li L' 3 x3 → li L' 4 x4 → li L' 5 x5 → li L' 6 0 → li L' 7 (x7 + 1) → li L' 8 x11 → am_V none d 196 21 L' ([]) S Q)
    (k34 : ∀ (x8 x9 x10 x11 x12 x13 x14 x15 x16 x17 x18 x19 : Int) (L' : am_L), rd S 122 0 = x8 → x7 < x8 → rd S 130 x5 = x9 → x9 = (-4) → rd S 123 x7 = x10 → x3 < x10 → x6 = 0 → rd S 125 x7 = x12 → x12 < x2 → rd S 124 x7 = x14 → x1 ≠ x14 → x13 = 0 → 0 < x15 → rd S 127 x5 = x16 → rd S 128 x5 = x17 → x18 ≤ x17 → x17 < x19 → (0 ≤ x1 ∧ x1 ≤ 1) → (1 ≤ x2 ∧ x2 ≤ 9) → (0 ≤ x3 ∧ x3 ≤ 999999) → (0 ≤ x4 ∧ x4 ≤ 16) → (0 ≤ x5 ∧ x5 ≤ 15) → (0 ≤ x6 ∧ x6 ≤ 0) → (0 ≤ x7 ∧ x7 ≤ 7) → (1 ≤ x8 ∧ x8 ≤ 8) → ((-4) ≤ x9 ∧ x9 ≤ (-4)) → (1 ≤ x10 ∧ x10 ≤ 1000000) → ((-999998) ≤ x11 ∧ x11 ≤ 1000000) → (0 ≤ x12 ∧ x12 ≤ 8) → (0 ≤ x13 ∧ x13 ≤ 0) → (0 ≤ x14 ∧ x14 ≤ 1) → (1 ≤ x15 ∧ x15 ≤ 17) → (0 ≤ x16 ∧ x16 ≤ 1000000) → (0 ≤ x17 ∧ x17 ≤ 1000) → ((-1999998) ≤ x18 ∧ x18 ≤ 1000) → (1 ≤ x19 ∧ x19 ≤ 1999998) → x16 + ((-1) * x11 + 0) = x19 → x11 + ((-1) * x16 + 0) = x18 → x2 + x12 = x15 → x2 + ((-1) * x12 + 0) = x13 → x10 + ((-1) * x3 + 0) = x11 → lc L' 0 122 → li L' 1 x1 → li L' 2 x2 → li L' 3 x3 → li L' 4 x4 → li L' 5 x5 → li L' 6 0 → li L' 7 (x7 + 1) → li L' 8 x11 → am_V none d 196 21 L' ([]) S Q)
    (k35 : ∀ (x8 x9 x10 x11 x12 x13 x14 x15 x16 x17 x18 x19 : Int) (L' : am_L), rd S 122 0 = x8 → x7 < x8 → rd S 130 x5 = x9 → x9 = (-4) → rd S 123 x7 = x10 → x3 < x10 → x6 = 0 → rd S 125 x7 = x12 → x12 < x2 → rd S 124 x7 = x14 → x1 ≠ x14 → x13 = 0 → 0 < x15 → rd S 127 x5 = x16 → rd S 128 x5 = x17 → x18 ≤ x17 → x19 ≤ x17 → (0 ≤ x1 ∧ x1 ≤ 1) → (1 ≤ x2 ∧ x2 ≤ 9) → (0 ≤ x3 ∧ x3 ≤ 999999) → (0 ≤ x4 ∧ x4 ≤ 16) → (0 ≤ x5 ∧ x5 ≤ 15) → (0 ≤ x6 ∧ x6 ≤ 0) → (0 ≤ x7 ∧ x7 ≤ 7) → (1 ≤ x8 ∧ x8 ≤ 8) → ((-4) ≤ x9 ∧ x9 ≤ (-4)) → (1 ≤ x10 ∧ x10 ≤ 1000000) → ((-999998) ≤ x11 ∧ x11 ≤ 1000000) → (0 ≤ x12 ∧ x12 ≤ 8) → (0 ≤ x13 ∧ x13 ≤ 0) → (0 ≤ x14 ∧ x14 ≤ 1) → (1 ≤ x15 ∧ x15 ≤ 17) → (0 ≤ x16 ∧ x16 ≤ 1000000) → (0 ≤ x17 ∧ x17 ≤ 1000) → ((-1999998) ≤ x18 ∧ x18 ≤ 1000) → ((-1000000) ≤ x19 ∧ x19 ≤ 1000) → x16 + ((-1) * x11 + 0) = x19 → x11 + ((-1) * x16 + 0) = x18 → x2 + x12 = x15 → x2 + ((-1) * x12 + 0) = x13 → x10 + ((-1) * x3 + 0) = x11 → lc L' 0 122 → li L' 1 x1 → li L' 2 x2 → li L' 3 x3 → li L' 4 x4 → li L' 5 x5 → li L' 6 1 → li L' 7 (x7 + 1) → li L' 8 x11 → am_V none d 196 21 L' ([]) S Q)
    (k36 : ∀ (x8 x9 x10 x11 x12 x13 x14 : Int) (L' : am_L), rd S 122 0 = x8 → x7 < x8 → rd S 130 x5 = x9 → x9 = (-4) → rd S 123 x7 = x10 → x3 < x10 → x6 = 0 → rd S 125 x7 = x12 → x12 < x2 → rd S 124 x7 = x14 → x1 ≠ x14 → x13 ≠ 0 → x13 ≠ 2 → (0 ≤ x1 ∧ x1 ≤ 1) → (1 ≤ x2 ∧ x2 ≤ 9) → (0 ≤ x3 ∧ x3 ≤ 999999) → (0 ≤ x4 ∧ x4 ≤ 16) → (0 ≤ x5 ∧ x5 ≤ 15) → (0 ≤ x6 ∧ x6 ≤ 0) → (0 ≤ x7 ∧ x7 ≤ 7) → (1 ≤ x8 ∧ x8 ≤ 8) → ((-4) ≤ x9 ∧ x9 ≤ (-4)) → (1 ≤ x10 ∧ x10 ≤ 1000000) → ((-999998) ≤ x11 ∧ x11 ≤ 1000000) → (0 ≤ x12 ∧ x12 ≤ 8) → ((-7) ≤ x13 ∧ x13 ≤ (-1)) ∨ (1 ≤ x13 ∧ x13 ≤ 1) ∨ (3 ≤ x13 ∧ x13 ≤ 9) → (0 ≤ x14 ∧ x14 ≤ 1) → x2 + ((-1) * x12 + 0) = x13 → x10 + ((-1) * x3 + 0) = x11 → lc L' 0 122 → li L' 1 x1 → li L' 2 x2 → li L' 3 x3 → li L' 4 x4 → li L' 5 x5 → li L' 6 0 → li L' 7 (x7 + 1) → li L' 8 x11 → am_V none d 196 21 L' ([]) S Q)
    (k37 : ∀ (x8 x9 x10 x11 x12 x13 x14 x15 x16 x17 x18 : Int) (L' : am_L), rd S 122 0 = x8 → x7 < x8 → rd S 130 x5 = x9 → x9 = (-4) → rd S 123 x7 = x10 → x3 < x10 → x6 = 0 → rd S 125 x7 = x12 → x12 < x2 → rd S 124 x7 = x14 → x1 ≠ x14 → x13 ≠ 0 → x13 = 2 → 0 < x15 → rd S 127 x5 = x16 → rd S 128 x5 = x17 → x17 < x18 → (0 ≤ x1 ∧ x1 ≤ 1) → (1 ≤ x2 ∧ x2 ≤ 9) → (0 ≤ x3 ∧ x3 ≤ 999999) → (0 ≤ x4 ∧ x4 ≤ 16) → (0 ≤ x5 ∧ x5 ≤ 15) → (0 ≤ x6 ∧ x6 ≤ 0) → (0 ≤ x7 ∧ x7 ≤ 7) → (1 ≤ x8 ∧ x8 ≤ 8) → ((-4) ≤ x9 ∧ x9 ≤ (-4)) → (1 ≤ x10 ∧ x10 ≤ 1000000) → ((-999998) ≤ x11 ∧ x11 ≤ 1000000) → (0 ≤ x12 ∧ x12 ≤ 8) → (2 ≤ x13 ∧ x13 ≤ 2) → (0 ≤ x14 ∧ x14 ≤ 1) → (1 ≤ x15 ∧ x15 ≤ 17) → (0 ≤ x16 ∧ x16 ≤ 1000000) → (0 ≤ x17 ∧ x17 ≤ 1000) → (1 ≤ x18 ∧ x18 ≤ 1000000) → x11 + ((-1) * x16 + 0) = x18 → x2 + x12 = x15 → x2 + ((-1) * x12 + 0) = x13 → x10 + ((-1) * x3 + 0) = x11 → lc L' 0 122 → li L' 1 x1 → li L' 2 x2 → li L' 3 x3 → li L' 4 x4 → li L' 5 x5 → li L' 6 0 → li L' 7 (x7 + 1) → li L' 8 x11 → am_V none d 196 21 L' ([]) S Q)
    (k38 : ∀ (x8 x9 x10 x11 x12 x13 x14 x15 x16 x17 x18 x19 : Int) (L' : am_L), rd S 122 0 = x8 → x7 < x8 → rd S 130 x5 = x9 → x9 = (-4) → rd S 123 x7 = x10 → x3 < x10 → x6 = 0 → rd S 125 x7 = x12 → x12 < x2 → rd S 124 x7 = x14 → x1 ≠ x14 → x13 ≠ 0 → x13 = 2 → 0 < x15 → rd S 127 x5 = x16 → rd S 128 x5 = x17 → x18 ≤ x17 → x17 < x19 → (0 ≤ x1 ∧ x1 ≤ 1) → (1 ≤ x2 ∧ x2 ≤ 9) → (0 ≤ x3 ∧ x3 ≤ 999999) → (0 ≤ x4 ∧ x4 ≤ 16) → (0 ≤ x5 ∧ x5 ≤ 15) → (0 ≤ x6 ∧ x6 ≤ 0) → (0 ≤ x7 ∧ x7 ≤ 7) → (1 ≤ x8 ∧ x8 ≤ 8) → ((-4) ≤ x9 ∧ x9 ≤ (-4)) → (1 ≤ x10 ∧ x10 ≤ 1000000) → ((-999998) ≤ x11 ∧ x11 ≤ 1000000) → (0 ≤ x12 ∧ x12 ≤ 8) → (2 ≤ x13 ∧ x13 ≤ 2) → (0 ≤ x14 ∧ x14 ≤ 1) → (1 ≤ x15 ∧ x15 ≤ 17) → (0 ≤ x16 ∧ x16 ≤ 1000000) → (0 ≤ x17 ∧ x17 ≤ 1000) → ((-1999998) ≤ x18 ∧ x18 ≤ 1000) → (1 ≤ x19 ∧ x19 ≤ 1999998) → x16 + ((-1) * x11 + 0) = x19 → x11 + ((-1) * x16 + 0) = x18 → x2 + x12 = x15 → x2 + ((-1) * x12 + 0) = x13 → x10 + ((-1) * x3 + 0) = x11 → lc L' 0 122 → li L' 1 x1 → li L' 2 x2 → li L' 3 x3 → li L' 4 x4 → li L' 5 x5 → li L' 6 0 → li L' 7 (x7 + 1) → li L' 8 x11 → am_V none d 196 21 L' ([]) S Q)
    (k39 : ∀ (x8 x9 x10 x11 x12 x13 x14 x15 x16 x17 x18 x19 : Int) (L' : am_L), rd S 122 0 = x8 → x7 < x8 → rd S 130 x5 = x9 → x9 = (-4) → rd S 123 x7 = x10 → x3 < x10 → x6 = 0 → rd S 125 x7 = x12 → x12 < x2 → rd S 124 x7 = x14 → x1 ≠ x14 → x13 ≠ 0 → x13 = 2 → 0 < x15 → rd S 127 x5 = x16 → rd S 128 x5 = x17 → x18 ≤ x17 → x19 ≤ x17 → (0 ≤ x1 ∧ x1 ≤ 1) → (1 ≤ x2 ∧ x2 ≤ 9) → (0 ≤ x3 ∧ x3 ≤ 999999) → (0 ≤ x4 ∧ x4 ≤ 16) → (0 ≤ x5 ∧ x5 ≤ 15) → (0 ≤ x6 ∧ x6 ≤ 0) → (0 ≤ x7 ∧ x7 ≤ 7) → (1 ≤ x8 ∧ x8 ≤ 8) → ((-4) ≤ x9 ∧ x9 ≤ (-4)) → (1 ≤ x10 ∧ x10 ≤ 1000000) → ((-999998) ≤ x11 ∧ x11 ≤ 1000000) → (0 ≤ x12 ∧ x12 ≤ 8) → (2 ≤ x13 ∧ x13 ≤ 2) → (0 ≤ x14 ∧ x14 ≤ 1) → (1 ≤ x15 ∧ x15 ≤ 17) → (0 ≤ x16 ∧ x16 ≤ 1000000) → (0 ≤ x17 ∧ x17 ≤ 1000) → ((-1999998) ≤ x18 ∧ x18 ≤ 1000) → ((-1000000) ≤ x19 ∧ x19 ≤ 1000) → x16 + ((-1) * x11 + 0) = x19 → x11 + ((-1) * x16 + 0) = x18 → x2 + x12 = x15 → x2 + ((-1) * x12 + 0) = x13 → x10 + ((-1) * x3 + 0) = x11 → lc L' 0 122 → li L' 1 x1 → li L' 2 x2 → li L' 3 x3 → li L' 4 x4 → li L' 5 x5 → li L' 6 1 → li L' 7 (x7 + 1) → li L' 8 x11 → am_V none d 196 21 L' ([]) S Q)
    (k40 : ∀ (x8 x9 : Int) (L' : am_L), rd S 122 0 = x8 → x7 < x8 → rd S 130 x5 = x9 → x9 ≠ (-4) → x6 = 0 → (0 ≤ x1 ∧ x1 ≤ 1) → (0 ≤ x2 ∧ x2 ≤ 9) → (0 ≤ x3 ∧ x3 ≤ 1003700) → (0 ≤ x4 ∧ x4 ≤ 16) → (0 ≤ x5 ∧ x5 ≤ 15) → (0 ≤ x6 ∧ x6 ≤ 0) → (0 ≤ x7 ∧ x7 ≤ 7) → (1 ≤ x8 ∧ x8 ≤ 8) → (0 ≤ x9 ∧ x9 ≤ 7) → lc L' 0 122 → li L' 1 x1 → li L' 2 x2 → li L' 3 x3 → li L' 4 x4 → li L' 5 (x5 + 1) → li L' 6 0 → li L' 7 x7 → am_V none d 196 6 L' ([]) S Q)
    (k41 : ∀ (x8 x9 : Int) (L' : am_L), rd S 122 0 = x8 → x7 < x8 → rd S 130 x5 = x9 → x9 ≠ (-4) → x6 ≠ 0 → (0 ≤ x1 ∧ x1 ≤ 1) → (0 ≤ x2 ∧ x2 ≤ 9) → (0 ≤ x3 ∧ x3 ≤ 1003700) → (0 ≤ x4 ∧ x4 ≤ 16) → (0 ≤ x5 ∧ x5 ≤ 15) → (1 ≤ x6 ∧ x6 ≤ 1) → (0 ≤ x7 ∧ x7 ≤ 7) → (1 ≤ x8 ∧ x8 ≤ 8) → (0 ≤ x9 ∧ x9 ≤ 7) → lc L' 0 122 → li L' 1 x1 → li L' 2 x2 → li L' 3 x3 → li L' 4 (x4 + 1) → li L' 5 (x5 + 1) → li L' 6 1 → li L' 7 x7 → am_V none d 196 6 L' ([]) S Q) : am_V none d 196 21 L ([]) S Q := by
  refine sg_use sg_mo_c_g hd hP (sg_xs [0, x1, x2, x3, x4, x5, x6, x7]) ⟨⟨Int.le_refl 0, Int.le_refl 0⟩, b1, b2, b3, b4, b5, b6, b7, trivial⟩ trivial trivial trivial ⟨l0, l1, l2, l3, l4, l5, l6, l7, trivial⟩ trivial ?_
  intro z hz x' L' st' S' hx hP' hW hL' hs' hJ hE' hT' hD'
  have q1 : x' 1 = x1 := hx 1 (by decide)
  subst q1
  have q2 : x' 2 = x2 := hx 2 (by decide)
  subst q2
  have q3 : x' 3 = x3 := hx 3 (by decide)
  subst q3
  have q4 : x' 4 = x4 := hx 4 (by decide)
  subst q4
  have q5 : x' 5 = x5 := hx 5 (by decide)
  subst q5
  have q6 : x' 6 = x6 := hx 6 (by decide)
  subst q6
  have q7 : x' 7 = x7 := hx 7 (by decide)
  subst q7
  have eS : S' = S := hW.1 rfl
  subst eS
  simp only [sg_mo_c_Z, List.mem_cons, List.not_mem_nil, or_false] at hz
  rcases hz with rfl | rfl | rfl | rfl | rfl | rfl | rfl | rfl | rfl | rfl | rfl | rfl | rfl | rfl | rfl | rfl | rfl | rfl | rfl | rfl | rfl | rfl | rfl | rfl | rfl | rfl | rfl | rfl | rfl | rfl | rfl | rfl | rfl | rfl | rfl | rfl | rfl | rfl | rfl | rfl | rfl | rfl
  · obtain ⟨f0, f1, f2, hσ⟩ := hJ
    obtain ⟨e0, e1, e2, e3, e4, e5, e6, e7, -⟩ := hE'
    obtain ⟨p0, p1, p2, p3, p4, p5, p6, p7, -⟩ := hL'
    obtain rfl := sg_tn hs'
    exact k0 (x' 8) L' f0 f1 f2 e0 e1 e2 e3 e4 e5 e6 e7 p0 p1 p2 p3 p4 p5 p6 p7
  · obtain ⟨f0, f1, f2, hσ⟩ := hJ
    obtain ⟨e0, e1, e2, e3, e4, e5, e6, e7, -⟩ := hE'
    obtain ⟨p0, p1, p2, p3, p4, p5, p6, p7, -⟩ := hL'
    obtain rfl := sg_tn hs'
    exact k1 (x' 8) L' f0 f1 f2 e0 e1 e2 e3 e4 e5 e6 e7 p0 p1 p2 p3 p4 p5 p6 p7
  · obtain ⟨f0, f1, f2, f3, -, f5, f6, -, f8, hσ⟩ := hJ
    obtain ⟨e0, e1, e2, e3, e4, e5, e6, e7, e8, e9, e10, -⟩ := hE'
    obtain ⟨t0, -⟩ := hT'
    obtain ⟨p0, p1, p2, p3, p4, p5, p6, p7, p8, -⟩ := hL'
    obtain rfl := sg_tn hs'
    exact k2 (x' 8) (x' 9) (x' 10) (x' 11) L' f0 f1 f2 f3 f5 f6 f8 e0 e1 e2 e3 e4 e5 e6 e7 e8 e9 e10 t0 p0 p1 p2 p3 p4 p5 p6 p7 p8
  · obtain ⟨f0, f1, f2, f3, -, f5, f6, -, f8, f9, f10, -, f12, f13, -, hσ⟩ := hJ
    obtain ⟨e0, e1, e2, e3, e4, e5, e6, e7, e8, e9, e10, e11, e12, -⟩ := hE'
    obtain ⟨t0, -⟩ := hT'
    obtain ⟨p0, p1, p2, p3, p4, p5, p6, p7, p8, -⟩ := hL'
    obtain rfl := sg_tn hs'
    exact k3 (x' 8) (x' 9) (x' 10) (x' 11) (x' 12) (x' 14) L' f0 f1 f2 f3 f5 f6 f8 f9 f10 f12 f13 e0 e1 e2 e3 e4 e5 e6 e7 e8 e9 e10 e11 e12 t0 p0 p1 p2 p3 p4 p5 p6 p7 p8
  · obtain ⟨f0, f1, f2, f3, -, f5, f6, -, f8, f9, f10, -, f12, f13, f14, -, f16, -, hσ⟩ := hJ
    obtain ⟨e0, e1, e2, e3, e4, e5, e6, e7, e8, e9, e10, e11, e12, e13, e14, -⟩ := hE'
    obtain ⟨t0, t1, t2, -⟩ := hT'
    obtain ⟨p0, p1, p2, p3, p4, p5, p6, p7, p8, -⟩ := hL'
    obtain rfl := sg_tn hs'
    exact k4 (x' 8) (x' 9) (x' 10) (x' 11) (x' 12) (x' 13) (x' 14) (x' 15) L' f0 f1 f2 f3 f5 f6 f8 f9 f10 f12 f13 f14 f16 e0 e1 e2 e3 e4 e5 e6 e7 e8 e9 e10 e11 e12 e13 e14 t0 t1 t2 p0 p1 p2 p3 p4 p5 p6 p7 p8
  · obtain ⟨f0, f1, f2, f3, -, f5, f6, -, f8, f9, f10, -, f12, f13, f14, -, f16, -, f18, f19, f20, -, hσ⟩ := hJ
    obtain ⟨e0, e1, e2, e3, e4, e5, e6, e7, e8, e9, e10, e11, e12, e13, e14, e15, e16, e17, -⟩ := hE'
    obtain ⟨t0, t1, t2, t3, -⟩ := hT'
    obtain ⟨p0, p1, p2, p3, p4, p5, p6, p7, p8, -⟩ := hL'
    obtain rfl := sg_tn hs'
    exact k5 (x' 8) (x' 9) (x' 10) (x' 11) (x' 12) (x' 13) (x' 14) (x' 15) (x' 16) (x' 17) (x' 18) L' f0 f1 f2 f3 f5 f6 f8 f9 f10 f12 f13 f14 f16 f18 f19 f20 e0 e1 e2 e3 e4 e5 e6 e7 e8 e9 e10 e11 e12 e13 e14 e15 e16 e17 t0 t1 t2 t3 p0 p1 p2 p3 p4 p5 p6 p7 p8
  · obtain ⟨f0, f1, f2, f3, -, f5, f6, -, f8, f9, f10, -, f12, f13, f14, -, f16, -, f18, f19, f20, f21, -, hσ⟩ := hJ
    obtain ⟨e0, e1, e2, e3, e4, e5, e6, e7, e8, e9, e10, e11, e12, e13, e14, e15, e16, e17, e18, -⟩ := hE'
    obtain ⟨t0, t1, t2, t3, t4, -⟩ := hT'
    obtain ⟨p0, p1, p2, p3, p4, p5, p6, p7, p8, -⟩ := hL'
    obtain rfl := sg_tn hs'
    exact k6 (x' 8) (x' 9) (x' 10) (x' 11) (x' 12) (x' 13) (x' 14) (x' 15) (x' 16) (x' 17) (x' 18) (x' 19) L' f0 f1 f2 f3 f5 f6 f8 f9 f10 f12 f13 f14 f16 f18 f19 f20 f21 e0 e1 e2 e3 e4 e5 e6 e7 e8 e9 e10 e11 e12 e13 e14 e15 e16 e17 e18 t0 t1 t2 t3 t4 p0 p1 p2 p3 p4 p5 p6 p7 p8
  · obtain ⟨f0, f1, f2, f3, -, f5, f6, -, f8, f9, f10, -, f12, f13, f14, -, f16, -, f18, f19, f20, f21, -, hσ⟩ := hJ
    obtain ⟨e0, e1, e2, e3, e4, e5, e6, e7, e8, e9, e10, e11, e12, e13, e14, e15, e16, e17, e18, -⟩ := hE'
    obtain ⟨t0, t1, t2, t3, t4, -⟩ := hT'
    obtain ⟨p0, p1, p2, p3, p4, p5, p6, p7, p8, -⟩ := hL'
    obtain rfl := sg_tn hs'
    exact k7 (x' 8) (x' 9) (x' 10) (x' 11) (x' 12) (x' 13) (x' 14) (x' 15) (x' 16) (x' 17) (x' 18) (x' 19) L' f0 f1 f2 f3 f5 f6 f8 f9 f10 f12 f13 f14 f16 f18 f19 f20 f21 e0 e1 e2 e3 e4 e5 e6 e7 e8 e9 e10 e11 e12 e13 e14 e15 e16 e17 e18 t0 t1 t2 t3 t4 p0 p1 p2 p3 p4 p5 p6 p7 p8
  · obtain ⟨f0, f1, f2, f3, -, f5, f6, -, f8, f9, f10, -, f12, f13, f14, f15, -, hσ⟩ := hJ
    obtain ⟨e0, e1, e2, e3, e4, e5, e6, e7, e8, e9, e10, e11, e12, e13, -⟩ := hE'
    obtain ⟨t0, t1, -⟩ := hT'
    obtain ⟨p0, p1, p2, p3, p4, p5, p6, p7, p8, -⟩ := hL'
    obtain rfl := sg_tn hs'
    exact k8 (x' 8) (x' 9) (x' 10) (x' 11) (x' 12) (x' 13) (x' 14) L' f0 f1 f2 f3 f5 f6 f8 f9 f10 f12 f13 f14 f15 e0 e1 e2 e3 e4 e5 e6 e7 e8 e9 e10 e11 e12 e13 t0 t1 p0 p1 p2 p3 p4 p5 p6 p7 p8
  · obtain ⟨f0, f1, f2, f3, -, f5, f6, -, f8, f9, f10, -, f12, f13, f14, f15, -, f17, -, hσ⟩ := hJ
    obtain ⟨e0, e1, e2, e3, e4, e5, e6, e7, e8, e9, e10, e11, e12, e13, e14, -⟩ := hE'
    obtain ⟨t0, t1, t2, -⟩ := hT'
    obtain ⟨p0, p1, p2, p3, p4, p5, p6, p7, p8, -⟩ := hL'
    obtain rfl := sg_tn hs'
    exact k9 (x' 8) (x' 9) (x' 10) (x' 11) (x' 12) (x' 13) (x' 14) (x' 15) L' f0 f1 f2 f3 f5 f6 f8 f9 f10 f12 f13 f14 f15 f17 e0 e1 e2 e3 e4 e5 e6 e7 e8 e9 e10 e11 e12 e13 e14 t0 t1 t2 p0 p1 p2 p3 p4 p5 p6 p7 p8
  · obtain ⟨f0, f1, f2, f3, -, f5, f6, -, f8, f9, f10, -, f12, f13, f14, f15, -, f17, -, f19, f20, f21, -, hσ⟩ := hJ
    obtain ⟨e0, e1, e2, e3, e4, e5, e6, e7, e8, e9, e10, e11, e12, e13, e14, e15, e16, e17, -⟩ := hE'
    obtain ⟨t0, t1, t2, t3, -⟩ := hT'
    obtain ⟨p0, p1, p2, p3, p4, p5, p6, p7, p8, -⟩ := hL'
    obtain rfl := sg_tn hs'
    exact k10 (x' 8) (x' 9) (x' 10) (x' 11) (x' 12) (x' 13) (x' 14) (x' 15) (x' 16) (x' 17) (x' 18) L' f0 f1 f2 f3 f5 f6 f8 f9 f10 f12 f13 f14 f15 f17 f19 f20 f21 e0 e1 e2 e3 e4 e5 e6 e7 e8 e9 e10 e11 e12 e13 e14 e15 e16 e17 t0 t1 t2 t3 p0 p1 p2 p3 p4 p5 p6 p7 p8
  · obtain ⟨f0, f1, f2, f3, -, f5, f6, -, f8, f9, f10, -, f12, f13, f14, f15, -, f17, -, f19, f20, f21, f22, -, hσ⟩ := hJ
    obtain ⟨e0, e1, e2, e3, e4, e5, e6, e7, e8, e9, e10, e11, e12, e13, e14, e15, e16, e17, e18, -⟩ := hE'
    obtain ⟨t0, t1, t2, t3, t4, -⟩ := hT'
    obtain ⟨p0, p1, p2, p3, p4, p5, p6, p7, p8, -⟩ := hL'
    obtain rfl := sg_tn hs'
    exact k11 (x' 8) (x' 9) (x' 10) (x' 11) (x' 12) (x' 13) (x' 14) (x' 15) (x' 16) (x' 17) (x' 18) (x' 19) L' f0 f1 f2 f3 f5 f6 f8 f9 f10 f12 f13 f14 f15 f17 f19 f20 f21 f22 e0 e1 e2 e3 e4 e5 e6 e7 e8 e9 e10 e11 e12 e13 e14 e15 e16 e17 e18 t0 t1 t2 t3 t4 p0 p1 p2 p3 p4 p5 p6 p7 p8
  · obtain ⟨f0, f1, f2, f3, -, f5, f6, -, f8, f9, f10, -, f12, f13, f14, f15, -, f17, -, f19, f20, f21, f22, -, hσ⟩ := hJ
    obtain ⟨e0, e1, e2, e3, e4, e5, e6, e7, e8, e9, e10, e11, e12, e13, e14, e15, e16, e17, e18, -⟩ := hE'
    obtain ⟨t0, t1, t2, t3, t4, -⟩ := hT'
    obtain ⟨p0, p1, p2, p3, p4, p5, p6, p7, p8, -⟩ := hL'
    obtain rfl := sg_tn hs'
    exact k12 (x' 8) (x' 9) (x' 10) (x' 11) (x' 12) (x' 13) (x' 14) (x' 15) (x' 16) (x' 17) (x' 18) (x' 19) L' f0 f1 f2 f3 f5 f6 f8 f9 f10 f12 f13 f14 f15 f17 f19 f20 f21 f22 e0 e1 e2 e3 e4 e5 e6 e7 e8 e9 e10 e11 e12 e13 e14 e15 e16 e17 e18 t0 t1 t2 t3 t4 p0 p1 p2 p3 p4 p5 p6 p7 p8
  · obtain ⟨f0, f1, f2, f3, -, f5, f6, -, f8, f9, f10, -, f12, f13, -, hσ⟩ := hJ
    obtain ⟨e0, e1, e2, e3, e4, e5, e6, e7, e8, e9, e10, e11, e12, -⟩ := hE'
    obtain ⟨t0, -⟩ := hT'
    obtain ⟨p0, p1, p2, p3, p4, p5, p6, p7, p8, -⟩ := hL'
    obtain rfl := sg_tn hs'
    exact k13 (x' 8) (x' 9) (x' 10) (x' 11) (x' 12) (x' 14) L' f0 f1 f2 f3 f5 f6 f8 f9 f10 f12 f13 e0 e1 e2 e3 e4 e5 e6 e7 e8 e9 e10 e11 e12 t0 p0 p1 p2 p3 p4 p5 p6 p7 p8
  · obtain ⟨f0, f1, f2, f3, -, f5, f6, -, f8, f9, f10, -, f12, f13, f14, -, f16, -, f18, f19, f20, -, hσ⟩ := hJ
    obtain ⟨e0, e1, e2, e3, e4, e5, e6, e7, e8, e9, e10, e11, e12, e13, e14, e15, e16, e17, -⟩ := hE'
    obtain ⟨t0, t1, t2, t3, -⟩ := hT'
    obtain ⟨p0, p1, p2, p3, p4, p5, p6, p7, p8, -⟩ := hL'
    obtain rfl := sg_tn hs'
    exact k14 (x' 8) (x' 9) (x' 10) (x' 11) (x' 12) (x' 13) (x' 14) (x' 15) (x' 16) (x' 17) (x' 18) L' f0 f1 f2 f3 f5 f6 f8 f9 f10 f12 f13 f14 f16 f18 f19 f20 e0 e1 e2 e3 e4 e5 e6 e7 e8 e9 e10 e11 e12 e13 e14 e15 e16 e17 t0 t1 t2 t3 p0 p1 p2 p3 p4 p5 p6 p7 p8
  · obtain ⟨f0, f1, f2, f3, -, f5, f6, -, f8, f9, f10, -, f12, f13, f14, -, f16, -, f18, f19, f20, f21, -, hσ⟩ := hJ
    obtain ⟨e0, e1, e2, e3, e4, e5, e6, e7, e8, e9, e10, e11, e12, e13, e14, e15, e16, e17, e18, -⟩ := hE'
    obtain ⟨t0, t1, t2, t3, t4, -⟩ := hT'
    obtain ⟨p0, p1, p2, p3, p4, p5, p6, p7, p8, -⟩ := hL'
    obtain rfl := sg_tn hs'
    exact k15 (x' 8) (x' 9) (x' 10) (x' 11) (x' 12) (x' 13) (x' 14) (x' 15) (x' 16) (x' 17) (x' 18) (x' 19) L' f0 f1 f2 f3 f5 f6 f8 f9 f10 f12 f13 f14 f16 f18 f19 f20 f21 e0 e1 e2 e3 e4 e5 e6 e7 e8 e9 e10 e11 e12 e13 e14 e15 e16 e17 e18 t0 t1 t2 t3 t4 p0 p1 p2 p3 p4 p5 p6 p7 p8
  · obtain ⟨f0, f1, f2, f3, -, f5, f6, -, f8, f9, f10, -, f12, f13, f14, -, f16, -, f18, f19, f20, f21, -, hσ⟩ := hJ
    obtain ⟨e0, e1, e2, e3, e4, e5, e6, e7, e8, e9, e10, e11, e12, e13, e14, e15, e16, e17, e18, -⟩ := hE'
    obtain ⟨t0, t1, t2, t3, t4, -⟩ := hT'
    obtain ⟨p0, p1, p2, p3, p4, p5, p6, p7, p8, -⟩ := hL'
    obtain rfl := sg_tn hs'
    exact k16 (x' 8) (x' 9) (x' 10) (x' 11) (x' 12) (x' 13) (x' 14) (x' 15) (x' 16) (x' 17) (x' 18) (x' 19) L' f0 f1 f2 f3 f5 f6 f8 f9 f10 f12 f13 f14 f16 f18 f19 f20 f21 e0 e1 e2 e3 e4 e5 e6 e7 e8 e9 e10 e11 e12 e13 e14 e15 e16 e17 e18 t0 t1 t2 t3 t4 p0 p1 p2 p3 p4 p5 p6 p7 p8
  · obtain ⟨f0, f1, f2, f3, -, f5, f6, -, f8, f9, f10, -, f12, f13, f14, f15, -, hσ⟩ := hJ
    obtain ⟨e0, e1, e2, e3, e4, e5, e6, e7, e8, e9, e10, e11, e12, e13, -⟩ := hE'
    obtain ⟨t0, t1, -⟩ := hT'
    obtain ⟨p0, p1, p2, p3, p4, p5, p6, p7, p8, -⟩ := hL'
    obtain rfl := sg_tn hs'
    exact k17 (x' 8) (x' 9) (x' 10) (x' 11) (x' 12) (x' 13) (x' 14) L' f0 f1 f2 f3 f5 f6 f8 f9 f10 f12 f13 f14 f15 e0 e1 e2 e3 e4 e5 e6 e7 e8 e9 e10 e11 e12 e13 t0 t1 p0 p1 p2 p3 p4 p5 p6 p7 p8
  · obtain ⟨f0, f1, f2, f3, -, f5, f6, -, f8, f9, f10, -, f12, f13, f14, f15, -, f17, -, f19, f20, f21, -, hσ⟩ := hJ
    obtain ⟨e0, e1, e2, e3, e4, e5, e6, e7, e8, e9, e10, e11, e12, e13, e14, e15, e16, e17, -⟩ := hE'
    obtain ⟨t0, t1, t2, t3, -⟩ := hT'
    obtain ⟨p0, p1, p2, p3, p4, p5, p6, p7, p8, -⟩ := hL'
    obtain rfl := sg_tn hs'
    exact k18 (x' 8) (x' 9) (x' 10) (x' 11) (x' 12) (x' 13) (x' 14) (x' 15) (x' 16) (x' 17) (x' 18) L' f0 f1 f2 f3 f5 f6 f8 f9 f10 f12 f13 f14 f15 f17 f19 f20 f21 e0 e1 e2 e3 e4 e5 e6 e7 e8 e9 e10 e11 e12 e13 e14 e15 e16 e17 t0 t1 t2 t3 p0 p1 p2 p3 p4 p5 p6 p7 p8
  · obtain ⟨f0, f1, f2, f3, -, f5, f6, -, f8, f9, f10, -, f12, f13, f14, f15, -, f17, -, f19, f20, f21, f22, -, hσ⟩ := hJ
    obtain ⟨e0, e1, e2, e3, e4, e5, e6, e7, e8, e9, e10, e11, e12, e13, e14, e15, e16, e17, e18, -⟩ := hE'
    obtain ⟨t0, t1, t2, t3, t4, -⟩ := hT'
    obtain ⟨p0, p1, p2, p3, p4, p5, p6, p7, p8, -⟩ := hL'
    obtain rfl := sg_tn hs'
    exact k19 (x' 8) (x' 9) (x' 10) (x' 11) (x' 12) (x' 13) (x' 14) (x' 15) (x' 16) (x' 17) (x' 18) (x' 19) L' f0 f1 f2 f3 f5 f6 f8 f9 f10 f12 f13 f14 f15 f17 f19 f20 f21 f22 e0 e1 e2 e3 e4 e5 e6 e7 e8 e9 e10 e11 e12 e13 e14 e15 e16 e17 e18 t0 t1 t2 t3 t4 p0 p1 p2 p3 p4 p5 p6 p7 p8
  · obtain ⟨f0, f1, f2, f3, -, f5, f6, -, f8, f9, f10, -, f12, f13, f14, f15, -, f17, -, f19, f20, f21, f22, -, hσ⟩ := hJ
    obtain ⟨e0, e1, e2, e3, e4, e5, e6, e7, e8, e9, e10, e11, e12, e13, e14, e15, e16, e17, e18, -⟩ := hE'
    obtain ⟨t0, t1, t2, t3, t4, -⟩ := hT'
    obtain ⟨p0, p1, p2, p3, p4, p5, p6, p7, p8, -⟩ := hL'
    obtain rfl := sg_tn hs'
    exact k20 (x' 8) (x' 9) (x' 10) (x' 11) (x' 12) (x' 13) (x' 14) (x' 15) (x' 16) (x' 17) (x' 18) (x' 19) L' f0 f1 f2 f3 f5 f6 f8 f9 f10 f12 f13 f14 f15 f17 f19 f20 f21 f22 e0 e1 e2 e3 e4 e5 e6 e7 e8 e9 e10 e11 e12 e13 e14 e15 e16 e17 e18 t0 t1 t2 t3 t4 p0 p1 p2 p3 p4 p5 p6 p7 p8
  · obtain ⟨f0, f1, f2, f3, -, f5, f6, -, f8, hσ⟩ := hJ
    obtain ⟨e0, e1, e2, e3, e4, e5, e6, e7, e8, e9, e10, -⟩ := hE'
    obtain ⟨t0, -⟩ := hT'
    obtain ⟨p0, p1, p2, p3, p4, p5, p6, p7, p8, -⟩ := hL'
    obtain rfl := sg_tn hs'
    exact k21 (x' 8) (x' 9) (x' 10) (x' 11) L' f0 f1 f2 f3 f5 f6 f8 e0 e1 e2 e3 e4 e5 e6 e7 e8 e9 e10 t0 p0 p1 p2 p3 p4 p5 p6 p7 p8
  · obtain ⟨f0, f1, f2, f3, -, f5, f6, -, f8, f9, f10, -, f12, f13, -, hσ⟩ := hJ
    obtain ⟨e0, e1, e2, e3, e4, e5, e6, e7, e8, e9, e10, e11, e12, -⟩ := hE'
    obtain ⟨t0, -⟩ := hT'
    obtain ⟨p0, p1, p2, p3, p4, p5, p6, p7, p8, -⟩ := hL'
    obtain rfl := sg_tn hs'
    exact k22 (x' 8) (x' 9) (x' 10) (x' 11) (x' 12) (x' 14) L' f0 f1 f2 f3 f5 f6 f8 f9 f10 f12 f13 e0 e1 e2 e3 e4 e5 e6 e7 e8 e9 e10 e11 e12 t0 p0 p1 p2 p3 p4 p5 p6 p7 p8
  · obtain ⟨f0, f1, f2, f3, -, f5, f6, -, f8, f9, f10, -, f12, f13, f14, -, f16, -, hσ⟩ := hJ
    obtain ⟨e0, e1, e2, e3, e4, e5, e6, e7, e8, e9, e10, e11, e12, e13, e14, -⟩ := hE'
    obtain ⟨t0, t1, t2, -⟩ := hT'
    obtain ⟨p0, p1, p2, p3, p4, p5, p6, p7, p8, -⟩ := hL'
    obtain rfl := sg_tn hs'
    exact k23 (x' 8) (x' 9) (x' 10) (x' 11) (x' 12) (x' 13) (x' 14) (x' 15) L' f0 f1 f2 f3 f5 f6 f8 f9 f10 f12 f13 f14 f16 e0 e1 e2 e3 e4 e5 e6 e7 e8 e9 e10 e11 e12 e13 e14 t0 t1 t2 p0 p1 p2 p3 p4 p5 p6 p7 p8
  · obtain ⟨f0, f1, f2, f3, -, f5, f6, -, f8, f9, f10, -, f12, f13, f14, -, f16, -, f18, f19, f20, -, hσ⟩ := hJ
    obtain ⟨e0, e1, e2, e3, e4, e5, e6, e7, e8, e9, e10, e11, e12, e13, e14, e15, e16, e17, -⟩ := hE'
    obtain ⟨t0, t1, t2, t3, -⟩ := hT'
    obtain ⟨p0, p1, p2, p3, p4, p5, p6, p7, p8, -⟩ := hL'
    obtain rfl := sg_tn hs'
    exact k24 (x' 8) (x' 9) (x' 10) (x' 11) (x' 12) (x' 13) (x' 14) (x' 15) (x' 16) (x' 17) (x' 18) L' f0 f1 f2 f3 f5 f6 f8 f9 f10 f12 f13 f14 f16 f18 f19 f20 e0 e1 e2 e3 e4 e5 e6 e7 e8 e9 e10 e11 e12 e13 e14 e15 e16 e17 t0 t1 t2 t3 p0 p1 p2 p3 p4 p5 p6 p7 p8
  · obtain ⟨f0, f1, f2, f3, -, f5, f6, -, f8, f9, f10, -, f12, f13, f14, -, f16, -, f18, f19, f20, f21, -, hσ⟩ := hJ
    obtain ⟨e0, e1, e2, e3, e4, e5, e6, e7, e8, e9, e10, e11, e12, e13, e14, e15, e16, e17, e18, -⟩ := hE'
    obtain ⟨t0, t1, t2, t3, t4, -⟩ := hT'
    obtain ⟨p0, p1, p2, p3, p4, p5, p6, p7, p8, -⟩ := hL'
    obtain rfl := sg_tn hs'
    exact k25 (x' 8) (x' 9) (x' 10) (x' 11) (x' 12) (x' 13) (x' 14) (x' 15) (x' 16) (x' 17) (x' 18) (x' 19) L' f0 f1 f2 f3 f5 f6 f8 f9 f10 f12 f13 f14 f16 f18 f19 f20 f21 e0 e1 e2 e3 e4 e5 e6 e7 e8 e9 e10 e11 e12 e13 e14 e15 e16 e17 e18 t0 t1 t2 t3 t4 p0 p1 p2 p3 p4 p5 p6 p7 p8
  · obtain ⟨f0, f1, f2, f3, -, f5, f6, -, f8, f9, f10, -, f12, f13, f14, -, f16, -, f18, f19, f20, f21, -, hσ⟩ := hJ
    obtain ⟨e0, e1, e2, e3, e4, e5, e6, e7, e8, e9, e10, e11, e12, e13, e14, e15, e16, e17, e18, -⟩ := hE'
    obtain ⟨t0, t1, t2, t3, t4, -⟩ := hT'
    obtain ⟨p0, p1, p2, p3, p4, p5, p6, p7, p8, -⟩ := hL'
    obtain rfl := sg_tn hs'
    exact k26 (x' 8) (x' 9) (x' 10) (x' 11) (x' 12) (x' 13) (x' 14) (x' 15) (x' 16) (x' 17) (x' 18) (x' 19) L' f0 f1 f2 f3 f5 f6 f8 f9 f10 f12 f13 f14 f16 f18 f19 f20 f21 e0 e1 e2 e3 e4 e5 e6 e7 e8 e9 e10 e11 e12 e13 e14 e15 e16 e17 e18 t0 t1 t2 t3 t4 p0 p1 p2 p3 p4 p5 p6 p7 p8
  · obtain ⟨f0, f1, f2, f3, -, f5, f6, -, f8, f9, f10, -, f12, f13, f14, f15, -, hσ⟩ := hJ
    obtain ⟨e0, e1, e2, e3, e4, e5, e6, e7, e8, e9, e10, e11, e12, e13, -⟩ := hE'
    obtain ⟨t0, t1, -⟩ := hT'
    obtain ⟨p0, p1, p2, p3, p4, p5, p6, p7, p8, -⟩ := hL'
    obtain rfl := sg_tn hs'
    exact k27 (x' 8) (x' 9) (x' 10) (x' 11) (x' 12) (x' 13) (x' 14) L' f0 f1 f2 f3 f5 f6 f8 f9 f10 f12 f13 f14 f15 e0 e1 e2 e3 e4 e5 e6 e7 e8 e9 e10 e11 e12 e13 t0 t1 p0 p1 p2 p3 p4 p5 p6 p7 p8
  · obtain ⟨f0, f1, f2, f3, -, f5, f6, -, f8, f9, f10, -, f12, f13, f14, f15, -, f17, -, hσ⟩ := hJ
    obtain ⟨e0, e1, e2, e3, e4, e5, e6, e7, e8, e9, e10, e11, e12, e13, e14, -⟩ := hE'
    obtain ⟨t0, t1, t2, -⟩ := hT'
    obtain ⟨p0, p1, p2, p3, p4, p5, p6, p7, p8, -⟩ := hL'
    obtain rfl := sg_tn hs'
    exact k28 (x' 8) (x' 9) (x' 10) (x' 11) (x' 12) (x' 13) (x' 14) (x' 15) L' f0 f1 f2 f3 f5 f6 f8 f9 f10 f12 f13 f14 f15 f17 e0 e1 e2 e3 e4 e5 e6 e7 e8 e9 e10 e11 e12 e13 e14 t0 t1 t2 p0 p1 p2 p3 p4 p5 p6 p7 p8
  · obtain ⟨f0, f1, f2, f3, -, f5, f6, -, f8, f9, f10, -, f12, f13, f14, f15, -, f17, -, f19, f20, f21, -, hσ⟩ := hJ
    obtain ⟨e0, e1, e2, e3, e4, e5, e6, e7, e8, e9, e10, e11, e12, e13, e14, e15, e16, e17, -⟩ := hE'
    obtain ⟨t0, t1, t2, t3, -⟩ := hT'
    obtain ⟨p0, p1, p2, p3, p4, p5, p6, p7, p8, -⟩ := hL'
    obtain rfl := sg_tn hs'
    exact k29 (x' 8) (x' 9) (x' 10) (x' 11) (x' 12) (x' 13) (x' 14) (x' 15) (x' 16) (x' 17) (x' 18) L' f0 f1 f2 f3 f5 f6 f8 f9 f10 f12 f13 f14 f15 f17 f19 f20 f21 e0 e1 e2 e3 e4 e5 e6 e7 e8 e9 e10 e11 e12 e13 e14 e15 e16 e17 t0 t1 t2 t3 p0 p1 p2 p3 p4 p5 p6 p7 p8
  · obtain ⟨f0, f1, f2, f3, -, f5, f6, -, f8, f9, f10, -, f12, f13, f14, f15, -, f17, -, f19, f20, f21, f22, -, hσ⟩ := hJ
    obtain ⟨e0, e1, e2, e3, e4, e5, e6, e7, e8, e9, e10, e11, e12, e13, e14, e15, e16, e17, e18, -⟩ := hE'
    obtain ⟨t0, t1, t2, t3, t4, -⟩ := hT'
    obtain ⟨p0, p1, p2, p3, p4, p5, p6, p7, p8, -⟩ := hL'
    obtain rfl := sg_tn hs'
    exact k30 (x' 8) (x' 9) (x' 10) (x' 11) (x' 12) (x' 13) (x' 14) (x' 15) (x' 16) (x' 17) (x' 18) (x' 19) L' f0 f1 f2 f3 f5 f6 f8 f9 f10 f12 f13 f14 f15 f17 f19 f20 f21 f22 e0 e1 e2 e3 e4 e5 e6 e7 e8 e9 e10 e11 e12 e13 e14 e15 e16 e17 e18 t0 t1 t2 t3 t4 p0 p1 p2 p3 p4 p5 p6 p7 p8
  · obtain ⟨f0, f1, f2, f3, -, f5, f6, -, f8, f9, f10, -, f12, f13, f14, f15, -, f17, -, f19, f20, f21, f22, -, hσ⟩ := hJ
    obtain ⟨e0, e1, e2, e3, e4, e5, e6, e7, e8, e9, e10, e11, e12, e13, e14, e15, e16, e17, e18, -⟩ := hE'
    obtain ⟨t0, t1, t2, t3, t4, -⟩ := hT'
    obtain ⟨p0, p1, p2, p3, p4, p5, p6, p7, p8, -⟩ := hL'
    obtain rfl := sg_tn hs'
    exact k31 (x' 8) (x' 9) (x' 10) (x' 11) (x' 12) (x' 13) (x' 14) (x' 15) (x' 16) (x' 17) (x' 18) (x' 19) L' f0 f1 f2 f3 f5 f6 f8 f9 f10 f12 f13 f14 f15 f17 f19 f20 f21 f22 e0 e1 e2 e3 e4 e5 e6 e7 e8 e9 e10 e11 e12 e13 e14 e15 e16 e17 e18 t0 t1 t2 t3 t4 p0 p1 p2 p3 p4 p5 p6 p7 p8
  · obtain ⟨f0, f1, f2, f3, -, f5, f6, -, f8, f9, f10, -, f12, f13, -, hσ⟩ := hJ
    obtain ⟨e0, e1, e2, e3, e4, e5, e6, e7, e8, e9, e10, e11, e12, -⟩ := hE'
    obtain ⟨t0, -⟩ := hT'
    obtain ⟨p0, p1, p2, p3, p4, p5, p6, p7, p8, -⟩ := hL'
    obtain rfl := sg_tn hs'
    exact k32 (x' 8) (x' 9) (x' 10) (x' 11) (x' 12) (x' 14) L' f0 f1 f2 f3 f5 f6 f8 f9 f10 f12 f13 e0 e1 e2 e3 e4 e5 e6 e7 e8 e9 e10 e11 e12 t0 p0 p1 p2 p3 p4 p5 p6 p7 p8
  · obtain ⟨f0, f1, f2, f3, -, f5, f6, -, f8, f9, f10, -, f12, f13, f14, -, f16, -, f18, f19, f20, -, hσ⟩ := hJ
    obtain ⟨e0, e1, e2, e3, e4, e5, e6, e7, e8, e9, e10, e11, e12, e13, e14, e15, e16, e17, -⟩ := hE'
    obtain ⟨t0, t1, t2, t3, -⟩ := hT'
    obtain ⟨p0, p1, p2, p3, p4, p5, p6, p7, p8, -⟩ := hL'
    obtain rfl := sg_tn hs'
    exact k33 (x' 8) (x' 9) (x' 10) (x' 11) (x' 12) (x' 13) (x' 14) (x' 15) (x' 16) (x' 17) (x' 18) L' f0 f1 f2 f3 f5 f6 f8 f9 f10 f12 f13 f14 f16 f18 f19 f20 e0 e1 e2 e3 e4 e5 e6 e7 e8 e9 e10 e11 e12 e13 e14 e15 e16 e17 t0 t1 t2 t3 p0 p1 p2 p3 p4 p5 p6 p7 p8
  · obtain ⟨f0, f1, f2, f3, -, f5, f6, -, f8, f9, f10, -, f12, f13, f14, -, f16, -, f18, f19, f20, f21, -, hσ⟩ := hJ
    obtain ⟨e0, e1, e2, e3, e4, e5, e6, e7, e8, e9, e10, e11, e12, e13, e14, e15, e16, e17, e18, -⟩ := hE'
    obtain ⟨t0, t1, t2, t3, t4, -⟩ := hT'
    obtain ⟨p0, p1, p2, p3, p4, p5, p6, p7, p8, -⟩ := hL'
    obtain rfl := sg_tn hs'
    exact k34 (x' 8) (x' 9) (x' 10) (x' 11) (x' 12) (x' 13) (x' 14) (x' 15) (x' 16) (x' 17) (x' 18) (x' 19) L' f0 f1 f2 f3 f5 f6 f8 f9 f10 f12 f13 f14 f16 f18 f19 f20 f21 e0 e1 e2 e3 e4 e5 e6 e7 e8 e9 e10 e11 e12 e13 e14 e15 e16 e17 e18 t0 t1 t2 t3 t4 p0 p1 p2 p3 p4 p5 p6 p7 p8
  · obtain ⟨f0, f1, f2, f3, -, f5, f6, -, f8, f9, f10, -, f12, f13, f14, -, f16, -, f18, f19, f20, f21, -, hσ⟩ := hJ
    obtain ⟨e0, e1, e2, e3, e4, e5, e6, e7, e8, e9, e10, e11, e12, e13, e14, e15, e16, e17, e18, -⟩ := hE'
    obtain ⟨t0, t1, t2, t3, t4, -⟩ := hT'
    obtain ⟨p0, p1, p2, p3, p4, p5, p6, p7, p8, -⟩ := hL'
    obtain rfl := sg_tn hs'
    exact k35 (x' 8) (x' 9) (x' 10) (x' 11) (x' 12) (x' 13) (x' 14) (x' 15) (x' 16) (x' 17) (x' 18) (x' 19) L' f0 f1 f2 f3 f5 f6 f8 f9 f10 f12 f13 f14 f16 f18 f19 f20 f21 e0 e1 e2 e3 e4 e5 e6 e7 e8 e9 e10 e11 e12 e13 e14 e15 e16 e17 e18 t0 t1 t2 t3 t4 p0 p1 p2 p3 p4 p5 p6 p7 p8
  · obtain ⟨f0, f1, f2, f3, -, f5, f6, -, f8, f9, f10, -, f12, f13, f14, f15, -, hσ⟩ := hJ
    obtain ⟨e0, e1, e2, e3, e4, e5, e6, e7, e8, e9, e10, e11, e12, e13, -⟩ := hE'
    obtain ⟨t0, t1, -⟩ := hT'
    obtain ⟨p0, p1, p2, p3, p4, p5, p6, p7, p8, -⟩ := hL'
    obtain rfl := sg_tn hs'
    exact k36 (x' 8) (x' 9) (x' 10) (x' 11) (x' 12) (x' 13) (x' 14) L' f0 f1 f2 f3 f5 f6 f8 f9 f10 f12 f13 f14 f15 e0 e1 e2 e3 e4 e5 e6 e7 e8 e9 e10 e11 e12 e13 t0 t1 p0 p1 p2 p3 p4 p5 p6 p7 p8
  · obtain ⟨f0, f1, f2, f3, -, f5, f6, -, f8, f9, f10, -, f12, f13, f14, f15, -, f17, -, f19, f20, f21, -, hσ⟩ := hJ
    obtain ⟨e0, e1, e2, e3, e4, e5, e6, e7, e8, e9, e10, e11, e12, e13, e14, e15, e16, e17, -⟩ := hE'
    obtain ⟨t0, t1, t2, t3, -⟩ := hT'
    obtain ⟨p0, p1, p2, p3, p4, p5, p6, p7, p8, -⟩ := hL'
    obtain rfl := sg_tn hs'
    exact k37 (x' 8) (x' 9) (x' 10) (x' 11) (x' 12) (x' 13) (x' 14) (x' 15) (x' 16) (x' 17) (x' 18) L' f0 f1 f2 f3 f5 f6 f8 f9 f10 f12 f13 f14 f15 f17 f19 f20 f21 e0 e1 e2 e3 e4 e5 e6 e7 e8 e9 e10 e11 e12 e13 e14 e15 e16 e17 t0 t1 t2 t3 p0 p1 p2 p3 p4 p5 p6 p7 p8
  · obtain ⟨f0, f1, f2, f3, -, f5, f6, -, f8, f9, f10, -, f12, f13, f14, f15, -, f17, -, f19, f20, f21, f22, -, hσ⟩ := hJ
    obtain ⟨e0, e1, e2, e3, e4, e5, e6, e7, e8, e9, e10, e11, e12, e13, e14, e15, e16, e17, e18, -⟩ := hE'
    obtain ⟨t0, t1, t2, t3, t4, -⟩ := hT'
    obtain ⟨p0, p1, p2, p3, p4, p5, p6, p7, p8, -⟩ := hL'
    obtain rfl := sg_tn hs'
    exact k38 (x' 8) (x' 9) (x' 10) (x' 11) (x' 12) (x' 13) (x' 14) (x' 15) (x' 16) (x' 17) (x' 18) (x' 19) L' f0 f1 f2 f3 f5 f6 f8 f9 f10 f12 f13 f14 f15 f17 f19 f20 f21 f22 e0 e1 e2 e3 e4 e5 e6 e7 e8 e9 e10 e11 e12 e13 e14 e15 e16 e17 e18 t0 t1 t2 t3 t4 p0 p1 p2 p3 p4 p5 p6 p7 p8
  · obtain ⟨f0, f1, f2, f3, -, f5, f6, -, f8, f9, f10, -, f12, f13, f14, f15, -, f17, -, f19, f20, f21, f22, -, hσ⟩ := hJ
    obtain ⟨e0, e1, e2, e3, e4, e5, e6, e7, e8, e9, e10, e11, e12, e13, e14, e15, e16, e17, e18, -⟩ := hE'
    obtain ⟨t0, t1, t2, t3, t4, -⟩ := hT'
    obtain ⟨p0, p1, p2, p3, p4, p5, p6, p7, p8, -⟩ := hL'
    obtain rfl := sg_tn hs'
    exact k39 (x' 8) (x' 9) (x' 10) (x' 11) (x' 12) (x' 13) (x' 14) (x' 15) (x' 16) (x' 17) (x' 18) (x' 19) L' f0 f1 f2 f3 f5 f6 f8 f9 f10 f12 f13 f14 f15 f17 f19 f20 f21 f22 e0 e1 e2 e3 e4 e5 e6 e7 e8 e9 e10 e11 e12 e13 e14 e15 e16 e17 e18 t0 t1 t2 t3 t4 p0 p1 p2 p3 p4 p5 p6 p7 p8
  · obtain ⟨f0, f1, f2, f3, -, f5, hσ⟩ := hJ
    obtain ⟨e0, e1, e2, e3, e4, e5, e6, e7, e8, -⟩ := hE'
    obtain ⟨p0, p1, p2, p3, p4, p5, p6, p7, -⟩ := hL'
    obtain rfl := sg_tn hs'
    exact k40 (x' 8) (x' 9) L' f0 f1 f2 f3 f5 e0 e1 e2 e3 e4 e5 e6 e7 e8 p0 p1 p2 p3 p4 p5 p6 p7
  · obtain ⟨f0, f1, f2, f3, -, f5, hσ⟩ := hJ
    obtain ⟨e0, e1, e2, e3, e4, e5, e6, e7, e8, -⟩ := hE'
    obtain ⟨p0, p1, p2, p3, p4, p5, p6, p7, -⟩ := hL'
    obtain rfl := sg_tn hs'
    exact k41 (x' 8) (x' 9) L' f0 f1 f2 f3 f5 e0 e1 e2 e3 e4 e5 e6 e7 e8 p0 p1 p2 p3 p4 p5 p6 p7
def sg_tr_a_Z : List sg_z := [(0, [], [], [(2, 0, (0, .ofNat 0, .ofNat 0), (0, .ofNat 0, .ofNat 0), (0, .ofNat 0, .ofNat 0)), (2, 2, (3, .ofNat 1, .ofNat 0), (0, .ofNat 0, .ofNat 0), (0, .ofNat 0, .ofNat 0))], [(1, [(.ofNat 0, .ofNat 1)]), (2, [(.ofNat 0, .ofNat 9)]), (3, [(.negSucc 999999, .negSucc 0)])], [], []),
  (0, [], [], [(2, 0, (0, .ofNat 0, .ofNat 0), (0, .ofNat 0, .ofNat 0), (0, .ofNat 0, .ofNat 0)), (2, 4, (3, .ofNat 1, .ofNat 0), (0, .ofNat 0, .ofNat 1000000), (0, .ofNat 0, .ofNat 0)), (2, 3, (3, .ofNat 1, .ofNat 0), (0, .ofNat 0, .ofNat 0), (0, .ofNat 0, .ofNat 0))], [(1, [(.ofNat 0, .ofNat 1)]), (2, [(.ofNat 0, .ofNat 9)]), (3, [(.ofNat 1000001, .ofNat 2000000)])], [], []),
  (17, [(0, .inr (.inl [122])), (1, .inl (false, (1, .ofNat 1, .ofNat 0))), (2, .inl (false, (2, .ofNat 1, .ofNat 0))), (3, .inl (false, (3, .ofNat 1, .ofNat 0)))], [.inl (false, (3, .ofNat 1, .ofNat 0)), .inl (false, (2, .ofNat 1, .ofNat 0)), .inl (false, (1, .ofNat 1, .ofNat 0)), .inr (.inl [122])], [(2, 1, (0, .ofNat 0, .ofNat 1), (0, .ofNat 0, .ofNat 0), (0, .ofNat 0, .ofNat 0)), (2, 5, (3, .ofNat 1, .ofNat 0), (0, .ofNat 0, .ofNat 1000000), (0, .ofNat 0, .ofNat 0)), (2, 3, (3, .ofNat 1, .ofNat 0), (0, .ofNat 0, .ofNat 0), (0, .ofNat 0, .ofNat 0))], [(1, [(.ofNat 0, .ofNat 1)]), (2, [(.ofNat 0, .ofNat 9)]), (3, [(.ofNat 0, .ofNat 1000000)])], [], [])]
set_option maxRecDepth 1000000 in
theorem sg_tr_a_g : sg_go [] [16] 3000 197 0 1 4 [(0, [(.ofNat 0, .ofNat 0)]), (1, [(.ofNat 0, .ofNat 1)]), (2, [(.ofNat 0, .ofNat 9)]), (3, [(.negSucc 999999, .ofNat 2000000)])] [] [] [] [(0, .inr (.inl [122])), (1, .inl (false, (1, .ofNat 1, .ofNat 0))), (2, .inl (false, (2, .ofNat 1, .ofNat 0))), (3, .inl (false, (3, .ofNat 1, .ofNat 0)))] [] [] sg_tr_a_Z = true := by decide +kernel
set_option maxRecDepth 100000 in
theorem sg_tr_a {Q : Option Value × am_S → Prop} {d : Nat} {S : am_S} {L : am_L} {x1 x2 x3 : Int} (hd : 1 ≤ d) (hP : ax_P0 none S) (l0 : lc L 0 122) (l1 : li L 1 x1) (l2 : li L 2 x2) (l3 : li L 3 x3) (b1 : (0 ≤ x1 ∧ x1 ≤ 1)) (b2 : (0 ≤ x2 ∧ x2 ≤ 9)) (b3 : ((-1000000) ≤ x3 ∧ x3 ≤ 2000000))
    (k0 : x3 < 0 → (0 ≤ x1 ∧ x1 ≤ 1) → (0 ≤ x2 ∧ x2 ≤ 9) → ((-1000000) ≤ x3 ∧ x3 ≤ (-1)) → Q (none, S))
    (k1 : 0 ≤ x3 → 1000000 < x3 → (0 ≤ x1 ∧ x1 ≤ 1) → (0 ≤ x2 ∧ x2 ≤ 9) → (1000001 ≤ x3 ∧ x3 ≤ 2000000) → Q (none, S))
    (k2 : ∀ (L' : am_L) (i1 : Int32) (i2 : Int32) (i3 : Int32), 0 ≤ x3 → x3 ≤ 1000000 → (0 ≤ x1 ∧ x1 ≤ 1) → (0 ≤ x2 ∧ x2 ≤ 9) → (0 ≤ x3 ∧ x3 ≤ 1000000) → lc L' 0 122 → li L' 1 x1 → li L' 2 x2 → li L' 3 x3 → i1.toInt = x3 → i2.toInt = x2 → i3.toInt = x1 → am_V none d 197 16 L' ((.int i1) :: (.int i2) :: (.int i3) :: (.ref 122) :: []) S Q) : am_V none d 197 0 L ([]) S Q := by
  refine sg_use sg_tr_a_g hd hP (sg_xs [0, x1, x2, x3]) ⟨⟨Int.le_refl 0, Int.le_refl 0⟩, b1, b2, b3, trivial⟩ trivial trivial trivial ⟨l0, l1, l2, l3, trivial⟩ trivial ?_
  intro z hz x' L' st' S' hx hP' hW hL' hs' hJ hE' hT' hD'
  have q1 : x' 1 = x1 := hx 1 (by decide)
  subst q1
  have q2 : x' 2 = x2 := hx 2 (by decide)
  subst q2
  have q3 : x' 3 = x3 := hx 3 (by decide)
  subst q3
  have eS : S' = S := hW.1 rfl
  subst eS
  simp only [sg_tr_a_Z, List.mem_cons, List.not_mem_nil, or_false] at hz
  rcases hz with rfl | rfl | rfl
  · obtain ⟨f0, -, hσ⟩ := hJ
    obtain ⟨e0, e1, e2, -⟩ := hE'
    intro v hv
    subst hv
    cases v with
    | some _ => exact hs'.elim
    | none =>
      exact k0 f0 e0 e1 e2
  · obtain ⟨f0, f1, -, hσ⟩ := hJ
    obtain ⟨e0, e1, e2, -⟩ := hE'
    intro v hv
    subst hv
    cases v with
    | some _ => exact hs'.elim
    | none =>
      exact k1 f0 f1 e0 e1 e2
  · obtain ⟨f0, f1, -, hσ⟩ := hJ
    obtain ⟨e0, e1, e2, -⟩ := hE'
    obtain ⟨p0, p1, p2, p3, -⟩ := hL'
    obtain ⟨v1, r1, rfl, ⟨i1, rfl, g1⟩, hs1⟩ := sg_tc hs'
    obtain ⟨v2, r2, rfl, ⟨i2, rfl, g2⟩, hs2⟩ := sg_tc hs1
    obtain ⟨v3, r3, rfl, ⟨i3, rfl, g3⟩, hs3⟩ := sg_tc hs2
    obtain ⟨v4, r4, rfl, rfl, hs4⟩ := sg_tc hs3
    obtain rfl := sg_tn hs4
    exact k2 L' i1 i2 i3 f0 f1 e0 e1 e2 p0 p1 p2 p3 g1 g2 g3
def sg_tr_b_Z : List sg_z := [(0, [], [], [(1, 122, (0, .ofNat 0, .ofNat 24), (4, .ofNat 1, .ofNat 0), (0, .ofNat 0, .ofNat 0)), (1, 122, (0, .ofNat 0, .ofNat 23), (3, .ofNat 1, .ofNat 0), (0, .ofNat 0, .ofNat 0)), (2, 0, (5, .ofNat 1, .ofNat 0), (0, .ofNat 0, .negSucc 3), (0, .ofNat 0, .ofNat 0)), (0, 122, (0, .ofNat 0, .ofNat 23), (5, .ofNat 1, .ofNat 0), (0, .ofNat 0, .ofNat 0))], [(1, [(.ofNat 0, .ofNat 1)]), (2, [(.ofNat 0, .ofNat 9)]), (3, [(.ofNat 0, .ofNat 1000000)]), (4, [(.ofNat 0, .ofNat 16)]), (5, [(.negSucc 3, .negSucc 3)])], [], []),
  (0, [], [], [(1, 122, (0, .ofNat 0, .ofNat 24), (4, .ofNat 1, .ofNat 0), (0, .ofNat 0, .ofNat 0)), (1, 122, (0, .ofNat 0, .ofNat 23), (3, .ofNat 1, .ofNat 0), (0, .ofNat 0, .ofNat 0)), (2, 4, (4, .ofNat 1, .ofNat 0), (6, .ofNat 1, .ofNat 0), (0, .ofNat 0, .ofNat 0)), (0, 122, (0, .ofNat 0, .ofNat 24), (6, .ofNat 1, .ofNat 0), (0, .ofNat 0, .ofNat 0)), (2, 1, (5, .ofNat 1, .ofNat 0), (0, .ofNat 0, .negSucc 3), (0, .ofNat 0, .ofNat 0)), (0, 122, (0, .ofNat 0, .ofNat 23), (5, .ofNat 1, .ofNat 0), (0, .ofNat 0, .ofNat 0))], [(1, [(.ofNat 0, .ofNat 1)]), (2, [(.ofNat 0, .ofNat 9)]), (3, [(.ofNat 0, .ofNat 1000000)]), (4, [(.ofNat 0, .ofNat 16)]), (5, [(.ofNat 0, .ofNat 1000000)]), (6, [(.negSucc 2147483647, .ofNat 15)])], [], []),
  (0, [], [], [(2, 1, (4, .ofNat 1, .ofNat 0), (6, .ofNat 1, .ofNat 0), (0, .ofNat 0, .ofNat 0)), (0, 122, (0, .ofNat 0, .ofNat 24), (6, .ofNat 1, .ofNat 0), (0, .ofNat 0, .ofNat 0)), (2, 5, (4, .ofNat 1, .ofNat 0), (6, .ofNat 1, .ofNat 0), (0, .ofNat 0, .ofNat 0)), (0, 122, (0, .ofNat 0, .ofNat 24), (6, .ofNat 1, .ofNat 0), (0, .ofNat 0, .ofNat 0)), (2, 1, (5, .ofNat 1, .ofNat 0), (0, .ofNat 0, .negSucc 3), (0, .ofNat 0, .ofNat 0)), (0, 122, (0, .ofNat 0, .ofNat 23), (5, .ofNat 1, .ofNat 0), (0, .ofNat 0, .ofNat 0))], [(1, [(.ofNat 0, .ofNat 1)]), (2, [(.ofNat 0, .ofNat 9)]), (3, [(.ofNat 0, .ofNat 1000000)]), (4, [(.ofNat 0, .ofNat 16)]), (5, [(.ofNat 0, .ofNat 1000000)]), (6, [(.ofNat 0, .ofNat 2147483647)])], [], []),
  (0, [], [], [(2, 3, (3, .ofNat 1, .ofNat 0), (5, .ofNat 1, .ofNat 0), (0, .ofNat 0, .ofNat 0)), (0, 122, (0, .ofNat 0, .ofNat 23), (5, .ofNat 1, .ofNat 0), (0, .ofNat 0, .ofNat 0)), (2, 0, (4, .ofNat 1, .ofNat 0), (6, .ofNat 1, .ofNat 0), (0, .ofNat 0, .ofNat 0)), (0, 122, (0, .ofNat 0, .ofNat 24), (6, .ofNat 1, .ofNat 0), (0, .ofNat 0, .ofNat 0)), (2, 5, (4, .ofNat 1, .ofNat 0), (6, .ofNat 1, .ofNat 0), (0, .ofNat 0, .ofNat 0)), (0, 122, (0, .ofNat 0, .ofNat 24), (6, .ofNat 1, .ofNat 0), (0, .ofNat 0, .ofNat 0)), (2, 1, (5, .ofNat 1, .ofNat 0), (0, .ofNat 0, .negSucc 3), (0, .ofNat 0, .ofNat 0)), (0, 122, (0, .ofNat 0, .ofNat 23), (5, .ofNat 1, .ofNat 0), (0, .ofNat 0, .ofNat 0))], [(1, [(.ofNat 0, .ofNat 1)]), (2, [(.ofNat 0, .ofNat 9)]), (3, [(.ofNat 0, .ofNat 1000000)]), (4, [(.ofNat 0, .ofNat 16)]), (5, [(.ofNat 0, .ofNat 1000000)]), (6, [(.ofNat 0, .ofNat 16)])], [], []),
  (0, [], [], [(1, 122, (0, .ofNat 0, .ofNat 24), (4, .ofNat 1, .ofNat 0), (0, .ofNat 0, .ofNat 0)), (1, 122, (0, .ofNat 0, .ofNat 23), (3, .ofNat 1, .ofNat 0), (0, .ofNat 0, .ofNat 0)), (2, 2, (3, .ofNat 1, .ofNat 0), (5, .ofNat 1, .ofNat 0), (0, .ofNat 0, .ofNat 0)), (0, 122, (0, .ofNat 0, .ofNat 23), (5, .ofNat 1, .ofNat 0), (0, .ofNat 0, .ofNat 0)), (2, 0, (4, .ofNat 1, .ofNat 0), (6, .ofNat 1, .ofNat 0), (0, .ofNat 0, .ofNat 0)), (0, 122, (0, .ofNat 0, .ofNat 24), (6, .ofNat 1, .ofNat 0), (0, .ofNat 0, .ofNat 0)), (2, 5, (4, .ofNat 1, .ofNat 0), (6, .ofNat 1, .ofNat 0), (0, .ofNat 0, .ofNat 0)), (0, 122, (0, .ofNat 0, .ofNat 24), (6, .ofNat 1, .ofNat 0), (0, .ofNat 0, .ofNat 0)), (2, 1, (5, .ofNat 1, .ofNat 0), (0, .ofNat 0, .negSucc 3), (0, .ofNat 0, .ofNat 0)), (0, 122, (0, .ofNat 0, .ofNat 23), (5, .ofNat 1, .ofNat 0), (0, .ofNat 0, .ofNat 0))], [(1, [(.ofNat 0, .ofNat 1)]), (2, [(.ofNat 0, .ofNat 9)]), (3, [(.ofNat 0, .ofNat 999999)]), (4, [(.ofNat 0, .ofNat 16)]), (5, [(.ofNat 1, .ofNat 1000000)]), (6, [(.ofNat 0, .ofNat 16)])], [], [])]
set_option maxRecDepth 1000000 in
theorem sg_tr_b_g : sg_go [] [] 3000 197 19 0 5 [(0, [(.ofNat 0, .ofNat 0)]), (1, [(.ofNat 0, .ofNat 1)]), (2, [(.ofNat 0, .ofNat 9)]), (3, [(.ofNat 0, .ofNat 1000000)]), (4, [(.ofNat 0, .ofNat 16)])] [] [] [] [(0, .inr (.inl [122])), (1, .inl (false, (1, .ofNat 1, .ofNat 0))), (2, .inl (false, (2, .ofNat 1, .ofNat 0))), (3, .inl (false, (3, .ofNat 1, .ofNat 0)))] [.inl (false, (4, .ofNat 1, .ofNat 0))] [(122, some 23), (122, some 24)] sg_tr_b_Z = true := by decide +kernel
set_option maxRecDepth 100000 in
theorem sg_tr_b {Q : Option Value × am_S → Prop} {d : Nat} {S : am_S} {L : am_L} {x1 x2 x3 x4 : Int} {i1 : Int32} (hd : 0 ≤ d) (hP : ax_P0 none S) (l0 : lc L 0 122) (l1 : li L 1 x1) (l2 : li L 2 x2) (l3 : li L 3 x3) (b1 : (0 ≤ x1 ∧ x1 ≤ 1)) (b2 : (0 ≤ x2 ∧ x2 ≤ 9)) (b3 : (0 ≤ x3 ∧ x3 ≤ 1000000)) (b4 : (0 ≤ x4 ∧ x4 ≤ 16)) (s1 : i1.toInt = x4)
    (k0 : ∀ (x5 : Int) (S' : am_S), ax_P0 none S' → rd S' = sg_up (sg_up (rd S) 122 23 x3) 122 24 x4 → rd S 122 23 = x5 → x5 = (-4) → (0 ≤ x1 ∧ x1 ≤ 1) → (0 ≤ x2 ∧ x2 ≤ 9) → (0 ≤ x3 ∧ x3 ≤ 1000000) → (0 ≤ x4 ∧ x4 ≤ 16) → ((-4) ≤ x5 ∧ x5 ≤ (-4)) → Q (none, S'))
    (k1 : ∀ (x5 x6 : Int) (S' : am_S), ax_P0 none S' → rd S' = sg_up (sg_up (rd S) 122 23 x3) 122 24 x4 → rd S 122 23 = x5 → x5 ≠ (-4) → rd S 122 24 = x6 → x6 < x4 → (0 ≤ x1 ∧ x1 ≤ 1) → (0 ≤ x2 ∧ x2 ≤ 9) → (0 ≤ x3 ∧ x3 ≤ 1000000) → (0 ≤ x4 ∧ x4 ≤ 16) → (0 ≤ x5 ∧ x5 ≤ 1000000) → ((-2147483648) ≤ x6 ∧ x6 ≤ 15) → Q (none, S'))
    (k2 : ∀ (x5 x6 : Int) (S' : am_S), ax_P0 none S' → rd S' = rd S → rd S 122 23 = x5 → x5 ≠ (-4) → rd S 122 24 = x6 → x4 ≤ x6 → x4 ≠ x6 → (0 ≤ x1 ∧ x1 ≤ 1) → (0 ≤ x2 ∧ x2 ≤ 9) → (0 ≤ x3 ∧ x3 ≤ 1000000) → (0 ≤ x4 ∧ x4 ≤ 16) → (0 ≤ x5 ∧ x5 ≤ 1000000) → (0 ≤ x6 ∧ x6 ≤ 2147483647) → Q (none, S'))
    (k3 : ∀ (x5 x6 : Int) (S' : am_S), ax_P0 none S' → rd S' = rd S → rd S 122 23 = x5 → x5 ≠ (-4) → rd S 122 24 = x6 → x4 ≤ x6 → x4 = x6 → x5 ≤ x3 → (0 ≤ x1 ∧ x1 ≤ 1) → (0 ≤ x2 ∧ x2 ≤ 9) → (0 ≤ x3 ∧ x3 ≤ 1000000) → (0 ≤ x4 ∧ x4 ≤ 16) → (0 ≤ x5 ∧ x5 ≤ 1000000) → (0 ≤ x6 ∧ x6 ≤ 16) → Q (none, S'))
    (k4 : ∀ (x5 x6 : Int) (S' : am_S), ax_P0 none S' → rd S' = sg_up (sg_up (rd S) 122 23 x3) 122 24 x4 → rd S 122 23 = x5 → x5 ≠ (-4) → rd S 122 24 = x6 → x4 ≤ x6 → x4 = x6 → x3 < x5 → (0 ≤ x1 ∧ x1 ≤ 1) → (0 ≤ x2 ∧ x2 ≤ 9) → (0 ≤ x3 ∧ x3 ≤ 999999) → (0 ≤ x4 ∧ x4 ≤ 16) → (1 ≤ x5 ∧ x5 ≤ 1000000) → (0 ≤ x6 ∧ x6 ≤ 16) → Q (none, S')) : am_V none d 197 19 L ((.int i1) :: []) S Q := by
  refine sg_use sg_tr_b_g hd hP (sg_xs [0, x1, x2, x3, x4]) ⟨⟨Int.le_refl 0, Int.le_refl 0⟩, b1, b2, b3, b4, trivial⟩ trivial trivial trivial ⟨l0, l1, l2, l3, trivial⟩ ⟨⟨_, rfl, s1⟩, trivial⟩ ?_
  intro z hz x' L' st' S' hx hP' hW hL' hs' hJ hE' hT' hD'
  have q1 : x' 1 = x1 := hx 1 (by decide)
  subst q1
  have q2 : x' 2 = x2 := hx 2 (by decide)
  subst q2
  have q3 : x' 3 = x3 := hx 3 (by decide)
  subst q3
  have q4 : x' 4 = x4 := hx 4 (by decide)
  subst q4
  simp only [sg_tr_b_Z, List.mem_cons, List.not_mem_nil, or_false] at hz
  rcases hz with rfl | rfl | rfl | rfl | rfl
  · obtain ⟨f0, f1, hσ⟩ := hJ
    obtain ⟨e0, e1, e2, e3, e4, -⟩ := hE'
    intro v hv
    subst hv
    cases v with
    | some _ => exact hs'.elim
    | none =>
      exact k0 (x' 5) S' hP' hσ f0 f1 e0 e1 e2 e3 e4
  · obtain ⟨f0, f1, f2, f3, hσ⟩ := hJ
    obtain ⟨e0, e1, e2, e3, e4, e5, -⟩ := hE'
    intro v hv
    subst hv
    cases v with
    | some _ => exact hs'.elim
    | none =>
      exact k1 (x' 5) (x' 6) S' hP' hσ f0 f1 f2 f3 e0 e1 e2 e3 e4 e5
  · obtain ⟨f0, f1, f2, f3, -, f5, hσ⟩ := hJ
    obtain ⟨e0, e1, e2, e3, e4, e5, -⟩ := hE'
    intro v hv
    subst hv
    cases v with
    | some _ => exact hs'.elim
    | none =>
      exact k2 (x' 5) (x' 6) S' hP' hσ f0 f1 f2 f3 f5 e0 e1 e2 e3 e4 e5
  · obtain ⟨f0, f1, f2, f3, -, f5, -, f7, hσ⟩ := hJ
    obtain ⟨e0, e1, e2, e3, e4, e5, -⟩ := hE'
    intro v hv
    subst hv
    cases v with
    | some _ => exact hs'.elim
    | none =>
      exact k3 (x' 5) (x' 6) S' hP' hσ f0 f1 f2 f3 f5 f7 e0 e1 e2 e3 e4 e5
  · obtain ⟨f0, f1, f2, f3, -, f5, -, f7, hσ⟩ := hJ
    obtain ⟨e0, e1, e2, e3, e4, e5, -⟩ := hE'
    intro v hv
    subst hv
    cases v with
    | some _ => exact hs'.elim
    | none =>
      exact k4 (x' 5) (x' 6) S' hP' hσ f0 f1 f2 f3 f5 f7 e0 e1 e2 e3 e4 e5
def sg_mr_0_Z : List sg_z := [(0, [], [.inl (false, (0, .ofNat 0, .negSucc 0))], [(2, 0, (0, .ofNat 0, .ofNat 0), (0, .ofNat 0, .ofNat 0), (0, .ofNat 0, .ofNat 0)), (2, 2, (1, .ofNat 1, .ofNat 0), (0, .ofNat 0, .ofNat 0), (0, .ofNat 0, .ofNat 0))], [(1, [(.negSucc 2147483647, .negSucc 0)])], [], []),
  (0, [], [.inl (false, (0, .ofNat 0, .negSucc 0))], [(2, 0, (0, .ofNat 0, .ofNat 0), (0, .ofNat 0, .ofNat 0), (0, .ofNat 0, .ofNat 0)), (2, 4, (1, .ofNat 1, .ofNat 0), (0, .ofNat 0, .ofNat 1), (0, .ofNat 0, .ofNat 0)), (2, 3, (1, .ofNat 1, .ofNat 0), (0, .ofNat 0, .ofNat 0), (0, .ofNat 0, .ofNat 0))], [(1, [(.ofNat 2, .ofNat 2147483647)])], [], []),
  (0, [], [.inl (false, (0, .ofNat 0, .negSucc 0))], [(2, 0, (0, .ofNat 0, .ofNat 0), (0, .ofNat 0, .ofNat 0), (0, .ofNat 0, .ofNat 0)), (2, 2, (2, .ofNat 1, .ofNat 0), (0, .ofNat 0, .ofNat 0), (0, .ofNat 0, .ofNat 0)), (2, 1, (0, .ofNat 0, .ofNat 1), (0, .ofNat 0, .ofNat 0), (0, .ofNat 0, .ofNat 0)), (2, 5, (1, .ofNat 1, .ofNat 0), (0, .ofNat 0, .ofNat 1), (0, .ofNat 0, .ofNat 0)), (2, 3, (1, .ofNat 1, .ofNat 0), (0, .ofNat 0, .ofNat 0), (0, .ofNat 0, .ofNat 0))], [(1, [(.ofNat 0, .ofNat 1)]), (2, [(.negSucc 2147483647, .negSucc 0)])], [], []),
  (0, [], [.inl (false, (0, .ofNat 0, .negSucc 0))], [(2, 0, (0, .ofNat 0, .ofNat 0), (0, .ofNat 0, .ofNat 0), (0, .ofNat 0, .ofNat 0)), (2, 4, (2, .ofNat 1, .ofNat 0), (0, .ofNat 0, .ofNat 9), (0, .ofNat 0, .ofNat 0)), (2, 3, (2, .ofNat 1, .ofNat 0), (0, .ofNat 0, .ofNat 0), (0, .ofNat 0, .ofNat 0)), (2, 1, (0, .ofNat 0, .ofNat 1), (0, .ofNat 0, .ofNat 0), (0, .ofNat 0, .ofNat 0)), (2, 5, (1, .ofNat 1, .ofNat 0), (0, .ofNat 0, .ofNat 1), (0, .ofNat 0, .ofNat 0)), (2, 3, (1, .ofNat 1, .ofNat 0), (0, .ofNat 0, .ofNat 0), (0, .ofNat 0, .ofNat 0))], [(1, [(.ofNat 0, .ofNat 1)]), (2, [(.ofNat 10, .ofNat 2147483647)])], [], []),
  (0, [], [.inl (false, (0, .ofNat 0, .negSucc 0))], [(2, 0, (0, .ofNat 0, .ofNat 0), (0, .ofNat 0, .ofNat 0), (0, .ofNat 0, .ofNat 0)), (2, 2, (3, .ofNat 1, .ofNat 0), (0, .ofNat 0, .ofNat 0), (0, .ofNat 0, .ofNat 0)), (2, 1, (0, .ofNat 0, .ofNat 1), (0, .ofNat 0, .ofNat 0), (0, .ofNat 0, .ofNat 0)), (2, 5, (2, .ofNat 1, .ofNat 0), (0, .ofNat 0, .ofNat 9), (0, .ofNat 0, .ofNat 0)), (2, 3, (2, .ofNat 1, .ofNat 0), (0, .ofNat 0, .ofNat 0), (0, .ofNat 0, .ofNat 0)), (2, 1, (0, .ofNat 0, .ofNat 1), (0, .ofNat 0, .ofNat 0), (0, .ofNat 0, .ofNat 0)), (2, 5, (1, .ofNat 1, .ofNat 0), (0, .ofNat 0, .ofNat 1), (0, .ofNat 0, .ofNat 0)), (2, 3, (1, .ofNat 1, .ofNat 0), (0, .ofNat 0, .ofNat 0), (0, .ofNat 0, .ofNat 0))], [(1, [(.ofNat 0, .ofNat 1)]), (2, [(.ofNat 0, .ofNat 9)]), (3, [(.negSucc 2147483647, .negSucc 0)])], [], []),
  (0, [], [.inl (false, (0, .ofNat 0, .negSucc 0))], [(2, 0, (0, .ofNat 0, .ofNat 0), (0, .ofNat 0, .ofNat 0), (0, .ofNat 0, .ofNat 0)), (2, 4, (3, .ofNat 1, .ofNat 0), (0, .ofNat 0, .ofNat 1000000), (0, .ofNat 0, .ofNat 0)), (2, 3, (3, .ofNat 1, .ofNat 0), (0, .ofNat 0, .ofNat 0), (0, .ofNat 0, .ofNat 0)), (2, 1, (0, .ofNat 0, .ofNat 1), (0, .ofNat 0, .ofNat 0), (0, .ofNat 0, .ofNat 0)), (2, 5, (2, .ofNat 1, .ofNat 0), (0, .ofNat 0, .ofNat 9), (0, .ofNat 0, .ofNat 0)), (2, 3, (2, .ofNat 1, .ofNat 0), (0, .ofNat 0, .ofNat 0), (0, .ofNat 0, .ofNat 0)), (2, 1, (0, .ofNat 0, .ofNat 1), (0, .ofNat 0, .ofNat 0), (0, .ofNat 0, .ofNat 0)), (2, 5, (1, .ofNat 1, .ofNat 0), (0, .ofNat 0, .ofNat 1), (0, .ofNat 0, .ofNat 0)), (2, 3, (1, .ofNat 1, .ofNat 0), (0, .ofNat 0, .ofNat 0), (0, .ofNat 0, .ofNat 0))], [(1, [(.ofNat 0, .ofNat 1)]), (2, [(.ofNat 0, .ofNat 9)]), (3, [(.ofNat 1000001, .ofNat 2147483647)])], [], []),
  (39, [(0, .inr (.inl [122])), (1, .inl (false, (1, .ofNat 1, .ofNat 0))), (2, .inl (false, (2, .ofNat 1, .ofNat 0))), (3, .inl (false, (3, .ofNat 1, .ofNat 0)))], [.inl (false, (3, .ofNat 1, .ofNat 0)), .inl (false, (2, .ofNat 1, .ofNat 0)), .inl (false, (1, .ofNat 1, .ofNat 0)), .inr (.inl [122])], [(2, 1, (0, .ofNat 0, .ofNat 1), (0, .ofNat 0, .ofNat 0), (0, .ofNat 0, .ofNat 0)), (2, 5, (3, .ofNat 1, .ofNat 0), (0, .ofNat 0, .ofNat 1000000), (0, .ofNat 0, .ofNat 0)), (2, 3, (3, .ofNat 1, .ofNat 0), (0, .ofNat 0, .ofNat 0), (0, .ofNat 0, .ofNat 0)), (2, 1, (0, .ofNat 0, .ofNat 1), (0, .ofNat 0, .ofNat 0), (0, .ofNat 0, .ofNat 0)), (2, 5, (2, .ofNat 1, .ofNat 0), (0, .ofNat 0, .ofNat 9), (0, .ofNat 0, .ofNat 0)), (2, 3, (2, .ofNat 1, .ofNat 0), (0, .ofNat 0, .ofNat 0), (0, .ofNat 0, .ofNat 0)), (2, 1, (0, .ofNat 0, .ofNat 1), (0, .ofNat 0, .ofNat 0), (0, .ofNat 0, .ofNat 0)), (2, 5, (1, .ofNat 1, .ofNat 0), (0, .ofNat 0, .ofNat 1), (0, .ofNat 0, .ofNat 0)), (2, 3, (1, .ofNat 1, .ofNat 0), (0, .ofNat 0, .ofNat 0), (0, .ofNat 0, .ofNat 0))], [(1, [(.ofNat 0, .ofNat 1)]), (2, [(.ofNat 0, .ofNat 9)]), (3, [(.ofNat 0, .ofNat 1000000)])], [], [])]
set_option maxRecDepth 1000000 in
theorem sg_mr_0_g : sg_go [] [38] 3000 199 0 1 4 [(0, [(.ofNat 0, .ofNat 0)]), (1, [(.negSucc 2147483647, .ofNat 2147483647)]), (2, [(.negSucc 2147483647, .ofNat 2147483647)]), (3, [(.negSucc 2147483647, .ofNat 2147483647)])] [] [] [] [(0, .inr (.inl [122])), (1, .inl (false, (1, .ofNat 1, .ofNat 0))), (2, .inl (false, (2, .ofNat 1, .ofNat 0))), (3, .inl (false, (3, .ofNat 1, .ofNat 0)))] [] [] sg_mr_0_Z = true := by decide +kernel
set_option maxRecDepth 100000 in
theorem sg_mr_0 {Q : Option Value × am_S → Prop} {d : Nat} {S : am_S} {L : am_L} {x1 x2 x3 : Int} (hd : 1 ≤ d) (hP : ax_P0 none S) (l0 : lc L 0 122) (l1 : li L 1 x1) (l2 : li L 2 x2) (l3 : li L 3 x3) (b1 : ((-2147483648) ≤ x1 ∧ x1 ≤ 2147483647)) (b2 : ((-2147483648) ≤ x2 ∧ x2 ≤ 2147483647)) (b3 : ((-2147483648) ≤ x3 ∧ x3 ≤ 2147483647))
    (k0 : ∀ (i1 : Int32), x1 < 0 → ((-2147483648) ≤ x1 ∧ x1 ≤ (-1)) → i1.toInt = (-1) → Q (some (.int i1), S))
    (k1 : ∀ (i1 : Int32), 0 ≤ x1 → 1 < x1 → (2 ≤ x1 ∧ x1 ≤ 2147483647) → i1.toInt = (-1) → Q (some (.int i1), S))
    (k2 : ∀ (i1 : Int32), 0 ≤ x1 → x1 ≤ 1 → x2 < 0 → (0 ≤ x1 ∧ x1 ≤ 1) → ((-2147483648) ≤ x2 ∧ x2 ≤ (-1)) → i1.toInt = (-1) → Q (some (.int i1), S))
    (k3 : ∀ (i1 : Int32), 0 ≤ x1 → x1 ≤ 1 → 0 ≤ x2 → 9 < x2 → (0 ≤ x1 ∧ x1 ≤ 1) → (10 ≤ x2 ∧ x2 ≤ 2147483647) → i1.toInt = (-1) → Q (some (.int i1), S))
    (k4 : ∀ (i1 : Int32), 0 ≤ x1 → x1 ≤ 1 → 0 ≤ x2 → x2 ≤ 9 → x3 < 0 → (0 ≤ x1 ∧ x1 ≤ 1) → (0 ≤ x2 ∧ x2 ≤ 9) → ((-2147483648) ≤ x3 ∧ x3 ≤ (-1)) → i1.toInt = (-1) → Q (some (.int i1), S))
    (k5 : ∀ (i1 : Int32), 0 ≤ x1 → x1 ≤ 1 → 0 ≤ x2 → x2 ≤ 9 → 0 ≤ x3 → 1000000 < x3 → (0 ≤ x1 ∧ x1 ≤ 1) → (0 ≤ x2 ∧ x2 ≤ 9) → (1000001 ≤ x3 ∧ x3 ≤ 2147483647) → i1.toInt = (-1) → Q (some (.int i1), S))
    (k6 : ∀ (L' : am_L) (i1 : Int32) (i2 : Int32) (i3 : Int32), 0 ≤ x1 → x1 ≤ 1 → 0 ≤ x2 → x2 ≤ 9 → 0 ≤ x3 → x3 ≤ 1000000 → (0 ≤ x1 ∧ x1 ≤ 1) → (0 ≤ x2 ∧ x2 ≤ 9) → (0 ≤ x3 ∧ x3 ≤ 1000000) → lc L' 0 122 → li L' 1 x1 → li L' 2 x2 → li L' 3 x3 → i1.toInt = x3 → i2.toInt = x2 → i3.toInt = x1 → am_V none d 199 38 L' ((.int i1) :: (.int i2) :: (.int i3) :: (.ref 122) :: []) S Q) : am_V none d 199 0 L ([]) S Q := by
  refine sg_use sg_mr_0_g hd hP (sg_xs [0, x1, x2, x3]) ⟨⟨Int.le_refl 0, Int.le_refl 0⟩, b1, b2, b3, trivial⟩ trivial trivial trivial ⟨l0, l1, l2, l3, trivial⟩ trivial ?_
  intro z hz x' L' st' S' hx hP' hW hL' hs' hJ hE' hT' hD'
  have q1 : x' 1 = x1 := hx 1 (by decide)
  subst q1
  have q2 : x' 2 = x2 := hx 2 (by decide)
  subst q2
  have q3 : x' 3 = x3 := hx 3 (by decide)
  subst q3
  have eS : S' = S := hW.1 rfl
  subst eS
  simp only [sg_mr_0_Z, List.mem_cons, List.not_mem_nil, or_false] at hz
  rcases hz with rfl | rfl | rfl | rfl | rfl | rfl | rfl
  · obtain ⟨f0, -, hσ⟩ := hJ
    obtain ⟨e0, -⟩ := hE'
    intro v hv
    subst hv
    cases v with
    | none => exact hs'.elim
    | some v1 =>
      obtain ⟨⟨i1, rfl, g1⟩, -⟩ := hs'
      exact k0 i1 f0 e0 g1
  · obtain ⟨f0, f1, -, hσ⟩ := hJ
    obtain ⟨e0, -⟩ := hE'
    intro v hv
    subst hv
    cases v with
    | none => exact hs'.elim
    | some v1 =>
      obtain ⟨⟨i1, rfl, g1⟩, -⟩ := hs'
      exact k1 i1 f0 f1 e0 g1
  · obtain ⟨f0, f1, -, f3, -, hσ⟩ := hJ
    obtain ⟨e0, e1, -⟩ := hE'
    intro v hv
    subst hv
    cases v with
    | none => exact hs'.elim
    | some v1 =>
      obtain ⟨⟨i1, rfl, g1⟩, -⟩ := hs'
      exact k2 i1 f0 f1 f3 e0 e1 g1
  · obtain ⟨f0, f1, -, f3, f4, -, hσ⟩ := hJ
    obtain ⟨e0, e1, -⟩ := hE'
    intro v hv
    subst hv
    cases v with
    | none => exact hs'.elim
    | some v1 =>
      obtain ⟨⟨i1, rfl, g1⟩, -⟩ := hs'
      exact k3 i1 f0 f1 f3 f4 e0 e1 g1
  · obtain ⟨f0, f1, -, f3, f4, -, f6, -, hσ⟩ := hJ
    obtain ⟨e0, e1, e2, -⟩ := hE'
    intro v hv
    subst hv
    cases v with
    | none => exact hs'.elim
    | some v1 =>
      obtain ⟨⟨i1, rfl, g1⟩, -⟩ := hs'
      exact k4 i1 f0 f1 f3 f4 f6 e0 e1 e2 g1
  · obtain ⟨f0, f1, -, f3, f4, -, f6, f7, -, hσ⟩ := hJ
    obtain ⟨e0, e1, e2, -⟩ := hE'
    intro v hv
    subst hv
    cases v with
    | none => exact hs'.elim
    | some v1 =>
      obtain ⟨⟨i1, rfl, g1⟩, -⟩ := hs'
      exact k5 i1 f0 f1 f3 f4 f6 f7 e0 e1 e2 g1
  · obtain ⟨f0, f1, -, f3, f4, -, f6, f7, -, hσ⟩ := hJ
    obtain ⟨e0, e1, e2, -⟩ := hE'
    obtain ⟨p0, p1, p2, p3, -⟩ := hL'
    obtain ⟨v1, r1, rfl, ⟨i1, rfl, g1⟩, hs1⟩ := sg_tc hs'
    obtain ⟨v2, r2, rfl, ⟨i2, rfl, g2⟩, hs2⟩ := sg_tc hs1
    obtain ⟨v3, r3, rfl, ⟨i3, rfl, g3⟩, hs3⟩ := sg_tc hs2
    obtain ⟨v4, r4, rfl, rfl, hs4⟩ := sg_tc hs3
    obtain rfl := sg_tn hs4
    exact k6 L' i1 i2 i3 f0 f1 f3 f4 f6 f7 e0 e1 e2 p0 p1 p2 p3 g1 g2 g3
def sg_me_a_Z : List sg_z := [(0, [], [.inl (false, (0, .ofNat 0, .negSucc 0))], [(2, 0, (0, .ofNat 0, .ofNat 0), (0, .ofNat 0, .ofNat 0), (0, .ofNat 0, .ofNat 0)), (2, 2, (1, .ofNat 1, .ofNat 0), (0, .ofNat 0, .ofNat 0), (0, .ofNat 0, .ofNat 0))], [(1, [(.negSucc 2147483647, .negSucc 0)])], [], []),
  (0, [], [.inl (false, (0, .ofNat 0, .negSucc 0))], [(2, 0, (0, .ofNat 0, .ofNat 0), (0, .ofNat 0, .ofNat 0), (0, .ofNat 0, .ofNat 0)), (2, 4, (1, .ofNat 1, .ofNat 0), (0, .ofNat 0, .ofNat 1), (0, .ofNat 0, .ofNat 0)), (2, 3, (1, .ofNat 1, .ofNat 0), (0, .ofNat 0, .ofNat 0), (0, .ofNat 0, .ofNat 0))], [(1, [(.ofNat 2, .ofNat 2147483647)])], [], []),
  (0, [], [.inl (false, (0, .ofNat 0, .negSucc 0))], [(2, 0, (0, .ofNat 0, .ofNat 0), (0, .ofNat 0, .ofNat 0), (0, .ofNat 0, .ofNat 0)), (2, 2, (2, .ofNat 1, .ofNat 0), (0, .ofNat 0, .ofNat 0), (0, .ofNat 0, .ofNat 0)), (2, 1, (0, .ofNat 0, .ofNat 1), (0, .ofNat 0, .ofNat 0), (0, .ofNat 0, .ofNat 0)), (2, 5, (1, .ofNat 1, .ofNat 0), (0, .ofNat 0, .ofNat 1), (0, .ofNat 0, .ofNat 0)), (2, 3, (1, .ofNat 1, .ofNat 0), (0, .ofNat 0, .ofNat 0), (0, .ofNat 0, .ofNat 0))], [(1, [(.ofNat 0, .ofNat 1)]), (2, [(.negSucc 2147483647, .negSucc 0)])], [], []),
  (0, [], [.inl (false, (0, .ofNat 0, .negSucc 0))], [(2, 0, (0, .ofNat 0, .ofNat 0), (0, .ofNat 0, .ofNat 0), (0, .ofNat 0, .ofNat 0)), (2, 4, (2, .ofNat 1, .ofNat 0), (0, .ofNat 0, .ofNat 9), (0, .ofNat 0, .ofNat 0)), (2, 3, (2, .ofNat 1, .ofNat 0), (0, .ofNat 0, .ofNat 0), (0, .ofNat 0, .ofNat 0)), (2, 1, (0, .ofNat 0, .ofNat 1), (0, .ofNat 0, .ofNat 0), (0, .ofNat 0, .ofNat 0)), (2, 5, (1, .ofNat 1, .ofNat 0), (0, .ofNat 0, .ofNat 1), (0, .ofNat 0, .ofNat 0)), (2, 3, (1, .ofNat 1, .ofNat 0), (0, .ofNat 0, .ofNat 0), (0, .ofNat 0, .ofNat 0))], [(1, [(.ofNat 0, .ofNat 1)]), (2, [(.ofNat 10, .ofNat 2147483647)])], [], []),
  (0, [], [.inl (false, (0, .ofNat 0, .negSucc 0))], [(2, 0, (0, .ofNat 0, .ofNat 0), (0, .ofNat 0, .ofNat 0), (0, .ofNat 0, .ofNat 0)), (2, 2, (3, .ofNat 1, .ofNat 0), (0, .ofNat 0, .ofNat 0), (0, .ofNat 0, .ofNat 0)), (2, 1, (0, .ofNat 0, .ofNat 1), (0, .ofNat 0, .ofNat 0), (0, .ofNat 0, .ofNat 0)), (2, 5, (2, .ofNat 1, .ofNat 0), (0, .ofNat 0, .ofNat 9), (0, .ofNat 0, .ofNat 0)), (2, 3, (2, .ofNat 1, .ofNat 0), (0, .ofNat 0, .ofNat 0), (0, .ofNat 0, .ofNat 0)), (2, 1, (0, .ofNat 0, .ofNat 1), (0, .ofNat 0, .ofNat 0), (0, .ofNat 0, .ofNat 0)), (2, 5, (1, .ofNat 1, .ofNat 0), (0, .ofNat 0, .ofNat 1), (0, .ofNat 0, .ofNat 0)), (2, 3, (1, .ofNat 1, .ofNat 0), (0, .ofNat 0, .ofNat 0), (0, .ofNat 0, .ofNat 0))], [(1, [(.ofNat 0, .ofNat 1)]), (2, [(.ofNat 0, .ofNat 9)]), (3, [(.negSucc 2147483647, .negSucc 0)])], [], []),
  (0, [], [.inl (false, (0, .ofNat 0, .negSucc 0))], [(2, 0, (0, .ofNat 0, .ofNat 0), (0, .ofNat 0, .ofNat 0), (0, .ofNat 0, .ofNat 0)), (2, 4, (3, .ofNat 1, .ofNat 0), (0, .ofNat 0, .ofNat 2), (0, .ofNat 0, .ofNat 0)), (2, 3, (3, .ofNat 1, .ofNat 0), (0, .ofNat 0, .ofNat 0), (0, .ofNat 0, .ofNat 0)), (2, 1, (0, .ofNat 0, .ofNat 1), (0, .ofNat 0, .ofNat 0), (0, .ofNat 0, .ofNat 0)), (2, 5, (2, .ofNat 1, .ofNat 0), (0, .ofNat 0, .ofNat 9), (0, .ofNat 0, .ofNat 0)), (2, 3, (2, .ofNat 1, .ofNat 0), (0, .ofNat 0, .ofNat 0), (0, .ofNat 0, .ofNat 0)), (2, 1, (0, .ofNat 0, .ofNat 1), (0, .ofNat 0, .ofNat 0), (0, .ofNat 0, .ofNat 0)), (2, 5, (1, .ofNat 1, .ofNat 0), (0, .ofNat 0, .ofNat 1), (0, .ofNat 0, .ofNat 0)), (2, 3, (1, .ofNat 1, .ofNat 0), (0, .ofNat 0, .ofNat 0), (0, .ofNat 0, .ofNat 0))], [(1, [(.ofNat 0, .ofNat 1)]), (2, [(.ofNat 0, .ofNat 9)]), (3, [(.ofNat 3, .ofNat 2147483647)])], [], []),
  (46, [(0, .inr (.inl [122])), (1, .inl (false, (1, .ofNat 1, .ofNat 0))), (2, .inl (false, (2, .ofNat 1, .ofNat 0))), (3, .inl (false, (3, .ofNat 1, .ofNat 0))), (4, .inl (false, (0, .ofNat 0, .ofNat 0)))], [], [(1, 122, (0, .ofNat 0, .ofNat 23), (0, .ofNat 0, .negSucc 3), (0, .ofNat 0, .ofNat 0)), (2, 1, (0, .ofNat 0, .ofNat 1), (0, .ofNat 0, .ofNat 0), (0, .ofNat 0, .ofNat 0)), (2, 5, (3, .ofNat 1, .ofNat 0), (0, .ofNat 0, .ofNat 2), (0, .ofNat 0, .ofNat 0)), (2, 3, (3, .ofNat 1, .ofNat 0), (0, .ofNat 0, .ofNat 0), (0, .ofNat 0, .ofNat 0)), (2, 1, (0, .ofNat 0, .ofNat 1), (0, .ofNat 0, .ofNat 0), (0, .ofNat 0, .ofNat 0)), (2, 5, (2, .ofNat 1, .ofNat 0), (0, .ofNat 0, .ofNat 9), (0, .ofNat 0, .ofNat 0)), (2, 3, (2, .ofNat 1, .ofNat 0), (0, .ofNat 0, .ofNat 0), (0, .ofNat 0, .ofNat 0)), (2, 1, (0, .ofNat 0, .ofNat 1), (0, .ofNat 0, .ofNat 0), (0, .ofNat 0, .ofNat 0)), (2, 5, (1, .ofNat 1, .ofNat 0), (0, .ofNat 0, .ofNat 1), (0, .ofNat 0, .ofNat 0)), (2, 3, (1, .ofNat 1, .ofNat 0), (0, .ofNat 0, .ofNat 0), (0, .ofNat 0, .ofNat 0))], [(1, [(.ofNat 0, .ofNat 1)]), (2, [(.ofNat 0, .ofNat 9)]), (3, [(.ofNat 0, .ofNat 2)])], [], [])]
set_option maxRecDepth 1000000 in
theorem sg_me_a_g : sg_go [] [45] 3000 198 0 1 4 [(0, [(.ofNat 0, .ofNat 0)]), (1, [(.negSucc 2147483647, .ofNat 2147483647)]), (2, [(.negSucc 2147483647, .ofNat 2147483647)]), (3, [(.negSucc 2147483647, .ofNat 2147483647)])] [] [] [] [(0, .inr (.inl [122])), (1, .inl (false, (1, .ofNat 1, .ofNat 0))), (2, .inl (false, (2, .ofNat 1, .ofNat 0))), (3, .inl (false, (3, .ofNat 1, .ofNat 0)))] [] [(122, some 23)] sg_me_a_Z = true := by decide +kernel
set_option maxRecDepth 100000 in
theorem sg_me_a {Q : Option Value × am_S → Prop} {d : Nat} {S : am_S} {L : am_L} {x1 x2 x3 : Int} (hd : 1 ≤ d) (hP : ax_P0 none S) (l0 : lc L 0 122) (l1 : li L 1 x1) (l2 : li L 2 x2) (l3 : li L 3 x3) (b1 : ((-2147483648) ≤ x1 ∧ x1 ≤ 2147483647)) (b2 : ((-2147483648) ≤ x2 ∧ x2 ≤ 2147483647)) (b3 : ((-2147483648) ≤ x3 ∧ x3 ≤ 2147483647))
    (k0 : ∀ (S' : am_S) (i1 : Int32), ax_P0 none S' → rd S' = rd S → x1 < 0 → ((-2147483648) ≤ x1 ∧ x1 ≤ (-1)) → i1.toInt = (-1) → Q (some (.int i1), S'))
    (k1 : ∀ (S' : am_S) (i1 : Int32), ax_P0 none S' → rd S' = rd S → 0 ≤ x1 → 1 < x1 → (2 ≤ x1 ∧ x1 ≤ 2147483647) → i1.toInt = (-1) → Q (some (.int i1), S'))
    (k2 : ∀ (S' : am_S) (i1 : Int32), ax_P0 none S' → rd S' = rd S → 0 ≤ x1 → x1 ≤ 1 → x2 < 0 → (0 ≤ x1 ∧ x1 ≤ 1) → ((-2147483648) ≤ x2 ∧ x2 ≤ (-1)) → i1.toInt = (-1) → Q (some (.int i1), S'))
    (k3 : ∀ (S' : am_S) (i1 : Int32), ax_P0 none S' → rd S' = rd S → 0 ≤ x1 → x1 ≤ 1 → 0 ≤ x2 → 9 < x2 → (0 ≤ x1 ∧ x1 ≤ 1) → (10 ≤ x2 ∧ x2 ≤ 2147483647) → i1.toInt = (-1) → Q (some (.int i1), S'))
    (k4 : ∀ (S' : am_S) (i1 : Int32), ax_P0 none S' → rd S' = rd S → 0 ≤ x1 → x1 ≤ 1 → 0 ≤ x2 → x2 ≤ 9 → x3 < 0 → (0 ≤ x1 ∧ x1 ≤ 1) → (0 ≤ x2 ∧ x2 ≤ 9) → ((-2147483648) ≤ x3 ∧ x3 ≤ (-1)) → i1.toInt = (-1) → Q (some (.int i1), S'))
    (k5 : ∀ (S' : am_S) (i1 : Int32), ax_P0 none S' → rd S' = rd S → 0 ≤ x1 → x1 ≤ 1 → 0 ≤ x2 → x2 ≤ 9 → 0 ≤ x3 → 2 < x3 → (0 ≤ x1 ∧ x1 ≤ 1) → (0 ≤ x2 ∧ x2 ≤ 9) → (3 ≤ x3 ∧ x3 ≤ 2147483647) → i1.toInt = (-1) → Q (some (.int i1), S'))
    (k6 : ∀ (L' : am_L) (S' : am_S), ax_P0 none S' → rd S' = sg_up (rd S) 122 23 (-4) → 0 ≤ x1 → x1 ≤ 1 → 0 ≤ x2 → x2 ≤ 9 → 0 ≤ x3 → x3 ≤ 2 → (0 ≤ x1 ∧ x1 ≤ 1) → (0 ≤ x2 ∧ x2 ≤ 9) → (0 ≤ x3 ∧ x3 ≤ 2) → lc L' 0 122 → li L' 1 x1 → li L' 2 x2 → li L' 3 x3 → li L' 4 0 → am_V none d 198 45 L' ([]) S' Q) : am_V none d 198 0 L ([]) S Q := by
  refine sg_use sg_me_a_g hd hP (sg_xs [0, x1, x2, x3]) ⟨⟨Int.le_refl 0, Int.le_refl 0⟩, b1, b2, b3, trivial⟩ trivial trivial trivial ⟨l0, l1, l2, l3, trivial⟩ trivial ?_
  intro z hz x' L' st' S' hx hP' hW hL' hs' hJ hE' hT' hD'
  have q1 : x' 1 = x1 := hx 1 (by decide)
  subst q1
  have q2 : x' 2 = x2 := hx 2 (by decide)
  subst q2
  have q3 : x' 3 = x3 := hx 3 (by decide)
  subst q3
  simp only [sg_me_a_Z, List.mem_cons, List.not_mem_nil, or_false] at hz
  rcases hz with rfl | rfl | rfl | rfl | rfl | rfl | rfl
  · obtain ⟨f0, -, hσ⟩ := hJ
    obtain ⟨e0, -⟩ := hE'
    intro v hv
    subst hv
    cases v with
    | none => exact hs'.elim
    | some v1 =>
      obtain ⟨⟨i1, rfl, g1⟩, -⟩ := hs'
      exact k0 S' i1 hP' hσ f0 e0 g1
  · obtain ⟨f0, f1, -, hσ⟩ := hJ
    obtain ⟨e0, -⟩ := hE'
    intro v hv
    subst hv
    cases v with
    | none => exact hs'.elim
    | some v1 =>
      obtain ⟨⟨i1, rfl, g1⟩, -⟩ := hs'
      exact k1 S' i1 hP' hσ f0 f1 e0 g1
  · obtain ⟨f0, f1, -, f3, -, hσ⟩ := hJ
    obtain ⟨e0, e1, -⟩ := hE'
    intro v hv
    subst hv
    cases v with
    | none => exact hs'.elim
    | some v1 =>
      obtain ⟨⟨i1, rfl, g1⟩, -⟩ := hs'
      exact k2 S' i1 hP' hσ f0 f1 f3 e0 e1 g1
  · obtain ⟨f0, f1, -, f3, f4, -, hσ⟩ := hJ
    obtain ⟨e0, e1, -⟩ := hE'
    intro v hv
    subst hv
    cases v with
    | none => exact hs'.elim
    | some v1 =>
      obtain ⟨⟨i1, rfl, g1⟩, -⟩ := hs'
      exact k3 S' i1 hP' hσ f0 f1 f3 f4 e0 e1 g1
  · obtain ⟨f0, f1, -, f3, f4, -, f6, -, hσ⟩ := hJ
    obtain ⟨e0, e1, e2, -⟩ := hE'
    intro v hv
    subst hv
    cases v with
    | none => exact hs'.elim
    | some v1 =>
      obtain ⟨⟨i1, rfl, g1⟩, -⟩ := hs'
      exact k4 S' i1 hP' hσ f0 f1 f3 f4 f6 e0 e1 e2 g1
  · obtain ⟨f0, f1, -, f3, f4, -, f6, f7, -, hσ⟩ := hJ
    obtain ⟨e0, e1, e2, -⟩ := hE'
    intro v hv
    subst hv
    cases v with
    | none => exact hs'.elim
    | some v1 =>
      obtain ⟨⟨i1, rfl, g1⟩, -⟩ := hs'
      exact k5 S' i1 hP' hσ f0 f1 f3 f4 f6 f7 e0 e1 e2 g1
  · obtain ⟨f0, f1, -, f3, f4, -, f6, f7, -, hσ⟩ := hJ
    obtain ⟨e0, e1, e2, -⟩ := hE'
    obtain ⟨p0, p1, p2, p3, p4, -⟩ := hL'
    obtain rfl := sg_tn hs'
    exact k6 L' S' hP' hσ f0 f1 f3 f4 f6 f7 e0 e1 e2 p0 p1 p2 p3 p4
def sg_me_b_Z : List sg_z := [(141, [(0, .inr (.inl [122])), (1, .inl (false, (1, .ofNat 1, .ofNat 0))), (2, .inl (false, (2, .ofNat 1, .ofNat 0))), (3, .inl (false, (3, .ofNat 1, .ofNat 0))), (4, .inl (false, (4, .ofNat 1, .ofNat 0)))], [], [(2, 3, (4, .ofNat 1, .ofNat 0), (5, .ofNat 1, .ofNat 0), (0, .ofNat 0, .ofNat 0)), (0, 122, (0, .ofNat 0, .ofNat 0), (5, .ofNat 1, .ofNat 0), (0, .ofNat 0, .ofNat 0))], [(1, [(.ofNat 0, .ofNat 1)]), (2, [(.ofNat 0, .ofNat 9)]), (3, [(.ofNat 0, .ofNat 2)]), (4, [(.ofNat 0, .ofNat 8)]), (5, [(.ofNat 0, .ofNat 8)])], [], []),
  (58, [(0, .inr (.inl [122])), (1, .inl (false, (1, .ofNat 1, .ofNat 0))), (2, .inl (false, (2, .ofNat 1, .ofNat 0))), (3, .inl (false, (3, .ofNat 1, .ofNat 0))), (4, .inl (false, (4, .ofNat 1, .ofNat 0))), (5, .inl (false, (0, .ofNat 0, .ofNat 0)))], [], [(2, 2, (4, .ofNat 1, .ofNat 0), (5, .ofNat 1, .ofNat 0), (0, .ofNat 0, .ofNat 0)), (0, 122, (0, .ofNat 0, .ofNat 0), (5, .ofNat 1, .ofNat 0), (0, .ofNat 0, .ofNat 0))], [(1, [(.ofNat 0, .ofNat 1)]), (2, [(.ofNat 0, .ofNat 9)]), (3, [(.ofNat 0, .ofNat 2)]), (4, [(.ofNat 0, .ofNat 7)]), (5, [(.ofNat 1, .ofNat 8)])], [], [])]
set_option maxRecDepth 1000000 in
theorem sg_me_b_g : sg_go [] [57, 140] 3000 198 45 0 5 [(0, [(.ofNat 0, .ofNat 0)]), (1, [(.ofNat 0, .ofNat 1)]), (2, [(.ofNat 0, .ofNat 9)]), (3, [(.ofNat 0, .ofNat 2)]), (4, [(.ofNat 0, .ofNat 8)])] [] [] [] [(0, .inr (.inl [122])), (1, .inl (false, (1, .ofNat 1, .ofNat 0))), (2, .inl (false, (2, .ofNat 1, .ofNat 0))), (3, .inl (false, (3, .ofNat 1, .ofNat 0))), (4, .inl (false, (4, .ofNat 1, .ofNat 0)))] [] [] sg_me_b_Z = true := by decide +kernel
set_option maxRecDepth 100000 in
theorem sg_me_b {Q : Option Value × am_S → Prop} {d : Nat} {S : am_S} {L : am_L} {x1 x2 x3 x4 : Int} (hd : 0 ≤ d) (hP : ax_P0 none S) (l0 : lc L 0 122) (l1 : li L 1 x1) (l2 : li L 2 x2) (l3 : li L 3 x3) (l4 : li L 4 x4) (b1 : (0 ≤ x1 ∧ x1 ≤ 1)) (b2 : (0 ≤ x2 ∧ x2 ≤ 9)) (b3 : (0 ≤ x3 ∧ x3 ≤ 2)) (b4 : (0 ≤ x4 ∧ x4 ≤ 8))
    (k0 : ∀ (x5 : Int) (L' : am_L), rd S 122 0 = x5 → x5 ≤ x4 → (0 ≤ x1 ∧ x1 ≤ 1) → (0 ≤ x2 ∧ x2 ≤ 9) → (0 ≤ x3 ∧ x3 ≤ 2) → (0 ≤ x4 ∧ x4 ≤ 8) → (0 ≤ x5 ∧ x5 ≤ 8) → lc L' 0 122 → li L' 1 x1 → li L' 2 x2 → li L' 3 x3 → li L' 4 x4 → am_V none d 198 140 L' ([]) S Q)
    (k1 : ∀ (x5 : Int) (L' : am_L), rd S 122 0 = x5 → x4 < x5 → (0 ≤ x1 ∧ x1 ≤ 1) → (0 ≤ x2 ∧ x2 ≤ 9) → (0 ≤ x3 ∧ x3 ≤ 2) → (0 ≤ x4 ∧ x4 ≤ 7) → (1 ≤ x5 ∧ x5 ≤ 8) → lc L' 0 122 → li L' 1 x1 → li L' 2 x2 → li L' 3 x3 → li L' 4 x4 → li L' 5 0 → am_V none d 198 57 L' ([]) S Q) : am_V none d 198 45 L ([]) S Q := by
  refine sg_use sg_me_b_g hd hP (sg_xs [0, x1, x2, x3, x4]) ⟨⟨Int.le_refl 0, Int.le_refl 0⟩, b1, b2, b3, b4, trivial⟩ trivial trivial trivial ⟨l0, l1, l2, l3, l4, trivial⟩ trivial ?_
  intro z hz x' L' st' S' hx hP' hW hL' hs' hJ hE' hT' hD'
  have q1 : x' 1 = x1 := hx 1 (by decide)
  subst q1
  have q2 : x' 2 = x2 := hx 2 (by decide)
  subst q2
  have q3 : x' 3 = x3 := hx 3 (by decide)
  subst q3
  have q4 : x' 4 = x4 := hx 4 (by decide)
  subst q4
  have eS : S' = S := hW.1 rfl
  subst eS
  simp only [sg_me_b_Z, List.mem_cons, List.not_mem_nil, or_false] at hz
  rcases hz with rfl | rfl
  · obtain ⟨f0, f1, hσ⟩ := hJ
    obtain ⟨e0, e1, e2, e3, e4, -⟩ := hE'
    obtain ⟨p0, p1, p2, p3, p4, -⟩ := hL'
    obtain rfl := sg_tn hs'
    exact k0 (x' 5) L' f0 f1 e0 e1 e2 e3 e4 p0 p1 p2 p3 p4
  · obtain ⟨f0, f1, hσ⟩ := hJ
    obtain ⟨e0, e1, e2, e3, e4, -⟩ := hE'
    obtain ⟨p0, p1, p2, p3, p4, p5, -⟩ := hL'
    obtain rfl := sg_tn hs'
    exact k1 (x' 5) L' f0 f1 e0 e1 e2 e3 e4 p0 p1 p2 p3 p4 p5
def sg_me_c_Z : List sg_z := [(46, [(0, .inr (.inl [122])), (1, .inl (false, (1, .ofNat 1, .ofNat 0))), (2, .inl (false, (2, .ofNat 1, .ofNat 0))), (3, .inl (false, (3, .ofNat 1, .ofNat 0))), (4, .inl (false, (4, .ofNat 1, .ofNat 1))), (5, .inl (false, (5, .ofNat 1, .ofNat 0)))], [], [(2, 3, (5, .ofNat 1, .ofNat 0), (6, .ofNat 1, .ofNat 0), (0, .ofNat 0, .ofNat 0)), (0, 122, (0, .ofNat 0, .ofNat 5), (6, .ofNat 1, .ofNat 0), (0, .ofNat 0, .ofNat 0))], [(1, [(.ofNat 0, .ofNat 1)]), (2, [(.ofNat 0, .ofNat 9)]), (3, [(.ofNat 0, .ofNat 2)]), (4, [(.ofNat 0, .ofNat 7)]), (5, [(.ofNat 0, .ofNat 16)]), (6, [(.ofNat 0, .ofNat 16)])], [], []),
  (58, [(0, .inr (.inl [122])), (1, .inl (false, (1, .ofNat 1, .ofNat 0))), (2, .inl (false, (2, .ofNat 1, .ofNat 0))), (3, .inl (false, (3, .ofNat 1, .ofNat 0))), (4, .inl (false, (4, .ofNat 1, .ofNat 0))), (5, .inl (false, (5, .ofNat 1, .ofNat 1)))], [], [(2, 0, (0, .ofNat 0, .ofNat 0), (0, .ofNat 0, .ofNat 0), (0, .ofNat 0, .ofNat 0)), (2, 0, (1, .ofNat 1, .ofNat 0), (9, .ofNat 1, .ofNat 0), (0, .ofNat 0, .ofNat 0)), (0, 124, (4, .ofNat 1, .ofNat 0), (9, .ofNat 1, .ofNat 0), (0, .ofNat 0, .ofNat 0)), (0, 125, (4, .ofNat 1, .ofNat 0), (7, .ofNat 1, .ofNat 0), (0, .ofNat 0, .ofNat 0)), (2, 5, (2, .ofNat 1, .ofNat 0), (7, .ofNat 1, .ofNat 0), (0, .ofNat 0, .ofNat 0)), (0, 125, (4, .ofNat 1, .ofNat 0), (7, .ofNat 1, .ofNat 0), (0, .ofNat 0, .ofNat 0)), (2, 2, (5, .ofNat 1, .ofNat 0), (6, .ofNat 1, .ofNat 0), (0, .ofNat 0, .ofNat 0)), (0, 122, (0, .ofNat 0, .ofNat 5), (6, .ofNat 1, .ofNat 0), (0, .ofNat 0, .ofNat 0))], [(1, [(.ofNat 0, .ofNat 1)]), (2, [(.ofNat 0, .ofNat 9)]), (3, [(.ofNat 0, .ofNat 2)]), (4, [(.ofNat 0, .ofNat 7)]), (5, [(.ofNat 0, .ofNat 15)]), (6, [(.ofNat 1, .ofNat 16)]), (7, [(.ofNat 0, .ofNat 9)]), (9, [(.ofNat 0, .ofNat 1)])], [], []),
  (58, [(0, .inr (.inl [122])), (1, .inl (false, (1, .ofNat 1, .ofNat 0))), (2, .inl (false, (2, .ofNat 1, .ofNat 0))), (3, .inl (false, (3, .ofNat 1, .ofNat 0))), (4, .inl (false, (4, .ofNat 1, .ofNat 0))), (5, .inl (false, (5, .ofNat 1, .ofNat 1)))], [], [(2, 0, (0, .ofNat 0, .ofNat 0), (0, .ofNat 0, .ofNat 0), (0, .ofNat 0, .ofNat 0)), (2, 5, (10, .ofNat 1, .ofNat 0), (0, .ofNat 0, .ofNat 0), (0, .ofNat 0, .ofNat 0)), (0, 125, (4, .ofNat 1, .ofNat 0), (7, .ofNat 1, .ofNat 0), (0, .ofNat 0, .ofNat 0)), (2, 0, (8, .ofNat 1, .ofNat 0), (0, .ofNat 0, .ofNat 0), (0, .ofNat 0, .ofNat 0)), (2, 1, (1, .ofNat 1, .ofNat 0), (9, .ofNat 1, .ofNat 0), (0, .ofNat 0, .ofNat 0)), (0, 124, (4, .ofNat 1, .ofNat 0), (9, .ofNat 1, .ofNat 0), (0, .ofNat 0, .ofNat 0)), (0, 125, (4, .ofNat 1, .ofNat 0), (7, .ofNat 1, .ofNat 0), (0, .ofNat 0, .ofNat 0)), (2, 5, (2, .ofNat 1, .ofNat 0), (7, .ofNat 1, .ofNat 0), (0, .ofNat 0, .ofNat 0)), (0, 125, (4, .ofNat 1, .ofNat 0), (7, .ofNat 1, .ofNat 0), (0, .ofNat 0, .ofNat 0)), (2, 2, (5, .ofNat 1, .ofNat 0), (6, .ofNat 1, .ofNat 0), (0, .ofNat 0, .ofNat 0)), (0, 122, (0, .ofNat 0, .ofNat 5), (6, .ofNat 1, .ofNat 0), (0, .ofNat 0, .ofNat 0))], [(1, [(.ofNat 0, .ofNat 1)]), (2, [(.ofNat 0, .ofNat 9)]), (3, [(.ofNat 0, .ofNat 2)]), (4, [(.ofNat 0, .ofNat 7)]), (5, [(.ofNat 0, .ofNat 15)]), (6, [(.ofNat 1, .ofNat 16)]), (7, [(.ofNat 0, .ofNat 9)]), (8, [(.ofNat 0, .ofNat 0)]), (9, [(.ofNat 0, .ofNat 1)]), (10, [(.ofNat 0, .ofNat 0)])], [((2, .ofNat 1, .ofNat 0), (7, .ofNat 1, .ofNat 0), (10, .ofNat 1, .ofNat 0)), ((7, .ofNat 1, .ofNat 0), (2, .negSucc 0, .ofNat 0), (8, .ofNat 1, .ofNat 0))], []),
  (105, [(0, .inr (.inl [122])), (1, .inl (false, (1, .ofNat 1, .ofNat 0))), (2, .inl (false, (2, .ofNat 1, .ofNat 0))), (3, .inl (false, (3, .ofNat 1, .ofNat 0))), (4, .inl (false, (4, .ofNat 1, .ofNat 0))), (5, .inl (false, (5, .ofNat 1, .ofNat 0)))], [.inl (false, (14, .ofNat 1, .ofNat 0)), .inl (false, (2, .ofNat 1, .ofNat 0)), .inl (false, (1, .ofNat 1, .ofNat 0)), .inr (.inl [122])], [(0, 127, (5, .ofNat 1, .ofNat 0), (13, .ofNat 1, .ofNat 0), (0, .ofNat 0, .ofNat 0)), (0, 123, (4, .ofNat 1, .ofNat 0), (12, .ofNat 1, .ofNat 0), (0, .ofNat 0, .ofNat 0)), (2, 0, (0, .ofNat 0, .ofNat 0), (0, .ofNat 0, .ofNat 0), (0, .ofNat 0, .ofNat 0)), (2, 0, (11, .ofNat 1, .ofNat 0), (0, .ofNat 0, .negSucc 3), (0, .ofNat 0, .ofNat 0)), (0, 130, (5, .ofNat 1, .ofNat 0), (11, .ofNat 1, .ofNat 0), (0, .ofNat 0, .ofNat 0)), (2, 1, (0, .ofNat 0, .ofNat 1), (0, .ofNat 0, .ofNat 0), (0, .ofNat 0, .ofNat 0)), (2, 4, (10, .ofNat 1, .ofNat 0), (0, .ofNat 0, .ofNat 0), (0, .ofNat 0, .ofNat 0)), (0, 125, (4, .ofNat 1, .ofNat 0), (7, .ofNat 1, .ofNat 0), (0, .ofNat 0, .ofNat 0)), (2, 0, (8, .ofNat 1, .ofNat 0), (0, .ofNat 0, .ofNat 0), (0, .ofNat 0, .ofNat 0)), (2, 1, (1, .ofNat 1, .ofNat 0), (9, .ofNat 1, .ofNat 0), (0, .ofNat 0, .ofNat 0)), (0, 124, (4, .ofNat 1, .ofNat 0), (9, .ofNat 1, .ofNat 0), (0, .ofNat 0, .ofNat 0)), (0, 125, (4, .ofNat 1, .ofNat 0), (7, .ofNat 1, .ofNat 0), (0, .ofNat 0, .ofNat 0)), (2, 5, (2, .ofNat 1, .ofNat 0), (7, .ofNat 1, .ofNat 0), (0, .ofNat 0, .ofNat 0)), (0, 125, (4, .ofNat 1, .ofNat 0), (7, .ofNat 1, .ofNat 0), (0, .ofNat 0, .ofNat 0)), (2, 2, (5, .ofNat 1, .ofNat 0), (6, .ofNat 1, .ofNat 0), (0, .ofNat 0, .ofNat 0)), (0, 122, (0, .ofNat 0, .ofNat 5), (6, .ofNat 1, .ofNat 0), (0, .ofNat 0, .ofNat 0))], [(1, [(.ofNat 0, .ofNat 1)]), (2, [(.ofNat 0, .ofNat 9)]), (3, [(.ofNat 0, .ofNat 2)]), (4, [(.ofNat 0, .ofNat 7)]), (5, [(.ofNat 0, .ofNat 15)]), (6, [(.ofNat 1, .ofNat 16)]), (7, [(.ofNat 0, .ofNat 9)]), (8, [(.ofNat 0, .ofNat 0)]), (9, [(.ofNat 0, .ofNat 1)]), (10, [(.ofNat 1, .ofNat 18)]), (11, [(.negSucc 3, .negSucc 3)]), (12, [(.ofNat 0, .ofNat 1000000)]), (13, [(.ofNat 0, .ofNat 1000000)]), (14, [(.negSucc 999999, .ofNat 1000000)])], [((12, .ofNat 1, .ofNat 0), (13, .negSucc 0, .ofNat 0), (14, .ofNat 1, .ofNat 0)), ((2, .ofNat 1, .ofNat 0), (7, .ofNat 1, .ofNat 0), (10, .ofNat 1, .ofNat 0)), ((7, .ofNat 1, .ofNat 0), (2, .negSucc 0, .ofNat 0), (8, .ofNat 1, .ofNat 0))], []),
  (58, [(0, .inr (.inl [122])), (1, .inl (false, (1, .ofNat 1, .ofNat 0))), (2, .inl (false, (2, .ofNat 1, .ofNat 0))), (3, .inl (false, (3, .ofNat 1, .ofNat 0))), (4, .inl (false, (4, .ofNat 1, .ofNat 0))), (5, .inl (false, (5, .ofNat 1, .ofNat 1)))], [], [(2, 1, (0, .ofNat 0, .ofNat 1), (0, .ofNat 0, .ofNat 0), (0, .ofNat 0, .ofNat 0)), (2, 1, (11, .ofNat 1, .ofNat 0), (0, .ofNat 0, .negSucc 3), (0, .ofNat 0, .ofNat 0)), (0, 130, (5, .ofNat 1, .ofNat 0), (11, .ofNat 1, .ofNat 0), (0, .ofNat 0, .ofNat 0)), (2, 1, (0, .ofNat 0, .ofNat 1), (0, .ofNat 0, .ofNat 0), (0, .ofNat 0, .ofNat 0)), (2, 4, (10, .ofNat 1, .ofNat 0), (0, .ofNat 0, .ofNat 0), (0, .ofNat 0, .ofNat 0)), (0, 125, (4, .ofNat 1, .ofNat 0), (7, .ofNat 1, .ofNat 0), (0, .ofNat 0, .ofNat 0)), (2, 0, (8, .ofNat 1, .ofNat 0), (0, .ofNat 0, .ofNat 0), (0, .ofNat 0, .ofNat 0)), (2, 1, (1, .ofNat 1, .ofNat 0), (9, .ofNat 1, .ofNat 0), (0, .ofNat 0, .ofNat 0)), (0, 124, (4, .ofNat 1, .ofNat 0), (9, .ofNat 1, .ofNat 0), (0, .ofNat 0, .ofNat 0)), (0, 125, (4, .ofNat 1, .ofNat 0), (7, .ofNat 1, .ofNat 0), (0, .ofNat 0, .ofNat 0)), (2, 5, (2, .ofNat 1, .ofNat 0), (7, .ofNat 1, .ofNat 0), (0, .ofNat 0, .ofNat 0)), (0, 125, (4, .ofNat 1, .ofNat 0), (7, .ofNat 1, .ofNat 0), (0, .ofNat 0, .ofNat 0)), (2, 2, (5, .ofNat 1, .ofNat 0), (6, .ofNat 1, .ofNat 0), (0, .ofNat 0, .ofNat 0)), (0, 122, (0, .ofNat 0, .ofNat 5), (6, .ofNat 1, .ofNat 0), (0, .ofNat 0, .ofNat 0))], [(1, [(.ofNat 0, .ofNat 1)]), (2, [(.ofNat 0, .ofNat 9)]), (3, [(.ofNat 0, .ofNat 2)]), (4, [(.ofNat 0, .ofNat 7)]), (5, [(.ofNat 0, .ofNat 15)]), (6, [(.ofNat 1, .ofNat 16)]), (7, [(.ofNat 0, .ofNat 9)]), (8, [(.ofNat 0, .ofNat 0)]), (9, [(.ofNat 0, .ofNat 1)]), (10, [(.ofNat 1, .ofNat 18)]), (11, [(.ofNat 0, .ofNat 7)])], [((2, .ofNat 1, .ofNat 0), (7, .ofNat 1, .ofNat 0), (10, .ofNat 1, .ofNat 0)), ((7, .ofNat 1, .ofNat 0), (2, .negSucc 0, .ofNat 0), (8, .ofNat 1, .ofNat 0))], []),
  (58, [(0, .inr (.inl [122])), (1, .inl (false, (1, .ofNat 1, .ofNat 0))), (2, .inl (false, (2, .ofNat 1, .ofNat 0))), (3, .inl (false, (3, .ofNat 1, .ofNat 0))), (4, .inl (false, (4, .ofNat 1, .ofNat 0))), (5, .inl (false, (5, .ofNat 1, .ofNat 1)))], [], [(2, 0, (0, .ofNat 0, .ofNat 0), (0, .ofNat 0, .ofNat 0), (0, .ofNat 0, .ofNat 0)), (2, 1, (8, .ofNat 1, .ofNat 0), (0, .ofNat 0, .ofNat 2), (0, .ofNat 0, .ofNat 0)), (2, 1, (8, .ofNat 1, .ofNat 0), (0, .ofNat 0, .ofNat 0), (0, .ofNat 0, .ofNat 0)), (2, 1, (1, .ofNat 1, .ofNat 0), (9, .ofNat 1, .ofNat 0), (0, .ofNat 0, .ofNat 0)), (0, 124, (4, .ofNat 1, .ofNat 0), (9, .ofNat 1, .ofNat 0), (0, .ofNat 0, .ofNat 0)), (0, 125, (4, .ofNat 1, .ofNat 0), (7, .ofNat 1, .ofNat 0), (0, .ofNat 0, .ofNat 0)), (2, 5, (2, .ofNat 1, .ofNat 0), (7, .ofNat 1, .ofNat 0), (0, .ofNat 0, .ofNat 0)), (0, 125, (4, .ofNat 1, .ofNat 0), (7, .ofNat 1, .ofNat 0), (0, .ofNat 0, .ofNat 0)), (2, 2, (5, .ofNat 1, .ofNat 0), (6, .ofNat 1, .ofNat 0), (0, .ofNat 0, .ofNat 0)), (0, 122, (0, .ofNat 0, .ofNat 5), (6, .ofNat 1, .ofNat 0), (0, .ofNat 0, .ofNat 0))], [(1, [(.ofNat 0, .ofNat 1)]), (2, [(.ofNat 0, .ofNat 9)]), (3, [(.ofNat 0, .ofNat 2)]), (4, [(.ofNat 0, .ofNat 7)]), (5, [(.ofNat 0, .ofNat 15)]), (6, [(.ofNat 1, .ofNat 16)]), (7, [(.ofNat 0, .ofNat 9)]), (8, [(.negSucc 8, .negSucc 0), (.ofNat 1, .ofNat 1), (.ofNat 3, .ofNat 9)]), (9, [(.ofNat 0, .ofNat 1)])], [((7, .ofNat 1, .ofNat 0), (2, .negSucc 0, .ofNat 0), (8, .ofNat 1, .ofNat 0))], []),
  (58, [(0, .inr (.inl [122])), (1, .inl (false, (1, .ofNat 1, .ofNat 0))), (2, .inl (false, (2, .ofNat 1, .ofNat 0))), (3, .inl (false, (3, .ofNat 1, .ofNat 0))), (4, .inl (false, (4, .ofNat 1, .ofNat 0))), (5, .inl (false, (5, .ofNat 1, .ofNat 1)))], [], [(2, 0, (0, .ofNat 0, .ofNat 0), (0, .ofNat 0, .ofNat 0), (0, .ofNat 0, .ofNat 0)), (2, 5, (10, .ofNat 1, .ofNat 0), (0, .ofNat 0, .ofNat 0), (0, .ofNat 0, .ofNat 0)), (0, 125, (4, .ofNat 1, .ofNat 0), (7, .ofNat 1, .ofNat 0), (0, .ofNat 0, .ofNat 0)), (2, 0, (8, .ofNat 1, .ofNat 0), (0, .ofNat 0, .ofNat 2), (0, .ofNat 0, .ofNat 0)), (2, 1, (8, .ofNat 1, .ofNat 0), (0, .ofNat 0, .ofNat 0), (0, .ofNat 0, .ofNat 0)), (2, 1, (1, .ofNat 1, .ofNat 0), (9, .ofNat 1, .ofNat 0), (0, .ofNat 0, .ofNat 0)), (0, 124, (4, .ofNat 1, .ofNat 0), (9, .ofNat 1, .ofNat 0), (0, .ofNat 0, .ofNat 0)), (0, 125, (4, .ofNat 1, .ofNat 0), (7, .ofNat 1, .ofNat 0), (0, .ofNat 0, .ofNat 0)), (2, 5, (2, .ofNat 1, .ofNat 0), (7, .ofNat 1, .ofNat 0), (0, .ofNat 0, .ofNat 0)), (0, 125, (4, .ofNat 1, .ofNat 0), (7, .ofNat 1, .ofNat 0), (0, .ofNat 0, .ofNat 0)), (2, 2, (5, .ofNat 1, .ofNat 0), (6, .ofNat 1, .ofNat 0), (0, .ofNat 0, .ofNat 0)), (0, 122, (0, .ofNat 0, .ofNat 5), (6, .ofNat 1, .ofNat 0), (0, .ofNat 0, .ofNat 0))], [(1, [(.ofNat 0, .ofNat 1)]), (2, [(.ofNat 0, .ofNat 9)]), (3, [(.ofNat 0, .ofNat 2)]), (4, [(.ofNat 0, .ofNat 7)]), (5, [(.ofNat 0, .ofNat 15)]), (6, [(.ofNat 1, .ofNat 16)]), (7, [(.ofNat 0, .ofNat 9)]), (8, [(.ofNat 2, .ofNat 2)]), (9, [(.ofNat 0, .ofNat 1)]), (10, [(.ofNat 0, .ofNat 0)])], [((2, .ofNat 1, .ofNat 0), (7, .ofNat 1, .ofNat 0), (10, .ofNat 1, .ofNat 0)), ((7, .ofNat 1, .ofNat 0), (2, .negSucc 0, .ofNat 0), (8, .ofNat 1, .ofNat 0))], []),
  (105, [(0, .inr (.inl [122])), (1, .inl (false, (1, .ofNat 1, .ofNat 0))), (2, .inl (false, (2, .ofNat 1, .ofNat 0))), (3, .inl (false, (3, .ofNat 1, .ofNat 0))), (4, .inl (false, (4, .ofNat 1, .ofNat 0))), (5, .inl (false, (5, .ofNat 1, .ofNat 0)))], [.inl (false, (14, .ofNat 1, .ofNat 0)), .inl (false, (2, .ofNat 1, .ofNat 0)), .inl (false, (1, .ofNat 1, .ofNat 0)), .inr (.inl [122])], [(0, 127, (5, .ofNat 1, .ofNat 0), (13, .ofNat 1, .ofNat 0), (0, .ofNat 0, .ofNat 0)), (0, 123, (4, .ofNat 1, .ofNat 0), (12, .ofNat 1, .ofNat 0), (0, .ofNat 0, .ofNat 0)), (2, 0, (0, .ofNat 0, .ofNat 0), (0, .ofNat 0, .ofNat 0), (0, .ofNat 0, .ofNat 0)), (2, 0, (11, .ofNat 1, .ofNat 0), (0, .ofNat 0, .negSucc 3), (0, .ofNat 0, .ofNat 0)), (0, 130, (5, .ofNat 1, .ofNat 0), (11, .ofNat 1, .ofNat 0), (0, .ofNat 0, .ofNat 0)), (2, 1, (0, .ofNat 0, .ofNat 1), (0, .ofNat 0, .ofNat 0), (0, .ofNat 0, .ofNat 0)), (2, 4, (10, .ofNat 1, .ofNat 0), (0, .ofNat 0, .ofNat 0), (0, .ofNat 0, .ofNat 0)), (0, 125, (4, .ofNat 1, .ofNat 0), (7, .ofNat 1, .ofNat 0), (0, .ofNat 0, .ofNat 0)), (2, 0, (8, .ofNat 1, .ofNat 0), (0, .ofNat 0, .ofNat 2), (0, .ofNat 0, .ofNat 0)), (2, 1, (8, .ofNat 1, .ofNat 0), (0, .ofNat 0, .ofNat 0), (0, .ofNat 0, .ofNat 0)), (2, 1, (1, .ofNat 1, .ofNat 0), (9, .ofNat 1, .ofNat 0), (0, .ofNat 0, .ofNat 0)), (0, 124, (4, .ofNat 1, .ofNat 0), (9, .ofNat 1, .ofNat 0), (0, .ofNat 0, .ofNat 0)), (0, 125, (4, .ofNat 1, .ofNat 0), (7, .ofNat 1, .ofNat 0), (0, .ofNat 0, .ofNat 0)), (2, 5, (2, .ofNat 1, .ofNat 0), (7, .ofNat 1, .ofNat 0), (0, .ofNat 0, .ofNat 0)), (0, 125, (4, .ofNat 1, .ofNat 0), (7, .ofNat 1, .ofNat 0), (0, .ofNat 0, .ofNat 0)), (2, 2, (5, .ofNat 1, .ofNat 0), (6, .ofNat 1, .ofNat 0), (0, .ofNat 0, .ofNat 0)), (0, 122, (0, .ofNat 0, .ofNat 5), (6, .ofNat 1, .ofNat 0), (0, .ofNat 0, .ofNat 0))], [(1, [(.ofNat 0, .ofNat 1)]), (2, [(.ofNat 0, .ofNat 9)]), (3, [(.ofNat 0, .ofNat 2)]), (4, [(.ofNat 0, .ofNat 7)]), (5, [(.ofNat 0, .ofNat 15)]), (6, [(.ofNat 1, .ofNat 16)]), (7, [(.ofNat 0, .ofNat 9)]), (8, [(.ofNat 2, .ofNat 2)]), (9, [(.ofNat 0, .ofNat 1)]), (10, [(.ofNat 1, .ofNat 18)]), (11, [(.negSucc 3, .negSucc 3)]), (12, [(.ofNat 0, .ofNat 1000000)]), (13, [(.ofNat 0, .ofNat 1000000)]), (14, [(.negSucc 999999, .ofNat 1000000)])], [((12, .ofNat 1, .ofNat 0), (13, .negSucc 0, .ofNat 0), (14, .ofNat 1, .ofNat 0)), ((2, .ofNat 1, .ofNat 0), (7, .ofNat 1, .ofNat 0), (10, .ofNat 1, .ofNat 0)), ((7, .ofNat 1, .ofNat 0), (2, .negSucc 0, .ofNat 0), (8, .ofNat 1, .ofNat 0))], []),
  (58, [(0, .inr (.inl [122])), (1, .inl (false, (1, .ofNat 1, .ofNat 0))), (2, .inl (false, (2, .ofNat 1, .ofNat 0))), (3, .inl (false, (3, .ofNat 1, .ofNat 0))), (4, .inl (false, (4, .ofNat 1, .ofNat 0))), (5, .inl (false, (5, .ofNat 1, .ofNat 1)))], [], [(2, 1, (0, .ofNat 0, .ofNat 1), (0, .ofNat 0, .ofNat 0), (0, .ofNat 0, .ofNat 0)), (2, 1, (11, .ofNat 1, .ofNat 0), (0, .ofNat 0, .negSucc 3), (0, .ofNat 0, .ofNat 0)), (0, 130, (5, .ofNat 1, .ofNat 0), (11, .ofNat 1, .ofNat 0), (0, .ofNat 0, .ofNat 0)), (2, 1, (0, .ofNat 0, .ofNat 1), (0, .ofNat 0, .ofNat 0), (0, .ofNat 0, .ofNat 0)), (2, 4, (10, .ofNat 1, .ofNat 0), (0, .ofNat 0, .ofNat 0), (0, .ofNat 0, .ofNat 0)), (0, 125, (4, .ofNat 1, .ofNat 0), (7, .ofNat 1, .ofNat 0), (0, .ofNat 0, .ofNat 0)), (2, 0, (8, .ofNat 1, .ofNat 0), (0, .ofNat 0, .ofNat 2), (0, .ofNat 0, .ofNat 0)), (2, 1, (8, .ofNat 1, .ofNat 0), (0, .ofNat 0, .ofNat 0), (0, .ofNat 0, .ofNat 0)), (2, 1, (1, .ofNat 1, .ofNat 0), (9, .ofNat 1, .ofNat 0), (0, .ofNat 0, .ofNat 0)), (0, 124, (4, .ofNat 1, .ofNat 0), (9, .ofNat 1, .ofNat 0), (0, .ofNat 0, .ofNat 0)), (0, 125, (4, .ofNat 1, .ofNat 0), (7, .ofNat 1, .ofNat 0), (0, .ofNat 0, .ofNat 0)), (2, 5, (2, .ofNat 1, .ofNat 0), (7, .ofNat 1, .ofNat 0), (0, .ofNat 0, .ofNat 0)), (0, 125, (4, .ofNat 1, .ofNat 0), (7, .ofNat 1, .ofNat 0), (0, .ofNat 0, .ofNat 0)), (2, 2, (5, .ofNat 1, .ofNat 0), (6, .ofNat 1, .ofNat 0), (0, .ofNat 0, .ofNat 0)), (0, 122, (0, .ofNat 0, .ofNat 5), (6, .ofNat 1, .ofNat 0), (0, .ofNat 0, .ofNat 0))], [(1, [(.ofNat 0, .ofNat 1)]), (2, [(.ofNat 0, .ofNat 9)]), (3, [(.ofNat 0, .ofNat 2)]), (4, [(.ofNat 0, .ofNat 7)]), (5, [(.ofNat 0, .ofNat 15)]), (6, [(.ofNat 1, .ofNat 16)]), (7, [(.ofNat 0, .ofNat 9)]), (8, [(.ofNat 2, .ofNat 2)]), (9, [(.ofNat 0, .ofNat 1)]), (10, [(.ofNat 1, .ofNat 18)]), (11, [(.ofNat 0, .ofNat 7)])], [((2, .ofNat 1, .ofNat 0), (7, .ofNat 1, .ofNat 0), (10, .ofNat 1, .ofNat 0)), ((7, .ofNat 1, .ofNat 0), (2, .negSucc 0, .ofNat 0), (8, .ofNat 1, .ofNat 0))], []),
  (58, [(0, .inr (.inl [122])), (1, .inl (false, (1, .ofNat 1, .ofNat 0))), (2, .inl (false, (2, .ofNat 1, .ofNat 0))), (3, .inl (false, (3, .ofNat 1, .ofNat 0))), (4, .inl (false, (4, .ofNat 1, .ofNat 0))), (5, .inl (false, (5, .ofNat 1, .ofNat 1)))], [], [(2, 0, (0, .ofNat 0, .ofNat 0), (0, .ofNat 0, .ofNat 0), (0, .ofNat 0, .ofNat 0)), (2, 0, (1, .ofNat 1, .ofNat 0), (9, .ofNat 1, .ofNat 0), (0, .ofNat 0, .ofNat 0)), (0, 124, (4, .ofNat 1, .ofNat 0), (9, .ofNat 1, .ofNat 0), (0, .ofNat 0, .ofNat 0)), (0, 125, (4, .ofNat 1, .ofNat 0), (7, .ofNat 1, .ofNat 0), (0, .ofNat 0, .ofNat 0)), (2, 4, (2, .ofNat 1, .ofNat 0), (7, .ofNat 1, .ofNat 0), (0, .ofNat 0, .ofNat 0)), (0, 125, (4, .ofNat 1, .ofNat 0), (7, .ofNat 1, .ofNat 0), (0, .ofNat 0, .ofNat 0)), (2, 2, (5, .ofNat 1, .ofNat 0), (6, .ofNat 1, .ofNat 0), (0, .ofNat 0, .ofNat 0)), (0, 122, (0, .ofNat 0, .ofNat 5), (6, .ofNat 1, .ofNat 0), (0, .ofNat 0, .ofNat 0))], [(1, [(.ofNat 0, .ofNat 1)]), (2, [(.ofNat 1, .ofNat 9)]), (3, [(.ofNat 0, .ofNat 2)]), (4, [(.ofNat 0, .ofNat 7)]), (5, [(.ofNat 0, .ofNat 15)]), (6, [(.ofNat 1, .ofNat 16)]), (7, [(.ofNat 0, .ofNat 8)]), (9, [(.ofNat 0, .ofNat 1)])], [], []),
  (105, [(0, .inr (.inl [122])), (1, .inl (false, (1, .ofNat 1, .ofNat 0))), (2, .inl (false, (2, .ofNat 1, .ofNat 0))), (3, .inl (false, (3, .ofNat 1, .ofNat 0))), (4, .inl (false, (4, .ofNat 1, .ofNat 0))), (5, .inl (false, (5, .ofNat 1, .ofNat 0)))], [.inl (false, (14, .ofNat 1, .ofNat 0)), .inl (false, (2, .ofNat 1, .ofNat 0)), .inl (false, (1, .ofNat 1, .ofNat 0)), .inr (.inl [122])], [(0, 127, (5, .ofNat 1, .ofNat 0), (13, .ofNat 1, .ofNat 0), (0, .ofNat 0, .ofNat 0)), (0, 123, (4, .ofNat 1, .ofNat 0), (12, .ofNat 1, .ofNat 0), (0, .ofNat 0, .ofNat 0)), (2, 0, (0, .ofNat 0, .ofNat 0), (0, .ofNat 0, .ofNat 0), (0, .ofNat 0, .ofNat 0)), (2, 0, (11, .ofNat 1, .ofNat 0), (0, .ofNat 0, .negSucc 3), (0, .ofNat 0, .ofNat 0)), (0, 130, (5, .ofNat 1, .ofNat 0), (11, .ofNat 1, .ofNat 0), (0, .ofNat 0, .ofNat 0)), (2, 1, (0, .ofNat 0, .ofNat 1), (0, .ofNat 0, .ofNat 0), (0, .ofNat 0, .ofNat 0)), (2, 4, (10, .ofNat 1, .ofNat 0), (0, .ofNat 0, .ofNat 0), (0, .ofNat 0, .ofNat 0)), (0, 125, (4, .ofNat 1, .ofNat 0), (7, .ofNat 1, .ofNat 0), (0, .ofNat 0, .ofNat 0)), (2, 0, (8, .ofNat 1, .ofNat 0), (0, .ofNat 0, .ofNat 0), (0, .ofNat 0, .ofNat 0)), (2, 1, (1, .ofNat 1, .ofNat 0), (9, .ofNat 1, .ofNat 0), (0, .ofNat 0, .ofNat 0)), (0, 124, (4, .ofNat 1, .ofNat 0), (9, .ofNat 1, .ofNat 0), (0, .ofNat 0, .ofNat 0)), (0, 125, (4, .ofNat 1, .ofNat 0), (7, .ofNat 1, .ofNat 0), (0, .ofNat 0, .ofNat 0)), (2, 4, (2, .ofNat 1, .ofNat 0), (7, .ofNat 1, .ofNat 0), (0, .ofNat 0, .ofNat 0)), (0, 125, (4, .ofNat 1, .ofNat 0), (7, .ofNat 1, .ofNat 0), (0, .ofNat 0, .ofNat 0)), (2, 2, (5, .ofNat 1, .ofNat 0), (6, .ofNat 1, .ofNat 0), (0, .ofNat 0, .ofNat 0)), (0, 122, (0, .ofNat 0, .ofNat 5), (6, .ofNat 1, .ofNat 0), (0, .ofNat 0, .ofNat 0))], [(1, [(.ofNat 0, .ofNat 1)]), (2, [(.ofNat 1, .ofNat 9)]), (3, [(.ofNat 0, .ofNat 2)]), (4, [(.ofNat 0, .ofNat 7)]), (5, [(.ofNat 0, .ofNat 15)]), (6, [(.ofNat 1, .ofNat 16)]), (7, [(.ofNat 0, .ofNat 8)]), (8, [(.ofNat 0, .ofNat 0)]), (9, [(.ofNat 0, .ofNat 1)]), (10, [(.ofNat 1, .ofNat 17)]), (11, [(.negSucc 3, .negSucc 3)]), (12, [(.ofNat 0, .ofNat 1000000)]), (13, [(.ofNat 0, .ofNat 1000000)]), (14, [(.negSucc 999999, .ofNat 1000000)])], [((12, .ofNat 1, .ofNat 0), (13, .negSucc 0, .ofNat 0), (14, .ofNat 1, .ofNat 0)), ((2, .ofNat 1, .ofNat 0), (7, .ofNat 1, .ofNat 0), (10, .ofNat 1, .ofNat 0)), ((2, .ofNat 1, .ofNat 0), (7, .negSucc 0, .ofNat 0), (8, .ofNat 1, .ofNat 0))], []),
  (58, [(0, .inr (.inl [122])), (1, .inl (false, (1, .ofNat 1, .ofNat 0))), (2, .inl (false, (2, .ofNat 1, .ofNat 0))), (3, .inl (false, (3, .ofNat 1, .ofNat 0))), (4, .inl (false, (4, .ofNat 1, .ofNat 0))), (5, .inl (false, (5, .ofNat 1, .ofNat 1)))], [], [(2, 1, (0, .ofNat 0, .ofNat 1), (0, .ofNat 0, .ofNat 0), (0, .ofNat 0, .ofNat 0)), (2, 1, (11, .ofNat 1, .ofNat 0), (0, .ofNat 0, .negSucc 3), (0, .ofNat 0, .ofNat 0)), (0, 130, (5, .ofNat 1, .ofNat 0), (11, .ofNat 1, .ofNat 0), (0, .ofNat 0, .ofNat 0)), (2, 1, (0, .ofNat 0, .ofNat 1), (0, .ofNat 0, .ofNat 0), (0, .ofNat 0, .ofNat 0)), (2, 4, (10, .ofNat 1, .ofNat 0), (0, .ofNat 0, .ofNat 0), (0, .ofNat 0, .ofNat 0)), (0, 125, (4, .ofNat 1, .ofNat 0), (7, .ofNat 1, .ofNat 0), (0, .ofNat 0, .ofNat 0)), (2, 0, (8, .ofNat 1, .ofNat 0), (0, .ofNat 0, .ofNat 0), (0, .ofNat 0, .ofNat 0)), (2, 1, (1, .ofNat 1, .ofNat 0), (9, .ofNat 1, .ofNat 0), (0, .ofNat 0, .ofNat 0)), (0, 124, (4, .ofNat 1, .ofNat 0), (9, .ofNat 1, .ofNat 0), (0, .ofNat 0, .ofNat 0)), (0, 125, (4, .ofNat 1, .ofNat 0), (7, .ofNat 1, .ofNat 0), (0, .ofNat 0, .ofNat 0)), (2, 4, (2, .ofNat 1, .ofNat 0), (7, .ofNat 1, .ofNat 0), (0, .ofNat 0, .ofNat 0)), (0, 125, (4, .ofNat 1, .ofNat 0), (7, .ofNat 1, .ofNat 0), (0, .ofNat 0, .ofNat 0)), (2, 2, (5, .ofNat 1, .ofNat 0), (6, .ofNat 1, .ofNat 0), (0, .ofNat 0, .ofNat 0)), (0, 122, (0, .ofNat 0, .ofNat 5), (6, .ofNat 1, .ofNat 0), (0, .ofNat 0, .ofNat 0))], [(1, [(.ofNat 0, .ofNat 1)]), (2, [(.ofNat 1, .ofNat 9)]), (3, [(.ofNat 0, .ofNat 2)]), (4, [(.ofNat 0, .ofNat 7)]), (5, [(.ofNat 0, .ofNat 15)]), (6, [(.ofNat 1, .ofNat 16)]), (7, [(.ofNat 0, .ofNat 8)]), (8, [(.ofNat 0, .ofNat 0)]), (9, [(.ofNat 0, .ofNat 1)]), (10, [(.ofNat 1, .ofNat 17)]), (11, [(.ofNat 0, .ofNat 7)])], [((2, .ofNat 1, .ofNat 0), (7, .ofNat 1, .ofNat 0), (10, .ofNat 1, .ofNat 0)), ((2, .ofNat 1, .ofNat 0), (7, .negSucc 0, .ofNat 0), (8, .ofNat 1, .ofNat 0))], []),
  (58, [(0, .inr (.inl [122])), (1, .inl (false, (1, .ofNat 1, .ofNat 0))), (2, .inl (false, (2, .ofNat 1, .ofNat 0))), (3, .inl (false, (3, .ofNat 1, .ofNat 0))), (4, .inl (false, (4, .ofNat 1, .ofNat 0))), (5, .inl (false, (5, .ofNat 1, .ofNat 1)))], [], [(2, 0, (0, .ofNat 0, .ofNat 0), (0, .ofNat 0, .ofNat 0), (0, .ofNat 0, .ofNat 0)), (2, 1, (8, .ofNat 1, .ofNat 0), (0, .ofNat 0, .ofNat 2), (0, .ofNat 0, .ofNat 0)), (2, 1, (8, .ofNat 1, .ofNat 0), (0, .ofNat 0, .ofNat 0), (0, .ofNat 0, .ofNat 0)), (2, 1, (1, .ofNat 1, .ofNat 0), (9, .ofNat 1, .ofNat 0), (0, .ofNat 0, .ofNat 0)), (0, 124, (4, .ofNat 1, .ofNat 0), (9, .ofNat 1, .ofNat 0), (0, .ofNat 0, .ofNat 0)), (0, 125, (4, .ofNat 1, .ofNat 0), (7, .ofNat 1, .ofNat 0), (0, .ofNat 0, .ofNat 0)), (2, 4, (2, .ofNat 1, .ofNat 0), (7, .ofNat 1, .ofNat 0), (0, .ofNat 0, .ofNat 0)), (0, 125, (4, .ofNat 1, .ofNat 0), (7, .ofNat 1, .ofNat 0), (0, .ofNat 0, .ofNat 0)), (2, 2, (5, .ofNat 1, .ofNat 0), (6, .ofNat 1, .ofNat 0), (0, .ofNat 0, .ofNat 0)), (0, 122, (0, .ofNat 0, .ofNat 5), (6, .ofNat 1, .ofNat 0), (0, .ofNat 0, .ofNat 0))], [(1, [(.ofNat 0, .ofNat 1)]), (2, [(.ofNat 1, .ofNat 9)]), (3, [(.ofNat 0, .ofNat 2)]), (4, [(.ofNat 0, .ofNat 7)]), (5, [(.ofNat 0, .ofNat 15)]), (6, [(.ofNat 1, .ofNat 16)]), (7, [(.ofNat 0, .ofNat 8)]), (8, [(.negSucc 6, .negSucc 0), (.ofNat 1, .ofNat 1), (.ofNat 3, .ofNat 9)]), (9, [(.ofNat 0, .ofNat 1)])], [((2, .ofNat 1, .ofNat 0), (7, .negSucc 0, .ofNat 0), (8, .ofNat 1, .ofNat 0))], []),
  (105, [(0, .inr (.inl [122])), (1, .inl (false, (1, .ofNat 1, .ofNat 0))), (2, .inl (false, (2, .ofNat 1, .ofNat 0))), (3, .inl (false, (3, .ofNat 1, .ofNat 0))), (4, .inl (false, (4, .ofNat 1, .ofNat 0))), (5, .inl (false, (5, .ofNat 1, .ofNat 0)))], [.inl (false, (14, .ofNat 1, .ofNat 0)), .inl (false, (2, .ofNat 1, .ofNat 0)), .inl (false, (1, .ofNat 1, .ofNat 0)), .inr (.inl [122])], [(0, 127, (5, .ofNat 1, .ofNat 0), (13, .ofNat 1, .ofNat 0), (0, .ofNat 0, .ofNat 0)), (0, 123, (4, .ofNat 1, .ofNat 0), (12, .ofNat 1, .ofNat 0), (0, .ofNat 0, .ofNat 0)), (2, 0, (0, .ofNat 0, .ofNat 0), (0, .ofNat 0, .ofNat 0), (0, .ofNat 0, .ofNat 0)), (2, 0, (11, .ofNat 1, .ofNat 0), (0, .ofNat 0, .negSucc 3), (0, .ofNat 0, .ofNat 0)), (0, 130, (5, .ofNat 1, .ofNat 0), (11, .ofNat 1, .ofNat 0), (0, .ofNat 0, .ofNat 0)), (2, 1, (0, .ofNat 0, .ofNat 1), (0, .ofNat 0, .ofNat 0), (0, .ofNat 0, .ofNat 0)), (2, 4, (10, .ofNat 1, .ofNat 0), (0, .ofNat 0, .ofNat 0), (0, .ofNat 0, .ofNat 0)), (0, 125, (4, .ofNat 1, .ofNat 0), (7, .ofNat 1, .ofNat 0), (0, .ofNat 0, .ofNat 0)), (2, 0, (8, .ofNat 1, .ofNat 0), (0, .ofNat 0, .ofNat 2), (0, .ofNat 0, .ofNat 0)), (2, 1, (8, .ofNat 1, .ofNat 0), (0, .ofNat 0, .ofNat 0), (0, .ofNat 0, .ofNat 0)), (2, 1, (1, .ofNat 1, .ofNat 0), (9, .ofNat 1, .ofNat 0), (0, .ofNat 0, .ofNat 0)), (0, 124, (4, .ofNat 1, .ofNat 0), (9, .ofNat 1, .ofNat 0), (0, .ofNat 0, .ofNat 0)), (0, 125, (4, .ofNat 1, .ofNat 0), (7, .ofNat 1, .ofNat 0), (0, .ofNat 0, .ofNat 0)), (2, 4, (2, .ofNat 1, .ofNat 0), (7, .ofNat 1, .ofNat 0), (0, .ofNat 0, .ofNat 0)), (0, 125, (4, .ofNat 1, .ofNat 0), (7, .ofNat 1, .ofNat 0), (0, .ofNat 0, .ofNat 0)), (2, 2, (5, .ofNat 1, .ofNat 0), (6, .ofNat 1, .ofNat 0), (0, .ofNat 0, .ofNat 0)), (0, 122, (0, .ofNat 0, .ofNat 5), (6, .ofNat 1, .ofNat 0), (0, .ofNat 0, .ofNat 0))], [(1, [(.ofNat 0, .ofNat 1)]), (2, [(.ofNat 1, .ofNat 9)]), (3, [(.ofNat 0, .ofNat 2)]), (4, [(.ofNat 0, .ofNat 7)]), (5, [(.ofNat 0, .ofNat 15)]), (6, [(.ofNat 1, .ofNat 16)]), (7, [(.ofNat 0, .ofNat 8)]), (8, [(.ofNat 2, .ofNat 2)]), (9, [(.ofNat 0, .ofNat 1)]), (10, [(.ofNat 1, .ofNat 17)]), (11, [(.negSucc 3, .negSucc 3)]), (12, [(.ofNat 0, .ofNat 1000000)]), (13, [(.ofNat 0, .ofNat 1000000)]), (14, [(.negSucc 999999, .ofNat 1000000)])], [((12, .ofNat 1, .ofNat 0), (13, .negSucc 0, .ofNat 0), (14, .ofNat 1, .ofNat 0)), ((2, .ofNat 1, .ofNat 0), (7, .ofNat 1, .ofNat 0), (10, .ofNat 1, .ofNat 0)), ((2, .ofNat 1, .ofNat 0), (7, .negSucc 0, .ofNat 0), (8, .ofNat 1, .ofNat 0))], []),
  (58, [(0, .inr (.inl [122])), (1, .inl (false, (1, .ofNat 1, .ofNat 0))), (2, .inl (false, (2, .ofNat 1, .ofNat 0))), (3, .inl (false, (3, .ofNat 1, .ofNat 0))), (4, .inl (false, (4, .ofNat 1, .ofNat 0))), (5, .inl (false, (5, .ofNat 1, .ofNat 1)))], [], [(2, 1, (0, .ofNat 0, .ofNat 1), (0, .ofNat 0, .ofNat 0), (0, .ofNat 0, .ofNat 0)), (2, 1, (11, .ofNat 1, .ofNat 0), (0, .ofNat 0, .negSucc 3), (0, .ofNat 0, .ofNat 0)), (0, 130, (5, .ofNat 1, .ofNat 0), (11, .ofNat 1, .ofNat 0), (0, .ofNat 0, .ofNat 0)), (2, 1, (0, .ofNat 0, .ofNat 1), (0, .ofNat 0, .ofNat 0), (0, .ofNat 0, .ofNat 0)), (2, 4, (10, .ofNat 1, .ofNat 0), (0, .ofNat 0, .ofNat 0), (0, .ofNat 0, .ofNat 0)), (0, 125, (4, .ofNat 1, .ofNat 0), (7, .ofNat 1, .ofNat 0), (0, .ofNat 0, .ofNat 0)), (2, 0, (8, .ofNat 1, .ofNat 0), (0, .ofNat 0, .ofNat 2), (0, .ofNat 0, .ofNat 0)), (2, 1, (8, .ofNat 1, .ofNat 0), (0, .ofNat 0, .ofNat 0), (0, .ofNat 0, .ofNat 0)), (2, 1, (1, .ofNat 1, .ofNat 0), (9, .ofNat 1, .ofNat 0), (0, .ofNat 0, .ofNat 0)), (0, 124, (4, .ofNat 1, .ofNat 0), (9, .ofNat 1, .ofNat 0), (0, .ofNat 0, .ofNat 0)), (0, 125, (4, .ofNat 1, .ofNat 0), (7, .ofNat 1, .ofNat 0), (0, .ofNat 0, .ofNat 0)), (2, 4, (2, .ofNat 1, .ofNat 0), (7, .ofNat 1, .ofNat 0), (0, .ofNat 0, .ofNat 0)), (0, 125, (4, .ofNat 1, .ofNat 0), (7, .ofNat 1, .ofNat 0), (0, .ofNat 0, .ofNat 0)), (2, 2, (5, .ofNat 1, .ofNat 0), (6, .ofNat 1, .ofNat 0), (0, .ofNat 0, .ofNat 0)), (0, 122, (0, .ofNat 0, .ofNat 5), (6, .ofNat 1, .ofNat 0), (0, .ofNat 0, .ofNat 0))], [(1, [(.ofNat 0, .ofNat 1)]), (2, [(.ofNat 1, .ofNat 9)]), (3, [(.ofNat 0, .ofNat 2)]), (4, [(.ofNat 0, .ofNat 7)]), (5, [(.ofNat 0, .ofNat 15)]), (6, [(.ofNat 1, .ofNat 16)]), (7, [(.ofNat 0, .ofNat 8)]), (8, [(.ofNat 2, .ofNat 2)]), (9, [(.ofNat 0, .ofNat 1)]), (10, [(.ofNat 1, .ofNat 17)]), (11, [(.ofNat 0, .ofNat 7)])], [((2, .ofNat 1, .ofNat 0), (7, .ofNat 1, .ofNat 0), (10, .ofNat 1, .ofNat 0)), ((2, .ofNat 1, .ofNat 0), (7, .negSucc 0, .ofNat 0), (8, .ofNat 1, .ofNat 0))], [])]
set_option maxRecDepth 1000000 in
theorem sg_me_c_g : sg_go [] [57, 45, 104] 3000 198 57 1 6 [(0, [(.ofNat 0, .ofNat 0)]), (1, [(.ofNat 0, .ofNat 1)]), (2, [(.ofNat 0, .ofNat 9)]), (3, [(.ofNat 0, .ofNat 2)]), (4, [(.ofNat 0, .ofNat 7)]), (5, [(.ofNat 0, .ofNat 16)])] [] [] [] [(0, .inr (.inl [122])), (1, .inl (false, (1, .ofNat 1, .ofNat 0))), (2, .inl (false, (2, .ofNat 1, .ofNat 0))), (3, .inl (false, (3, .ofNat 1, .ofNat 0))), (4, .inl (false, (4, .ofNat 1, .ofNat 0))), (5, .inl (false, (5, .ofNat 1, .ofNat 0)))] [] [] sg_me_c_Z = true := by decide +kernel
set_option maxRecDepth 100000 in
theorem sg_me_c {Q : Option Value × am_S → Prop} {d : Nat} {S : am_S} {L : am_L} {x1 x2 x3 x4 x5 : Int} (hd : 1 ≤ d) (hP : ax_P0 none S) (l0 : lc L 0 122) (l1 : li L 1 x1) (l2 : li L 2 x2) (l3 : li L 3 x3) (l4 : li L 4 x4) (l5 : li L 5 x5) (b1 : (0 ≤ x1 ∧ x1 ≤ 1)) (b2 : (0 ≤ x2 ∧ x2 ≤ 9)) (b3 : (0 ≤ x3 ∧ x3 ≤ 2)) (b4 : (0 ≤ x4 ∧ x4 ≤ 7)) (b5 : (0 ≤ x5 ∧ x5 ≤ 16))
    (k0 : ∀ (x6 : Int) (L' : am_L), rd S 122 5 = x6 → x6 ≤ x5 → (0 ≤ x1 ∧ x1 ≤ 1) → (0 ≤ x2 ∧ x2 ≤ 9) → (0 ≤ x3 ∧ x3 ≤ 2) → (0 ≤ x4 ∧ x4 ≤ 7) → (0 ≤ x5 ∧ x5 ≤ 16) → (0 ≤ x6 ∧ x6 ≤ 16) → lc L' 0 122 → li L' 1 x1 → li L' 2 x2 → li L' 3 x3 → li L' 4 (x4 + 1) → li L' 5 x5 → am_V none d 198 45 L' ([]) S Q)
    (k1 : ∀ (x6 x7 x9 : Int) (L' : am_L), rd S 122 5 = x6 → x5 < x6 → rd S 125 x4 = x7 → x2 ≤ x7 → rd S 124 x4 = x9 → x1 = x9 → (0 ≤ x1 ∧ x1 ≤ 1) → (0 ≤ x2 ∧ x2 ≤ 9) → (0 ≤ x3 ∧ x3 ≤ 2) → (0 ≤ x4 ∧ x4 ≤ 7) → (0 ≤ x5 ∧ x5 ≤ 15) → (1 ≤ x6 ∧ x6 ≤ 16) → (0 ≤ x7 ∧ x7 ≤ 9) → (0 ≤ x9 ∧ x9 ≤ 1) → lc L' 0 122 → li L' 1 x1 → li L' 2 x2 → li L' 3 x3 → li L' 4 x4 → li L' 5 (x5 + 1) → am_V none d 198 57 L' ([]) S Q)
    (k2 : ∀ (x6 x7 x8 x9 x10 : Int) (L' : am_L), rd S 122 5 = x6 → x5 < x6 → rd S 125 x4 = x7 → x2 ≤ x7 → rd S 124 x4 = x9 → x1 ≠ x9 → x8 = 0 → x10 ≤ 0 → (0 ≤ x1 ∧ x1 ≤ 1) → (0 ≤ x2 ∧ x2 ≤ 9) → (0 ≤ x3 ∧ x3 ≤ 2) → (0 ≤ x4 ∧ x4 ≤ 7) → (0 ≤ x5 ∧ x5 ≤ 15) → (1 ≤ x6 ∧ x6 ≤ 16) → (0 ≤ x7 ∧ x7 ≤ 9) → (0 ≤ x8 ∧ x8 ≤ 0) → (0 ≤ x9 ∧ x9 ≤ 1) → (0 ≤ x10 ∧ x10 ≤ 0) → x2 + x7 = x10 → x7 + ((-1) * x2 + 0) = x8 → lc L' 0 122 → li L' 1 x1 → li L' 2 x2 → li L' 3 x3 → li L' 4 x4 → li L' 5 (x5 + 1) → am_V none d 198 57 L' ([]) S Q)
    (k3 : ∀ (x6 x7 x8 x9 x10 x11 x12 x13 x14 : Int) (L' : am_L) (i1 : Int32) (i2 : Int32) (i3 : Int32), rd S 122 5 = x6 → x5 < x6 → rd S 125 x4 = x7 → x2 ≤ x7 → rd S 124 x4 = x9 → x1 ≠ x9 → x8 = 0 → 0 < x10 → rd S 130 x5 = x11 → x11 = (-4) → rd S 123 x4 = x12 → rd S 127 x5 = x13 → (0 ≤ x1 ∧ x1 ≤ 1) → (0 ≤ x2 ∧ x2 ≤ 9) → (0 ≤ x3 ∧ x3 ≤ 2) → (0 ≤ x4 ∧ x4 ≤ 7) → (0 ≤ x5 ∧ x5 ≤ 15) → (1 ≤ x6 ∧ x6 ≤ 16) → (0 ≤ x7 ∧ x7 ≤ 9) → (0 ≤ x8 ∧ x8 ≤ 0) → (0 ≤ x9 ∧ x9 ≤ 1) → (1 ≤ x10 ∧ x10 ≤ 18) → ((-4) ≤ x11 ∧ x11 ≤ (-4)) → (0 ≤ x12 ∧ x12 ≤ 1000000) → (0 ≤ x13 ∧ x13 ≤ 1000000) → ((-1000000) ≤ x14 ∧ x14 ≤ 1000000) → x12 + ((-1) * x13 + 0) = x14 → x2 + x7 = x10 → x7 + ((-1) * x2 + 0) = x8 → lc L' 0 122 → li L' 1 x1 → li L' 2 x2 → li L' 3 x3 → li L' 4 x4 → li L' 5 x5 → i1.toInt = x14 → i2.toInt = x2 → i3.toInt = x1 → am_V none d 198 104 L' ((.int i1) :: (.int i2) :: (.int i3) :: (.ref 122) :: []) S Q)
    (k4 : ∀ (x6 x7 x8 x9 x10 x11 : Int) (L' : am_L), rd S 122 5 = x6 → x5 < x6 → rd S 125 x4 = x7 → x2 ≤ x7 → rd S 124 x4 = x9 → x1 ≠ x9 → x8 = 0 → 0 < x10 → rd S 130 x5 = x11 → x11 ≠ (-4) → (0 ≤ x1 ∧ x1 ≤ 1) → (0 ≤ x2 ∧ x2 ≤ 9) → (0 ≤ x3 ∧ x3 ≤ 2) → (0 ≤ x4 ∧ x4 ≤ 7) → (0 ≤ x5 ∧ x5 ≤ 15) → (1 ≤ x6 ∧ x6 ≤ 16) → (0 ≤ x7 ∧ x7 ≤ 9) → (0 ≤ x8 ∧ x8 ≤ 0) → (0 ≤ x9 ∧ x9 ≤ 1) → (1 ≤ x10 ∧ x10 ≤ 18) → (0 ≤ x11 ∧ x11 ≤ 7) → x2 + x7 = x10 → x7 + ((-1) * x2 + 0) = x8 → lc L' 0 122 → li L' 1 x1 → li L' 2 x2 → li L' 3 x3 → li L' 4 x4 → li L' 5 (x5 + 1) → am_V none d 198 57 L' ([]) S Q)
    (k5 : ∀ (x6 x7 x8 x9 : Int) (L' : am_L), rd S 122 5 = x6 → x5 < x6 → rd S 125 x4 = x7 → x2 ≤ x7 → rd S 124 x4 = x9 → x1 ≠ x9 → x8 ≠ 0 → x8 ≠ 2 → (0 ≤ x1 ∧ x1 ≤ 1) → (0 ≤ x2 ∧ x2 ≤ 9) → (0 ≤ x3 ∧ x3 ≤ 2) → (0 ≤ x4 ∧ x4 ≤ 7) → (0 ≤ x5 ∧ x5 ≤ 15) → (1 ≤ x6 ∧ x6 ≤ 16) → (0 ≤ x7 ∧ x7 ≤ 9) → ((-9) ≤ x8 ∧ x8 ≤ (-1)) ∨ (1 ≤ x8 ∧ x8 ≤ 1) ∨ (3 ≤ x8 ∧ x8 ≤ 9) → (0 ≤ x9 ∧ x9 ≤ 1) → x7 + ((-1) * x2 + 0) = x8 → lc L' 0 122 → li L' 1 x1 → li L' 2 x2 → li L' 3 x3 → li L' 4 x4 → li L' 5 (x5 + 1) → am_V none d 198 57 L' ([]) S Q)
    (k6 : ∀ (x6 x7 x8 x9 x10 : Int) (L' : am_L), rd S 122 5 = x6 → x5 < x6 → rd S 125 x4 = x7 → x2 ≤ x7 → rd S 124 x4 = x9 → x1 ≠ x9 → x8 ≠ 0 → x8 = 2 → x10 ≤ 0 → (0 ≤ x1 ∧ x1 ≤ 1) → (0 ≤ x2 ∧ x2 ≤ 9) → (0 ≤ x3 ∧ x3 ≤ 2) → (0 ≤ x4 ∧ x4 ≤ 7) → (0 ≤ x5 ∧ x5 ≤ 15) → (1 ≤ x6 ∧ x6 ≤ 16) → (0 ≤ x7 ∧ x7 ≤ 9) → (2 ≤ x8 ∧ x8 ≤ 2) → (0 ≤ x9 ∧ x9 ≤ 1) → (0 ≤ x10 ∧ x10 ≤ 0) → x2 + x7 = x10 → x7 + ((-1) * x2 + 0) = x8 → lc L' 0 122 → li L' 1 x1 → li L' 2 x2 → li L' 3 x3 → li L' 4 x4 → li L' 5 (x5 + 1) → am_V none d 198 57 L' ([]) S Q)
    (k7 : ∀ (x6 x7 x8 x9 x10 x11 x12 x13 x14 : Int) (L' : am_L) (i1 : Int32) (i2 : Int32) (i3 : Int32), rd S 122 5 = x6 → x5 < x6 → rd S 125 x4 = x7 → x2 ≤ x7 → rd S 124 x4 = x9 → x1 ≠ x9 → x8 ≠ 0 → x8 = 2 → 0 < x10 → rd S 130 x5 = x11 → x11 = (-4) → rd S 123 x4 = x12 → rd S 127 x5 = x13 → (0 ≤ x1 ∧ x1 ≤ 1) → (0 ≤ x2 ∧ x2 ≤ 9) → (0 ≤ x3 ∧ x3 ≤ 2) → (0 ≤ x4 ∧ x4 ≤ 7) → (0 ≤ x5 ∧ x5 ≤ 15) → (1 ≤ x6 ∧ x6 ≤ 16) → (0 ≤ x7 ∧ x7 ≤ 9) → (2 ≤ x8 ∧ x8 ≤ 2) → (0 ≤ x9 ∧ x9 ≤ 1) → (1 ≤ x10 ∧ x10 ≤ 18) → ((-4) ≤ x11 ∧ x11 ≤ (-4)) → (0 ≤ x12 ∧ x12 ≤ 1000000) → (0 ≤ x13 ∧ x13 ≤ 1000000) → ((-1000000) ≤ x14 ∧ x14 ≤ 1000000) → x12 + ((-1) * x13 + 0) = x14 → x2 + x7 = x10 → x7 + ((-1) * x2 + 0) = x8 → lc L' 0 122 → li L' 1 x1 → li L' 2 x2 → li L' 3 x3 → li L' 4 x4 → li L' 5 x5 → i1.toInt = x14 → i2.toInt = x2 → i3.toInt = x1 → am_V none d 198 104 L' ((.int i1) :: (.int i2) :: (.int i3) :: (.ref 122) :: []) S Q)
    (k8 : ∀ (x6 x7 x8 x9 x10 x11 : Int) (L' : am_L), rd S 122 5 = x6 → x5 < x6 → rd S 125 x4 = x7 → x2 ≤ x7 → rd S 124 x4 = x9 → x1 ≠ x9 → x8 ≠ 0 → x8 = 2 → 0 < x10 → rd S 130 x5 = x11 → x11 ≠ (-4) → (0 ≤ x1 ∧ x1 ≤ 1) → (0 ≤ x2 ∧ x2 ≤ 9) → (0 ≤ x3 ∧ x3 ≤ 2) → (0 ≤ x4 ∧ x4 ≤ 7) → (0 ≤ x5 ∧ x5 ≤ 15) → (1 ≤ x6 ∧ x6 ≤ 16) → (0 ≤ x7 ∧ x7 ≤ 9) → (2 ≤ x8 ∧ x8 ≤ 2) → (0 ≤ x9 ∧ x9 ≤ 1) → (1 ≤ x10 ∧ x10 ≤ 18) → (0 ≤ x11 ∧ x11 ≤ 7) → x2 + x7 = x10 → x7 + ((-1) * x2 + 0) = x8 → lc L' 0 122 → li L' 1 x1 → li L' 2 x2 → li L' 3 x3 → li L' 4 x4 → li L' 5 (x5 + 1) → am_V none d 198 57 L' ([]) S Q)
    (k9 : ∀ (x6 x7 x9 : Int) (L' : am_L), rd S 122 5 = x6 → x5 < x6 → rd S 125 x4 = x7 → x7 < x2 → rd S 124 x4 = x9 → x1 = x9 → (0 ≤ x1 ∧ x1 ≤ 1) → (1 ≤ x2 ∧ x2 ≤ 9) → (0 ≤ x3 ∧ x3 ≤ 2) → (0 ≤ x4 ∧ x4 ≤ 7) → (0 ≤ x5 ∧ x5 ≤ 15) → (1 ≤ x6 ∧ x6 ≤ 16) → (0 ≤ x7 ∧ x7 ≤ 8) → (0 ≤ x9 ∧ x9 ≤ 1) → lc L' 0 122 → li L' 1 x1 → li L' 2 x2 → li L' 3 x3 → li L' 4 x4 → li L' 5 (x5 + 1) → am_V none d 198 57 L' ([]) S Q)
    (k10 : ∀ (x6 x7 x8 x9 x10 x11 x12 x13 x14 : Int) (L' : am_L) (i1 : Int32) (i2 : Int32) (i3 : Int32), rd S 122 5 = x6 → x5 < x6 → rd S 125 x4 = x7 → x7 < x2 → rd S 124 x4 = x9 → x1 ≠ x9 → x8 = 0 → 0 < x10 → rd S 130 x5 = x11 → x11 = (-4) → rd S 123 x4 = x12 → rd S 127 x5 = x13 → (0 ≤ x1 ∧ x1 ≤ 1) → (1 ≤ x2 ∧ x2 ≤ 9) → (0 ≤ x3 ∧ x3 ≤ 2) → (0 ≤ x4 ∧ x4 ≤ 7) → (0 ≤ x5 ∧ x5 ≤ 15) → (1 ≤ x6 ∧ x6 ≤ 16) → (0 ≤ x7 ∧ x7 ≤ 8) → (0 ≤ x8 ∧ x8 ≤ 0) → (0 ≤ x9 ∧ x9 ≤ 1) → (1 ≤ x10 ∧ x10 ≤ 17) → ((-4) ≤ x11 ∧ x11 ≤ (-4)) → (0 ≤ x12 ∧ x12 ≤ 1000000) → (0 ≤ x13 ∧ x13 ≤ 1000000) → ((-1000000) ≤ x14 ∧ x14 ≤ 1000000) → x12 + ((-1) * x13 + 0) = x14 → x2 + x7 = x10 → x2 + ((-1) * x7 + 0) = x8 → lc L' 0 122 → li L' 1 x1 → li L' 2 x2 → li L' 3 x3 → li L' 4 x4 → li L' 5 x5 → i1.toInt = x14 → i2.toInt = x2 → i3.toInt = x1 → am_V none d 198 104 L' ((.int i1) :: (.int i2) :: (.int i3) :: (.ref 122) :: []) S Q)
    (k11 : ∀ (x6 x7 x8 x9 x10 x11 : Int) (L' : am_L), rd S 122 5 = x6 → x5 < x6 → rd S 125 x4 = x7 → x7 < x2 → rd S 124 x4 = x9 → x1 ≠ x9 → x8 = 0 → 0 < x10 → rd S 130 x5 = x11 → x11 ≠ (-4) → (0 ≤ x1 ∧ x1 ≤ 1) → (1 ≤ x2 ∧ x2 ≤ 9) → (0 ≤ x3 ∧ x3 ≤ 2) → (0 ≤ x4 ∧ x4 ≤ 7) → (0 ≤ x5 ∧ x5 ≤ 15) → (1 ≤ x6 ∧ x6 ≤ 16) → (0 ≤ x7 ∧ x7 ≤ 8) → (0 ≤ x8 ∧ x8 ≤ 0) → (0 ≤ x9 ∧ x9 ≤ 1) → (1 ≤ x10 ∧ x10 ≤ 17) → (0 ≤ x11 ∧ x11 ≤ 7) → x2 + x7 = x10 → x2 + ((-1) * x7 + 0) = x8 → lc L' 0 122 → li L' 1 x1 → li L' 2 x2 → li L' 3 x3 → li L' 4 x4 → li L' 5 (x5 + 1) → am_V none d 198 57 L' ([]) S Q)
    (k12 : ∀ (x6 x7 x8 x9 : Int) (L' : am_L), rd S 122 5 = x6 → x5 < x6 → rd S 125 x4 = x7 → x7 < x2 → rd S 124 x4 = x9 → x1 ≠ x9 → x8 ≠ 0 → x8 ≠ 2 → (0 ≤ x1 ∧ x1 ≤ 1) → (1 ≤ x2 ∧ x2 ≤ 9) → (0 ≤ x3 ∧ x3 ≤ 2) → (0 ≤ x4 ∧ x4 ≤ 7) → (0 ≤ x5 ∧ x5 ≤ 15) → (1 ≤ x6 ∧ x6 ≤ 16) → (0 ≤ x7 ∧ x7 ≤ 8) → ((-7) ≤ x8 ∧ x8 ≤ (-1)) ∨ (1 ≤ x8 ∧ x8 ≤ 1) ∨ (3 ≤ x8 ∧ x8 ≤ 9) → (0 ≤ x9 ∧ x9 ≤ 1) → x2 + ((-1) * x7 + 0) = x8 → lc L' 0 122 → li L' 1 x1 → li L' 2 x2 → li L' 3 x3 → li L' 4 x4 → li L' 5 (x5 + 1) → am_V none d 198 57 L' ([]) S Q)
    (k13 : ∀ (x6 x7 x8 x9 x10 x11 x12 x13 x14 : Int) (L' : am_L) (i1 : Int32) (i2 : Int32) (i3 : Int32), rd S 122 5 = x6 → x5 < x6 → rd S 125 x4 = x7 → x7 < x2 → rd S 124 x4 = x9 → x1 ≠ x9 → x8 ≠ 0 → x8 = 2 → 0 < x10 → rd S 130 x5 = x11 → x11 = (-4) → rd S 123 x4 = x12 → rd S 127 x5 = x13 → (0 ≤ x1 ∧ x1 ≤ 1) → (1 ≤ x2 ∧ x2 ≤ 9) → (0 ≤ x3 ∧ x3 ≤ 2) → (0 ≤ x4 ∧ x4 ≤ 7) → (0 ≤ x5 ∧ x5 ≤ 15) → (1 ≤ x6 ∧ x6 ≤ 16) → (0 ≤ x7 ∧ x7 ≤ 8) → (2 ≤ x8 ∧ x8 ≤ 2) → (0 ≤ x9 ∧ x9 ≤ 1) → (1 ≤ x10 ∧ x10 ≤ 17) → ((-4) ≤ x11 ∧ x11 ≤ (-4)) → (0 ≤ x12 ∧ x12 ≤ 1000000) → (0 ≤ x13 ∧ x13 ≤ 1000000) → ((-1000000) ≤ x14 ∧ x14 ≤ 1000000) → x12 + ((-1) * x13 + 0) = x14 → x2 + x7 = x10 → x2 + ((-1) * x7 + 0) = x8 → lc L' 0 122 → li L' 1 x1 → li L' 2 x2 → li L' 3 x3 → li L' 4 x4 → li L' 5 x5 → i1.toInt = x14 → i2.toInt = x2 → i3.toInt = x1 → am_V none d 198 104 L' ((.int i1) :: (.int i2) :: (.int i3) :: (.ref 122) :: []) S Q)
    (k14 : ∀ (x6 x7 x8 x9 x10 x11 : Int) (L' : am_L), rd S 122 5 = x6 → x5 < x6 → rd S 125 x4 = x7 → x7 < x2 → rd S 124 x4 = x9 → x1 ≠ x9 → x8 ≠ 0 → x8 = 2 → 0 < x10 → rd S 130 x5 = x11 → x11 ≠ (-4) → (0 ≤ x1 ∧ x1 ≤ 1) → (1 ≤ x2 ∧ x2 ≤ 9) → (0 ≤ x3 ∧ x3 ≤ 2) → (0 ≤ x4 ∧ x4 ≤ 7) → (0 ≤ x5 ∧ x5 ≤ 15) → (1 ≤ x6 ∧ x6 ≤ 16) → (0 ≤ x7 ∧ x7 ≤ 8) → (2 ≤ x8 ∧ x8 ≤ 2) → (0 ≤ x9 ∧ x9 ≤ 1) → (1 ≤ x10 ∧ x10 ≤ 17) → (0 ≤ x11 ∧ x11 ≤ 7) → x2 + x7 = x10 → x2 + ((-1) * x7 + 0) = x8 → lc L' 0 122 → li L' 1 x1 → li L' 2 x2 → li L' 3 x3 → li L' 4 x4 → li L' 5 (x5 + 1) → am_V none d 198 57 L' ([]) S Q) : am_V none d 198 57 L ([]) S Q := by
  refine sg_use sg_me_c_g hd hP (sg_xs [0, x1, x2, x3, x4, x5]) ⟨⟨Int.le_refl 0, Int.le_refl 0⟩, b1, b2, b3, b4, b5, trivial⟩ trivial trivial trivial ⟨l0, l1, l2, l3, l4, l5, trivial⟩ trivial ?_
  intro z hz x' L' st' S' hx hP' hW hL' hs' hJ hE' hT' hD'
  have q1 : x' 1 = x1 := hx 1 (by decide)
  subst q1
  have q2 : x' 2 = x2 := hx 2 (by decide)
  subst q2
  have q3 : x' 3 = x3 := hx 3 (by decide)
  subst q3
  have q4 : x' 4 = x4 := hx 4 (by decide)
  subst q4
  have q5 : x' 5 = x5 := hx 5 (by decide)
  subst q5
  have eS : S' = S := hW.1 rfl
  subst eS
  simp only [sg_me_c_Z, List.mem_cons, List.not_mem_nil, or_false] at hz
  rcases hz with rfl | rfl | rfl | rfl | rfl | rfl | rfl | rfl | rfl | rfl | rfl | rfl | rfl | rfl | rfl
  · obtain ⟨f0, f1, hσ⟩ := hJ
    obtain ⟨e0, e1, e2, e3, e4, e5, -⟩ := hE'
    obtain ⟨p0, p1, p2, p3, p4, p5, -⟩ := hL'
    obtain rfl := sg_tn hs'
    exact k0 (x' 6) L' f0 f1 e0 e1 e2 e3 e4 e5 p0 p1 p2 p3 p4 p5
  · obtain ⟨f0, f1, f2, f3, -, f5, f6, -, hσ⟩ := hJ
    obtain ⟨e0, e1, e2, e3, e4, e5, e6, e7, -⟩ := hE'
    obtain ⟨p0, p1, p2, p3, p4, p5, -⟩ := hL'
    obtain rfl := sg_tn hs'
    exact k1 (x' 6) (x' 7) (x' 9) L' f0 f1 f2 f3 f5 f6 e0 e1 e2 e3 e4 e5 e6 e7 p0 p1 p2 p3 p4 p5
  · obtain ⟨f0, f1, f2, f3, -, f5, f6, f7, -, f9, -, hσ⟩ := hJ
    obtain ⟨e0, e1, e2, e3, e4, e5, e6, e7, e8, e9, -⟩ := hE'
    obtain ⟨t0, t1, -⟩ := hT'
    obtain ⟨p0, p1, p2, p3, p4, p5, -⟩ := hL'
    obtain rfl := sg_tn hs'
    exact k2 (x' 6) (x' 7) (x' 8) (x' 9) (x' 10) L' f0 f1 f2 f3 f5 f6 f7 f9 e0 e1 e2 e3 e4 e5 e6 e7 e8 e9 t0 t1 p0 p1 p2 p3 p4 p5
  · obtain ⟨f0, f1, f2, f3, -, f5, f6, f7, -, f9, -, f11, f12, -, f14, f15, hσ⟩ := hJ
    obtain ⟨e0, e1, e2, e3, e4, e5, e6, e7, e8, e9, e10, e11, e12, e13, -⟩ := hE'
    obtain ⟨t0, t1, t2, -⟩ := hT'
    obtain ⟨p0, p1, p2, p3, p4, p5, -⟩ := hL'
    obtain ⟨v1, r1, rfl, ⟨i1, rfl, g1⟩, hs1⟩ := sg_tc hs'
    obtain ⟨v2, r2, rfl, ⟨i2, rfl, g2⟩, hs2⟩ := sg_tc hs1
    obtain ⟨v3, r3, rfl, ⟨i3, rfl, g3⟩, hs3⟩ := sg_tc hs2
    obtain ⟨v4, r4, rfl, rfl, hs4⟩ := sg_tc hs3
    obtain rfl := sg_tn hs4
    exact k3 (x' 6) (x' 7) (x' 8) (x' 9) (x' 10) (x' 11) (x' 12) (x' 13) (x' 14) L' i1 i2 i3 f0 f1 f2 f3 f5 f6 f7 f9 f11 f12 f14 f15 e0 e1 e2 e3 e4 e5 e6 e7 e8 e9 e10 e11 e12 e13 t0 t1 t2 p0 p1 p2 p3 p4 p5 g1 g2 g3
  · obtain ⟨f0, f1, f2, f3, -, f5, f6, f7, -, f9, -, f11, f12, -, hσ⟩ := hJ
    obtain ⟨e0, e1, e2, e3, e4, e5, e6, e7, e8, e9, e10, -⟩ := hE'
    obtain ⟨t0, t1, -⟩ := hT'
    obtain ⟨p0, p1, p2, p3, p4, p5, -⟩ := hL'
    obtain rfl := sg_tn hs'
    exact k4 (x' 6) (x' 7) (x' 8) (x' 9) (x' 10) (x' 11) L' f0 f1 f2 f3 f5 f6 f7 f9 f11 f12 e0 e1 e2 e3 e4 e5 e6 e7 e8 e9 e10 t0 t1 p0 p1 p2 p3 p4 p5
  · obtain ⟨f0, f1, f2, f3, -, f5, f6, f7, f8, -, hσ⟩ := hJ
    obtain ⟨e0, e1, e2, e3, e4, e5, e6, e7, e8, -⟩ := hE'
    obtain ⟨t0, -⟩ := hT'
    obtain ⟨p0, p1, p2, p3, p4, p5, -⟩ := hL'
    obtain rfl := sg_tn hs'
    exact k5 (x' 6) (x' 7) (x' 8) (x' 9) L' f0 f1 f2 f3 f5 f6 f7 f8 e0 e1 e2 e3 e4 e5 e6 e7 e8 t0 p0 p1 p2 p3 p4 p5
  · obtain ⟨f0, f1, f2, f3, -, f5, f6, f7, f8, -, f10, -, hσ⟩ := hJ
    obtain ⟨e0, e1, e2, e3, e4, e5, e6, e7, e8, e9, -⟩ := hE'
    obtain ⟨t0, t1, -⟩ := hT'
    obtain ⟨p0, p1, p2, p3, p4, p5, -⟩ := hL'
    obtain rfl := sg_tn hs'
    exact k6 (x' 6) (x' 7) (x' 8) (x' 9) (x' 10) L' f0 f1 f2 f3 f5 f6 f7 f8 f10 e0 e1 e2 e3 e4 e5 e6 e7 e8 e9 t0 t1 p0 p1 p2 p3 p4 p5
  · obtain ⟨f0, f1, f2, f3, -, f5, f6, f7, f8, -, f10, -, f12, f13, -, f15, f16, hσ⟩ := hJ
    obtain ⟨e0, e1, e2, e3, e4, e5, e6, e7, e8, e9, e10, e11, e12, e13, -⟩ := hE'
    obtain ⟨t0, t1, t2, -⟩ := hT'
    obtain ⟨p0, p1, p2, p3, p4, p5, -⟩ := hL'
    obtain ⟨v1, r1, rfl, ⟨i1, rfl, g1⟩, hs1⟩ := sg_tc hs'
    obtain ⟨v2, r2, rfl, ⟨i2, rfl, g2⟩, hs2⟩ := sg_tc hs1
    obtain ⟨v3, r3, rfl, ⟨i3, rfl, g3⟩, hs3⟩ := sg_tc hs2
    obtain ⟨v4, r4, rfl, rfl, hs4⟩ := sg_tc hs3
    obtain rfl := sg_tn hs4
    exact k7 (x' 6) (x' 7) (x' 8) (x' 9) (x' 10) (x' 11) (x' 12) (x' 13) (x' 14) L' i1 i2 i3 f0 f1 f2 f3 f5 f6 f7 f8 f10 f12 f13 f15 f16 e0 e1 e2 e3 e4 e5 e6 e7 e8 e9 e10 e11 e12 e13 t0 t1 t2 p0 p1 p2 p3 p4 p5 g1 g2 g3
  · obtain ⟨f0, f1, f2, f3, -, f5, f6, f7, f8, -, f10, -, f12, f13, -, hσ⟩ := hJ
    obtain ⟨e0, e1, e2, e3, e4, e5, e6, e7, e8, e9, e10, -⟩ := hE'
    obtain ⟨t0, t1, -⟩ := hT'
    obtain ⟨p0, p1, p2, p3, p4, p5, -⟩ := hL'
    obtain rfl := sg_tn hs'
    exact k8 (x' 6) (x' 7) (x' 8) (x' 9) (x' 10) (x' 11) L' f0 f1 f2 f3 f5 f6 f7 f8 f10 f12 f13 e0 e1 e2 e3 e4 e5 e6 e7 e8 e9 e10 t0 t1 p0 p1 p2 p3 p4 p5
  · obtain ⟨f0, f1, f2, f3, -, f5, f6, -, hσ⟩ := hJ
    obtain ⟨e0, e1, e2, e3, e4, e5, e6, e7, -⟩ := hE'
    obtain ⟨p0, p1, p2, p3, p4, p5, -⟩ := hL'
    obtain rfl := sg_tn hs'
    exact k9 (x' 6) (x' 7) (x' 9) L' f0 f1 f2 f3 f5 f6 e0 e1 e2 e3 e4 e5 e6 e7 p0 p1 p2 p3 p4 p5
  · obtain ⟨f0, f1, f2, f3, -, f5, f6, f7, -, f9, -, f11, f12, -, f14, f15, hσ⟩ := hJ
    obtain ⟨e0, e1, e2, e3, e4, e5, e6, e7, e8, e9, e10, e11, e12, e13, -⟩ := hE'
    obtain ⟨t0, t1, t2, -⟩ := hT'
    obtain ⟨p0, p1, p2, p3, p4, p5, -⟩ := hL'
    obtain ⟨v1, r1, rfl, ⟨i1, rfl, g1⟩, hs1⟩ := sg_tc hs'
    obtain ⟨v2, r2, rfl, ⟨i2, rfl, g2⟩, hs2⟩ := sg_tc hs1
    obtain ⟨v3, r3, rfl, ⟨i3, rfl, g3⟩, hs3⟩ := sg_tc hs2
    obtain ⟨v4, r4, rfl, rfl, hs4⟩ := sg_tc hs3
    obtain rfl := sg_tn hs4
    exact k10 (x' 6) (x' 7) (x' 8) (x' 9) (x' 10) (x' 11) (x' 12) (x' 13) (x' 14) L' i1 i2 i3 f0 f1 f2 f3 f5 f6 f7 f9 f11 f12 f14 f15 e0 e1 e2 e3 e4 e5 e6 e7 e8 e9 e10 e11 e12 e13 t0 t1 t2 p0 p1 p2 p3 p4 p5 g1 g2 g3
  · obtain ⟨f0, f1, f2, f3, -, f5, f6, f7, -, f9, -, f11, f12, -, hσ⟩ := hJ
    obtain ⟨e0, e1, e2, e3, e4, e5, e6, e7, e8, e9, e10, -⟩ := hE'
    obtain ⟨t0, t1, -⟩ := hT'
    obtain ⟨p0, p1, p2, p3, p4, p5, -⟩ := hL'
    obtain rfl := sg_tn hs'
    exact k11 (x' 6) (x' 7) (x' 8) (x' 9) (x' 10) (x' 11) L' f0 f1 f2 f3 f5 f6 f7 f9 f11 f12 e0 e1 e2 e3 e4 e5 e6 e7 e8 e9 e10 t0 t1 p0 p1 p2 p3 p4 p5
  · obtain ⟨f0, f1, f2, f3, -, f5, f6, f7, f8, -, hσ⟩ := hJ
    obtain ⟨e0, e1, e2, e3, e4, e5, e6, e7, e8, -⟩ := hE'
    obtain ⟨t0, -⟩ := hT'
    obtain ⟨p0, p1, p2, p3, p4, p5, -⟩ := hL'
    obtain rfl := sg_tn hs'
    exact k12 (x' 6) (x' 7) (x' 8) (x' 9) L' f0 f1 f2 f3 f5 f6 f7 f8 e0 e1 e2 e3 e4 e5 e6 e7 e8 t0 p0 p1 p2 p3 p4 p5
  · obtain ⟨f0, f1, f2, f3, -, f5, f6, f7, f8, -, f10, -, f12, f13, -, f15, f16, hσ⟩ := hJ
    obtain ⟨e0, e1, e2, e3, e4, e5, e6, e7, e8, e9, e10, e11, e12, e13, -⟩ := hE'
    obtain ⟨t0, t1, t2, -⟩ := hT'
    obtain ⟨p0, p1, p2, p3, p4, p5, -⟩ := hL'
    obtain ⟨v1, r1, rfl, ⟨i1, rfl, g1⟩, hs1⟩ := sg_tc hs'
    obtain ⟨v2, r2, rfl, ⟨i2, rfl, g2⟩, hs2⟩ := sg_tc hs1
    obtain ⟨v3, r3, rfl, ⟨i3, rfl, g3⟩, hs3⟩ := sg_tc hs2
    obtain ⟨v4, r4, rfl, rfl, hs4⟩ := sg_tc hs3
    obtain rfl := sg_tn hs4
    exact k13 (x' 6) (x' 7) (x' 8) (x' 9) (x' 10) (x' 11) (x' 12) (x' 13) (x' 14) L' i1 i2 i3 f0 f1 f2 f3 f5 f6 f7 f8 f10 f12 f13 f15 f16 e0 e1 e2 e3 e4 e5 e6 e7 e8 e9 e10 e11 e12 e13 t0 t1 t2 p0 p1 p2 p3 p4 p5 g1 g2 g3
  · obtain ⟨f0, f1, f2, f3, -, f5, f6, f7, f8, -, f10, -, f12, f13, -, hσ⟩ := hJ
    obtain ⟨e0, e1, e2, e3, e4, e5, e6, e7, e8, e9, e10, -⟩ := hE'
    obtain ⟨t0, t1, -⟩ := hT'
    obtain ⟨p0, p1, p2, p3, p4, p5, -⟩ := hL'
    obtain rfl := sg_tn hs'
    exact k14 (x' 6) (x' 7) (x' 8) (x' 9) (x' 10) (x' 11) L' f0 f1 f2 f3 f5 f6 f7 f8 f10 f12 f13 e0 e1 e2 e3 e4 e5 e6 e7 e8 e9 e10 t0 t1 p0 p1 p2 p3 p4 p5
def sg_me_d_Z : List sg_z := [(126, [(0, .inr (.inl [122])), (1, .inl (false, (1, .ofNat 1, .ofNat 0))), (2, .inl (false, (2, .ofNat 1, .ofNat 0))), (3, .inl (false, (3, .ofNat 1, .ofNat 0))), (4, .inl (false, (4, .ofNat 1, .ofNat 0))), (5, .inl (false, (5, .ofNat 1, .ofNat 0)))], [.inl (false, (8, .ofNat 1, .ofNat 0)), .inl (false, (2, .ofNat 1, .ofNat 0)), .inl (false, (1, .ofNat 1, .ofNat 0)), .inr (.inl [122])], [(0, 127, (5, .ofNat 1, .ofNat 0), (7, .ofNat 1, .ofNat 0), (0, .ofNat 0, .ofNat 0)), (0, 123, (4, .ofNat 1, .ofNat 0), (6, .ofNat 1, .ofNat 0), (0, .ofNat 0, .ofNat 0))], [(1, [(.ofNat 0, .ofNat 1)]), (2, [(.ofNat 0, .ofNat 9)]), (3, [(.ofNat 0, .ofNat 2)]), (4, [(.ofNat 0, .ofNat 7)]), (5, [(.ofNat 0, .ofNat 15)]), (6, [(.ofNat 0, .ofNat 1000000)]), (7, [(.ofNat 0, .ofNat 1000000)]), (8, [(.ofNat 0, .ofNat 2000000)])], [((6, .ofNat 1, .ofNat 0), (7, .ofNat 1, .ofNat 0), (8, .ofNat 1, .ofNat 0))], [])]
set_option maxRecDepth 1000000 in
theorem sg_me_d_g : sg_go [] [125] 3000 198 107 0 6 [(0, [(.ofNat 0, .ofNat 0)]), (1, [(.ofNat 0, .ofNat 1)]), (2, [(.ofNat 0, .ofNat 9)]), (3, [(.ofNat 0, .ofNat 2)]), (4, [(.ofNat 0, .ofNat 7)]), (5, [(.ofNat 0, .ofNat 15)])] [] [] [] [(0, .inr (.inl [122])), (1, .inl (false, (1, .ofNat 1, .ofNat 0))), (2, .inl (false, (2, .ofNat 1, .ofNat 0))), (3, .inl (false, (3, .ofNat 1, .ofNat 0))), (4, .inl (false, (4, .ofNat 1, .ofNat 0))), (5, .inl (false, (5, .ofNat 1, .ofNat 0)))] [] [] sg_me_d_Z = true := by decide +kernel
set_option maxRecDepth 100000 in
theorem sg_me_d {Q : Option Value × am_S → Prop} {d : Nat} {S : am_S} {L : am_L} {x1 x2 x3 x4 x5 : Int} (hd : 0 ≤ d) (hP : ax_P0 none S) (l0 : lc L 0 122) (l1 : li L 1 x1) (l2 : li L 2 x2) (l3 : li L 3 x3) (l4 : li L 4 x4) (l5 : li L 5 x5) (b1 : (0 ≤ x1 ∧ x1 ≤ 1)) (b2 : (0 ≤ x2 ∧ x2 ≤ 9)) (b3 : (0 ≤ x3 ∧ x3 ≤ 2)) (b4 : (0 ≤ x4 ∧ x4 ≤ 7)) (b5 : (0 ≤ x5 ∧ x5 ≤ 15))
    (k0 : ∀ (x6 x7 x8 : Int) (L' : am_L) (i1 : Int32) (i2 : Int32) (i3 : Int32), rd S 123 x4 = x6 → rd S 127 x5 = x7 → (0 ≤ x1 ∧ x1 ≤ 1) → (0 ≤ x2 ∧ x2 ≤ 9) → (0 ≤ x3 ∧ x3 ≤ 2) → (0 ≤ x4 ∧ x4 ≤ 7) → (0 ≤ x5 ∧ x5 ≤ 15) → (0 ≤ x6 ∧ x6 ≤ 1000000) → (0 ≤ x7 ∧ x7 ≤ 1000000) → (0 ≤ x8 ∧ x8 ≤ 2000000) → x6 + x7 = x8 → lc L' 0 122 → li L' 1 x1 → li L' 2 x2 → li L' 3 x3 → li L' 4 x4 → li L' 5 x5 → i1.toInt = x8 → i2.toInt = x2 → i3.toInt = x1 → am_V none d 198 125 L' ((.int i1) :: (.int i2) :: (.int i3) :: (.ref 122) :: []) S Q) : am_V none d 198 107 L ([]) S Q := by
  refine sg_use sg_me_d_g hd hP (sg_xs [0, x1, x2, x3, x4, x5]) ⟨⟨Int.le_refl 0, Int.le_refl 0⟩, b1, b2, b3, b4, b5, trivial⟩ trivial trivial trivial ⟨l0, l1, l2, l3, l4, l5, trivial⟩ trivial ?_
  intro z hz x' L' st' S' hx hP' hW hL' hs' hJ hE' hT' hD'
  have q1 : x' 1 = x1 := hx 1 (by decide)
  subst q1
  have q2 : x' 2 = x2 := hx 2 (by decide)
  subst q2
  have q3 : x' 3 = x3 := hx 3 (by decide)
  subst q3
  have q4 : x' 4 = x4 := hx 4 (by decide)
  subst q4
  have q5 : x' 5 = x5 := hx 5 (by decide)
  subst q5
  have eS : S' = S := hW.1 rfl
  subst eS
  simp only [sg_me_d_Z, List.mem_cons, List.not_mem_nil, or_false] at hz
  rcases hz with rfl
  · obtain ⟨f0, f1, hσ⟩ := hJ
    obtain ⟨e0, e1, e2, e3, e4, e5, e6, e7, -⟩ := hE'
    obtain ⟨t0, -⟩ := hT'
    obtain ⟨p0, p1, p2, p3, p4, p5, -⟩ := hL'
    obtain ⟨v1, r1, rfl, ⟨i1, rfl, g1⟩, hs1⟩ := sg_tc hs'
    obtain ⟨v2, r2, rfl, ⟨i2, rfl, g2⟩, hs2⟩ := sg_tc hs1
    obtain ⟨v3, r3, rfl, ⟨i3, rfl, g3⟩, hs3⟩ := sg_tc hs2
    obtain ⟨v4, r4, rfl, rfl, hs4⟩ := sg_tc hs3
    obtain rfl := sg_tn hs4
    exact k0 (x' 6) (x' 7) (x' 8) L' i1 i2 i3 f0 f1 e0 e1 e2 e3 e4 e5 e6 e7 t0 p0 p1 p2 p3 p4 p5 g1 g2 g3
def sg_me_e_Z : List sg_z := [(58, [(0, .inr (.inl [122])), (1, .inl (false, (1, .ofNat 1, .ofNat 0))), (2, .inl (false, (2, .ofNat 1, .ofNat 0))), (3, .inl (false, (3, .ofNat 1, .ofNat 0))), (4, .inl (false, (4, .ofNat 1, .ofNat 0))), (5, .inl (false, (5, .ofNat 1, .ofNat 1)))], [], [], [(1, [(.ofNat 0, .ofNat 1)]), (2, [(.ofNat 0, .ofNat 9)]), (3, [(.ofNat 0, .ofNat 2)]), (4, [(.ofNat 0, .ofNat 7)]), (5, [(.ofNat 0, .ofNat 15)])], [], [])]
set_option maxRecDepth 1000000 in
theorem sg_me_e_g : sg_go [] [57] 3000 198 128 0 6 [(0, [(.ofNat 0, .ofNat 0)]), (1, [(.ofNat 0, .ofNat 1)]), (2, [(.ofNat 0, .ofNat 9)]), (3, [(.ofNat 0, .ofNat 2)]), (4, [(.ofNat 0, .ofNat 7)]), (5, [(.ofNat 0, .ofNat 15)])] [] [] [] [(0, .inr (.inl [122])), (1, .inl (false, (1, .ofNat 1, .ofNat 0))), (2, .inl (false, (2, .ofNat 1, .ofNat 0))), (3, .inl (false, (3, .ofNat 1, .ofNat 0))), (4, .inl (false, (4, .ofNat 1, .ofNat 0))), (5, .inl (false, (5, .ofNat 1, .ofNat 0)))] [] [] sg_me_e_Z = true := by decide +kernel
set_option maxRecDepth 100000 in
theorem sg_me_e {Q : Option Value × am_S → Prop} {d : Nat} {S : am_S} {L : am_L} {x1 x2 x3 x4 x5 : Int} (hd : 0 ≤ d) (hP : ax_P0 none S) (l0 : lc L 0 122) (l1 : li L 1 x1) (l2 : li L 2 x2) (l3 : li L 3 x3) (l4 : li L 4 x4) (l5 : li L 5 x5) (b1 : (0 ≤ x1 ∧ x1 ≤ 1)) (b2 : (0 ≤ x2 ∧ x2 ≤ 9)) (b3 : (0 ≤ x3 ∧ x3 ≤ 2)) (b4 : (0 ≤ x4 ∧ x4 ≤ 7)) (b5 : (0 ≤ x5 ∧ x5 ≤ 15))
    (k0 : ∀ (L' : am_L), (0 ≤ x1 ∧ x1 ≤ 1) → (0 ≤ x2 ∧ x2 ≤ 9) → (0 ≤ x3 ∧ x3 ≤ 2) → (0 ≤ x4 ∧ x4 ≤ 7) → (0 ≤ x5 ∧ x5 ≤ 15) → lc L' 0 122 → li L' 1 x1 → li L' 2 x2 → li L' 3 x3 → li L' 4 x4 → li L' 5 (x5 + 1) → am_V none d 198 57 L' ([]) S Q) : am_V none d 198 128 L ([]) S Q := by
  refine sg_use sg_me_e_g hd hP (sg_xs [0, x1, x2, x3, x4, x5]) ⟨⟨Int.le_refl 0, Int.le_refl 0⟩, b1, b2, b3, b4, b5, trivial⟩ trivial trivial trivial ⟨l0, l1, l2, l3, l4, l5, trivial⟩ trivial ?_
  intro z hz x' L' st' S' hx hP' hW hL' hs' hJ hE' hT' hD'
  have q1 : x' 1 = x1 := hx 1 (by decide)
  subst q1
  have q2 : x' 2 = x2 := hx 2 (by decide)
  subst q2
  have q3 : x' 3 = x3 := hx 3 (by decide)
  subst q3
  have q4 : x' 4 = x4 := hx 4 (by decide)
  subst q4
  have q5 : x' 5 = x5 := hx 5 (by decide)
  subst q5
  have eS : S' = S := hW.1 rfl
  subst eS
  simp only [sg_me_e_Z, List.mem_cons, List.not_mem_nil, or_false] at hz
  rcases hz with rfl
  · have hσ := hJ
    obtain ⟨e0, e1, e2, e3, e4, -⟩ := hE'
    obtain ⟨p0, p1, p2, p3, p4, p5, -⟩ := hL'
    obtain rfl := sg_tn hs'
    exact k0 L' e0 e1 e2 e3 e4 p0 p1 p2 p3 p4 p5
def sg_me_f_Z : List sg_z := [(0, [], [.inl (false, (0, .ofNat 0, .negSucc 3))], [(0, 122, (0, .ofNat 0, .ofNat 23), (0, .ofNat 0, .negSucc 3), (0, .ofNat 0, .ofNat 0)), (2, 0, (4, .ofNat 1, .ofNat 0), (0, .ofNat 0, .negSucc 3), (0, .ofNat 0, .ofNat 0)), (0, 122, (0, .ofNat 0, .ofNat 23), (4, .ofNat 1, .ofNat 0), (0, .ofNat 0, .ofNat 0))], [(1, [(.ofNat 0, .ofNat 1)]), (2, [(.ofNat 0, .ofNat 9)]), (3, [(.ofNat 0, .ofNat 2)]), (4, [(.negSucc 3, .negSucc 3)])], [], []),
  (165, [(0, .inr (.inl [122])), (1, .inl (false, (1, .ofNat 1, .ofNat 0))), (2, .inl (false, (2, .ofNat 1, .ofNat 0))), (3, .inl (false, (3, .ofNat 1, .ofNat 0))), (4, .inl (false, (0, .ofNat 0, .ofNat 0))), (5, .inl (false, (0, .ofNat 0, .ofNat 1)))], [], [(2, 1, (3, .ofNat 1, .ofNat 0), (0, .ofNat 0, .ofNat 0), (0, .ofNat 0, .ofNat 0)), (2, 1, (4, .ofNat 1, .ofNat 0), (0, .ofNat 0, .negSucc 3), (0, .ofNat 0, .ofNat 0)), (0, 122, (0, .ofNat 0, .ofNat 23), (4, .ofNat 1, .ofNat 0), (0, .ofNat 0, .ofNat 0))], [(1, [(.ofNat 0, .ofNat 1)]), (2, [(.ofNat 0, .ofNat 9)]), (3, [(.ofNat 1, .ofNat 2)]), (4, [(.ofNat 0, .ofNat 1000000)])], [], []),
  (0, [], [.inl (false, (4, .ofNat 1, .ofNat 0))], [(0, 122, (0, .ofNat 0, .ofNat 23), (4, .ofNat 1, .ofNat 0), (0, .ofNat 0, .ofNat 0)), (2, 0, (3, .ofNat 1, .ofNat 0), (0, .ofNat 0, .ofNat 0), (0, .ofNat 0, .ofNat 0)), (2, 1, (4, .ofNat 1, .ofNat 0), (0, .ofNat 0, .negSucc 3), (0, .ofNat 0, .ofNat 0)), (0, 122, (0, .ofNat 0, .ofNat 23), (4, .ofNat 1, .ofNat 0), (0, .ofNat 0, .ofNat 0))], [(1, [(.ofNat 0, .ofNat 1)]), (2, [(.ofNat 0, .ofNat 9)]), (3, [(.ofNat 0, .ofNat 0)]), (4, [(.ofNat 0, .ofNat 1000000)])], [], [])]
set_option maxRecDepth 1000000 in
theorem sg_me_f_g : sg_go [] [164] 3000 198 140 0 4 [(0, [(.ofNat 0, .ofNat 0)]), (1, [(.ofNat 0, .ofNat 1)]), (2, [(.ofNat 0, .ofNat 9)]), (3, [(.ofNat 0, .ofNat 2)])] [] [] [] [(0, .inr (.inl [122])), (1, .inl (false, (1, .ofNat 1, .ofNat 0))), (2, .inl (false, (2, .ofNat 1, .ofNat 0))), (3, .inl (false, (3, .ofNat 1, .ofNat 0)))] [] [] sg_me_f_Z = true := by decide +kernel
set_option maxRecDepth 100000 in
theorem sg_me_f {Q : Option Value × am_S → Prop} {d : Nat} {S : am_S} {L : am_L} {x1 x2 x3 : Int} (hd : 0 ≤ d) (hP : ax_P0 none S) (l0 : lc L 0 122) (l1 : li L 1 x1) (l2 : li L 2 x2) (l3 : li L 3 x3) (b1 : (0 ≤ x1 ∧ x1 ≤ 1)) (b2 : (0 ≤ x2 ∧ x2 ≤ 9)) (b3 : (0 ≤ x3 ∧ x3 ≤ 2))
    (k0 : ∀ (x4 : Int) (i1 : Int32), rd S 122 23 = x4 → x4 = (-4) → rd S 122 23 = (-4) → (0 ≤ x1 ∧ x1 ≤ 1) → (0 ≤ x2 ∧ x2 ≤ 9) → (0 ≤ x3 ∧ x3 ≤ 2) → ((-4) ≤ x4 ∧ x4 ≤ (-4)) → i1.toInt = (-4) → Q (some (.int i1), S))
    (k1 : ∀ (x4 : Int) (L' : am_L), rd S 122 23 = x4 → x4 ≠ (-4) → x3 ≠ 0 → (0 ≤ x1 ∧ x1 ≤ 1) → (0 ≤ x2 ∧ x2 ≤ 9) → (1 ≤ x3 ∧ x3 ≤ 2) → (0 ≤ x4 ∧ x4 ≤ 1000000) → lc L' 0 122 → li L' 1 x1 → li L' 2 x2 → li L' 3 x3 → li L' 4 0 → li L' 5 1 → am_V none d 198 164 L' ([]) S Q)
    (k2 : ∀ (x4 : Int) (i1 : Int32), rd S 122 23 = x4 → x4 ≠ (-4) → x3 = 0 → (0 ≤ x1 ∧ x1 ≤ 1) → (0 ≤ x2 ∧ x2 ≤ 9) → (0 ≤ x3 ∧ x3 ≤ 0) → (0 ≤ x4 ∧ x4 ≤ 1000000) → i1.toInt = x4 → Q (some (.int i1), S)) : am_V none d 198 140 L ([]) S Q := by
  refine sg_use sg_me_f_g hd hP (sg_xs [0, x1, x2, x3]) ⟨⟨Int.le_refl 0, Int.le_refl 0⟩, b1, b2, b3, trivial⟩ trivial trivial trivial ⟨l0, l1, l2, l3, trivial⟩ trivial ?_
  intro z hz x' L' st' S' hx hP' hW hL' hs' hJ hE' hT' hD'
  have q1 : x' 1 = x1 := hx 1 (by decide)
  subst q1
  have q2 : x' 2 = x2 := hx 2 (by decide)
  subst q2
  have q3 : x' 3 = x3 := hx 3 (by decide)
  subst q3
  have eS : S' = S := hW.1 rfl
  subst eS
  simp only [sg_me_f_Z, List.mem_cons, List.not_mem_nil, or_false] at hz
  rcases hz with rfl | rfl | rfl
  · obtain ⟨f0, f1, f2, hσ⟩ := hJ
    obtain ⟨e0, e1, e2, e3, -⟩ := hE'
    intro v hv
    subst hv
    cases v with
    | none => exact hs'.elim
    | some v1 =>
      obtain ⟨⟨i1, rfl, g1⟩, -⟩ := hs'
      exact k0 (x' 4) i1 f0 f1 f2 e0 e1 e2 e3 g1
  · obtain ⟨f0, f1, f2, hσ⟩ := hJ
    obtain ⟨e0, e1, e2, e3, -⟩ := hE'
    obtain ⟨p0, p1, p2, p3, p4, p5, -⟩ := hL'
    obtain rfl := sg_tn hs'
    exact k1 (x' 4) L' f0 f1 f2 e0 e1 e2 e3 p0 p1 p2 p3 p4 p5
  · obtain ⟨f0, f1, f2, -, hσ⟩ := hJ
    obtain ⟨e0, e1, e2, e3, -⟩ := hE'
    intro v hv
    subst hv
    cases v with
    | none => exact hs'.elim
    | some v1 =>
      obtain ⟨⟨i1, rfl, g1⟩, -⟩ := hs'
      exact k2 (x' 4) i1 f0 f1 f2 e0 e1 e2 e3 g1
def sg_me_g_Z : List sg_z := [(211, [(0, .inr (.inl [122])), (1, .inl (false, (1, .ofNat 1, .ofNat 0))), (2, .inl (false, (2, .ofNat 1, .ofNat 0))), (3, .inl (false, (3, .ofNat 1, .ofNat 0))), (4, .inl (false, (4, .ofNat 1, .ofNat 0))), (5, .inl (false, (0, .ofNat 0, .ofNat 101)))], [], [(2, 4, (5, .ofNat 1, .ofNat 0), (0, .ofNat 0, .ofNat 100), (0, .ofNat 0, .ofNat 0))], [(1, [(.ofNat 0, .ofNat 1)]), (2, [(.ofNat 0, .ofNat 9)]), (3, [(.ofNat 0, .ofNat 2)]), (4, [(.ofNat 0, .ofNat 100)]), (5, [(.ofNat 101, .ofNat 101)]), (6, [(.ofNat 0, .ofNat 1000000)])], [], []),
  (187, [(0, .inr (.inl [122])), (1, .inl (false, (1, .ofNat 1, .ofNat 0))), (2, .inl (false, (2, .ofNat 1, .ofNat 0))), (3, .inl (false, (3, .ofNat 1, .ofNat 0))), (4, .inl (false, (4, .ofNat 1, .ofNat 0))), (5, .inl (false, (5, .ofNat 1, .ofNat 0)))], [.inl (false, (7, .ofNat 1, .ofNat 0)), .inl (false, (2, .ofNat 1, .ofNat 0)), .inl (false, (1, .ofNat 1, .ofNat 0)), .inr (.inl [122]), .inl (false, (4, .ofNat 1, .ofNat 0))], [(0, 122, (0, .ofNat 0, .ofNat 23), (6, .ofNat 1, .ofNat 0), (0, .ofNat 0, .ofNat 0)), (2, 5, (5, .ofNat 1, .ofNat 0), (0, .ofNat 0, .ofNat 100), (0, .ofNat 0, .ofNat 0))], [(1, [(.ofNat 0, .ofNat 1)]), (2, [(.ofNat 0, .ofNat 9)]), (3, [(.ofNat 0, .ofNat 2)]), (4, [(.ofNat 0, .ofNat 100)]), (5, [(.ofNat 1, .ofNat 100)]), (6, [(.ofNat 0, .ofNat 1000000)]), (7, [(.ofNat 37, .ofNat 1003700)])], [((6, .ofNat 1, .ofNat 0), (5, .ofNat 37, .ofNat 0), (7, .ofNat 1, .ofNat 0))], [])]
set_option maxRecDepth 1000000 in
theorem sg_me_g_g : sg_go [] [186, 210] 3000 198 164 0 7 [(0, [(.ofNat 0, .ofNat 0)]), (1, [(.ofNat 0, .ofNat 1)]), (2, [(.ofNat 0, .ofNat 9)]), (3, [(.ofNat 0, .ofNat 2)]), (4, [(.ofNat 0, .ofNat 100)]), (5, [(.ofNat 1, .ofNat 101)]), (6, [(.ofNat 0, .ofNat 1000000)])] [(122, (0, .ofNat 0, .ofNat 23), (6, .ofNat 1, .ofNat 0))] [] [] [(0, .inr (.inl [122])), (1, .inl (false, (1, .ofNat 1, .ofNat 0))), (2, .inl (false, (2, .ofNat 1, .ofNat 0))), (3, .inl (false, (3, .ofNat 1, .ofNat 0))), (4, .inl (false, (4, .ofNat 1, .ofNat 0))), (5, .inl (false, (5, .ofNat 1, .ofNat 0)))] [] [] sg_me_g_Z = true := by decide +kernel
set_option maxRecDepth 100000 in
theorem sg_me_g {Q : Option Value × am_S → Prop} {d : Nat} {S : am_S} {L : am_L} {x1 x2 x3 x4 x5 x6 : Int} (hd : 0 ≤ d) (hP : ax_P0 none S) (l0 : lc L 0 122) (l1 : li L 1 x1) (l2 : li L 2 x2) (l3 : li L 3 x3) (l4 : li L 4 x4) (l5 : li L 5 x5) (b1 : (0 ≤ x1 ∧ x1 ≤ 1)) (b2 : (0 ≤ x2 ∧ x2 ≤ 9)) (b3 : (0 ≤ x3 ∧ x3 ≤ 2)) (b4 : (0 ≤ x4 ∧ x4 ≤ 100)) (b5 : (1 ≤ x5 ∧ x5 ≤ 101)) (b6 : (0 ≤ x6 ∧ x6 ≤ 1000000)) (m122_23 : rd S 122 23 = x6)
    (k0 : ∀ (L' : am_L), 100 < x5 → (0 ≤ x1 ∧ x1 ≤ 1) → (0 ≤ x2 ∧ x2 ≤ 9) → (0 ≤ x3 ∧ x3 ≤ 2) → (0 ≤ x4 ∧ x4 ≤ 100) → (101 ≤ x5 ∧ x5 ≤ 101) → (0 ≤ x6 ∧ x6 ≤ 1000000) → lc L' 0 122 → li L' 1 x1 → li L' 2 x2 → li L' 3 x3 → li L' 4 x4 → li L' 5 101 → am_V none d 198 210 L' ([]) S Q)
    (k1 : ∀ (x7 : Int) (L' : am_L) (i1 : Int32) (i2 : Int32) (i3 : Int32) (i5 : Int32), x5 ≤ 100 → rd S 122 23 = x6 → (0 ≤ x1 ∧ x1 ≤ 1) → (0 ≤ x2 ∧ x2 ≤ 9) → (0 ≤ x3 ∧ x3 ≤ 2) → (0 ≤ x4 ∧ x4 ≤ 100) → (1 ≤ x5 ∧ x5 ≤ 100) → (0 ≤ x6 ∧ x6 ≤ 1000000) → (37 ≤ x7 ∧ x7 ≤ 1003700) → x6 + (37 * x5 + 0) = x7 → lc L' 0 122 → li L' 1 x1 → li L' 2 x2 → li L' 3 x3 → li L' 4 x4 → li L' 5 x5 → i1.toInt = x7 → i2.toInt = x2 → i3.toInt = x1 → i5.toInt = x4 → am_V none d 198 186 L' ((.int i1) :: (.int i2) :: (.int i3) :: (.ref 122) :: (.int i5) :: []) S Q) : am_V none d 198 164 L ([]) S Q := by
  refine sg_use sg_me_g_g hd hP (sg_xs [0, x1, x2, x3, x4, x5, x6]) ⟨⟨Int.le_refl 0, Int.le_refl 0⟩, b1, b2, b3, b4, b5, b6, trivial⟩ ⟨sg_fs hP rfl m122_23, trivial⟩ trivial trivial ⟨l0, l1, l2, l3, l4, l5, trivial⟩ trivial ?_
  intro z hz x' L' st' S' hx hP' hW hL' hs' hJ hE' hT' hD'
  have q1 : x' 1 = x1 := hx 1 (by decide)
  subst q1
  have q2 : x' 2 = x2 := hx 2 (by decide)
  subst q2
  have q3 : x' 3 = x3 := hx 3 (by decide)
  subst q3
  have q4 : x' 4 = x4 := hx 4 (by decide)
  subst q4
  have q5 : x' 5 = x5 := hx 5 (by decide)
  subst q5
  have q6 : x' 6 = x6 := hx 6 (by decide)
  subst q6
  have eS : S' = S := hW.1 rfl
  subst eS
  simp only [sg_me_g_Z, List.mem_cons, List.not_mem_nil, or_false] at hz
  rcases hz with rfl | rfl
  · obtain ⟨f0, hσ⟩ := hJ
    obtain ⟨e0, e1, e2, e3, e4, e5, -⟩ := hE'
    obtain ⟨p0, p1, p2, p3, p4, p5, -⟩ := hL'
    obtain rfl := sg_tn hs'
    exact k0 L' f0 e0 e1 e2 e3 e4 e5 p0 p1 p2 p3 p4 p5
  · obtain ⟨f0, f1, hσ⟩ := hJ
    obtain ⟨e0, e1, e2, e3, e4, e5, e6, -⟩ := hE'
    obtain ⟨t0, -⟩ := hT'
    obtain ⟨p0, p1, p2, p3, p4, p5, -⟩ := hL'
    obtain ⟨v1, r1, rfl, ⟨i1, rfl, g1⟩, hs1⟩ := sg_tc hs'
    obtain ⟨v2, r2, rfl, ⟨i2, rfl, g2⟩, hs2⟩ := sg_tc hs1
    obtain ⟨v3, r3, rfl, ⟨i3, rfl, g3⟩, hs3⟩ := sg_tc hs2
    obtain ⟨v4, r4, rfl, rfl, hs4⟩ := sg_tc hs3
    obtain ⟨v5, r5, rfl, ⟨i5, rfl, g5⟩, hs5⟩ := sg_tc hs4
    obtain rfl := sg_tn hs5
    exact k1 (x' 7) L' i1 i2 i3 i5 f0 f1 e0 e1 e2 e3 e4 e5 e6 t0 p0 p1 p2 p3 p4 p5 g1 g2 g3 g5
def sg_me_h_Z : List sg_z := [(165, [(0, .inr (.inl [122])), (1, .inl (false, (1, .ofNat 1, .ofNat 0))), (2, .inl (false, (2, .ofNat 1, .ofNat 0))), (3, .inl (false, (3, .ofNat 1, .ofNat 0))), (4, .inl (false, (6, .ofNat 1, .ofNat 0))), (5, .inl (false, (4, .ofNat 1, .ofNat 1)))], [], [(2, 2, (5, .ofNat 1, .ofNat 0), (7, .ofNat 1, .ofNat 0), (0, .ofNat 0, .ofNat 0)), (0, 122, (0, .ofNat 0, .ofNat 24), (7, .ofNat 1, .ofNat 0), (0, .ofNat 0, .ofNat 0))], [(1, [(.ofNat 0, .ofNat 1)]), (2, [(.ofNat 0, .ofNat 9)]), (3, [(.ofNat 0, .ofNat 2)]), (4, [(.ofNat 1, .ofNat 100)]), (5, [(.ofNat 0, .ofNat 16)]), (6, [(.ofNat 0, .ofNat 100)]), (7, [(.ofNat 1, .ofNat 2147483647)])], [], []),
  (165, [(0, .inr (.inl [122])), (1, .inl (false, (1, .ofNat 1, .ofNat 0))), (2, .inl (false, (2, .ofNat 1, .ofNat 0))), (3, .inl (false, (3, .ofNat 1, .ofNat 0))), (4, .inl (false, (6, .ofNat 1, .ofNat 1))), (5, .inl (false, (4, .ofNat 1, .ofNat 1)))], [], [(2, 3, (5, .ofNat 1, .ofNat 0), (7, .ofNat 1, .ofNat 0), (0, .ofNat 0, .ofNat 0)), (0, 122, (0, .ofNat 0, .ofNat 24), (7, .ofNat 1, .ofNat 0), (0, .ofNat 0, .ofNat 0))], [(1, [(.ofNat 0, .ofNat 1)]), (2, [(.ofNat 0, .ofNat 9)]), (3, [(.ofNat 0, .ofNat 2)]), (4, [(.ofNat 1, .ofNat 100)]), (5, [(.ofNat 0, .ofNat 16)]), (6, [(.ofNat 0, .ofNat 100)]), (7, [(.negSucc 2147483647, .ofNat 16)])], [], [])]
set_option maxRecDepth 1000000 in
theorem sg_me_h_g : sg_go [] [164] 3000 198 189 0 7 [(0, [(.ofNat 0, .ofNat 0)]), (1, [(.ofNat 0, .ofNat 1)]), (2, [(.ofNat 0, .ofNat 9)]), (3, [(.ofNat 0, .ofNat 2)]), (4, [(.ofNat 1, .ofNat 100)]), (5, [(.ofNat 0, .ofNat 16)]), (6, [(.ofNat 0, .ofNat 100)])] [] [] [] [(0, .inr (.inl [122])), (1, .inl (false, (1, .ofNat 1, .ofNat 0))), (2, .inl (false, (2, .ofNat 1, .ofNat 0))), (3, .inl (false, (3, .ofNat 1, .ofNat 0))), (5, .inl (false, (4, .ofNat 1, .ofNat 0)))] [.inl (false, (5, .ofNat 1, .ofNat 0)), .inl (false, (6, .ofNat 1, .ofNat 0))] [] sg_me_h_Z = true := by decide +kernel
set_option maxRecDepth 100000 in
theorem sg_me_h {Q : Option Value × am_S → Prop} {d : Nat} {S : am_S} {L : am_L} {x1 x2 x3 x4 x5 x6 : Int} {i1 : Int32} {i2 : Int32} (hd : 0 ≤ d) (hP : ax_P0 none S) (l0 : lc L 0 122) (l1 : li L 1 x1) (l2 : li L 2 x2) (l3 : li L 3 x3) (l5 : li L 5 x4) (b1 : (0 ≤ x1 ∧ x1 ≤ 1)) (b2 : (0 ≤ x2 ∧ x2 ≤ 9)) (b3 : (0 ≤ x3 ∧ x3 ≤ 2)) (b4 : (1 ≤ x4 ∧ x4 ≤ 100)) (b5 : (0 ≤ x5 ∧ x5 ≤ 16)) (b6 : (0 ≤ x6 ∧ x6 ≤ 100)) (s1 : i1.toInt = x5) (s2 : i2.toInt = x6)
    (k0 : ∀ (x7 : Int) (L' : am_L), rd S 122 24 = x7 → x5 < x7 → (0 ≤ x1 ∧ x1 ≤ 1) → (0 ≤ x2 ∧ x2 ≤ 9) → (0 ≤ x3 ∧ x3 ≤ 2) → (1 ≤ x4 ∧ x4 ≤ 100) → (0 ≤ x5 ∧ x5 ≤ 16) → (0 ≤ x6 ∧ x6 ≤ 100) → (1 ≤ x7 ∧ x7 ≤ 2147483647) → lc L' 0 122 → li L' 1 x1 → li L' 2 x2 → li L' 3 x3 → li L' 4 x6 → li L' 5 (x4 + 1) → am_V none d 198 164 L' ([]) S Q)
    (k1 : ∀ (x7 : Int) (L' : am_L), rd S 122 24 = x7 → x7 ≤ x5 → (0 ≤ x1 ∧ x1 ≤ 1) → (0 ≤ x2 ∧ x2 ≤ 9) → (0 ≤ x3 ∧ x3 ≤ 2) → (1 ≤ x4 ∧ x4 ≤ 100) → (0 ≤ x5 ∧ x5 ≤ 16) → (0 ≤ x6 ∧ x6 ≤ 100) → ((-2147483648) ≤ x7 ∧ x7 ≤ 16) → lc L' 0 122 → li L' 1 x1 → li L' 2 x2 → li L' 3 x3 → li L' 4 (x6 + 1) → li L' 5 (x4 + 1) → am_V none d 198 164 L' ([]) S Q) : am_V none d 198 189 L ((.int i1) :: (.int i2) :: []) S Q := by
  refine sg_use sg_me_h_g hd hP (sg_xs [0, x1, x2, x3, x4, x5, x6]) ⟨⟨Int.le_refl 0, Int.le_refl 0⟩, b1, b2, b3, b4, b5, b6, trivial⟩ trivial trivial trivial ⟨l0, l1, l2, l3, l5, trivial⟩ ⟨⟨_, rfl, s1⟩, ⟨_, rfl, s2⟩, trivial⟩ ?_
  intro z hz x' L' st' S' hx hP' hW hL' hs' hJ hE' hT' hD'
  have q1 : x' 1 = x1 := hx 1 (by decide)
  subst q1
  have q2 : x' 2 = x2 := hx 2 (by decide)
  subst q2
  have q3 : x' 3 = x3 := hx 3 (by decide)
  subst q3
  have q4 : x' 4 = x4 := hx 4 (by decide)
  subst q4
  have q5 : x' 5 = x5 := hx 5 (by decide)
  subst q5
  have q6 : x' 6 = x6 := hx 6 (by decide)
  subst q6
  have eS : S' = S := hW.1 rfl
  subst eS
  simp only [sg_me_h_Z, List.mem_cons, List.not_mem_nil, or_false] at hz
  rcases hz with rfl | rfl
  · obtain ⟨f0, f1, hσ⟩ := hJ
    obtain ⟨e0, e1, e2, e3, e4, e5, e6, -⟩ := hE'
    obtain ⟨p0, p1, p2, p3, p4, p5, -⟩ := hL'
    obtain rfl := sg_tn hs'
    exact k0 (x' 7) L' f0 f1 e0 e1 e2 e3 e4 e5 e6 p0 p1 p2 p3 p4 p5
  · obtain ⟨f0, f1, hσ⟩ := hJ
    obtain ⟨e0, e1, e2, e3, e4, e5, e6, -⟩ := hE'
    obtain ⟨p0, p1, p2, p3, p4, p5, -⟩ := hL'
    obtain rfl := sg_tn hs'
    exact k1 (x' 7) L' f0 f1 e0 e1 e2 e3 e4 e5 e6 p0 p1 p2 p3 p4 p5
def sg_me_i_Z : List sg_z := [(0, [], [.inl (false, (2, .ofNat 1, .ofNat 0))], [(2, 1, (1, .ofNat 1, .ofNat 0), (0, .ofNat 0, .ofNat 1), (0, .ofNat 0, .ofNat 0))], [(1, [(.ofNat 2, .ofNat 2)]), (2, [(.ofNat 0, .ofNat 100)])], [], []),
  (0, [], [.inl (false, (3, .ofNat 1, .ofNat 0))], [(0, 122, (0, .ofNat 0, .ofNat 24), (3, .ofNat 1, .ofNat 0), (0, .ofNat 0, .ofNat 0)), (2, 0, (1, .ofNat 1, .ofNat 0), (0, .ofNat 0, .ofNat 1), (0, .ofNat 0, .ofNat 0))], [(1, [(.ofNat 1, .ofNat 1)]), (2, [(.ofNat 0, .ofNat 100)])], [], [])]
set_option maxRecDepth 1000000 in
theorem sg_me_i_g : sg_go [] [] 3000 198 210 0 3 [(0, [(.ofNat 0, .ofNat 0)]), (1, [(.ofNat 1, .ofNat 2)]), (2, [(.ofNat 0, .ofNat 100)])] [] [] [] [(0, .inr (.inl [122])), (3, .inl (false, (1, .ofNat 1, .ofNat 0))), (4, .inl (false, (2, .ofNat 1, .ofNat 0)))] [] [] sg_me_i_Z = true := by decide +kernel
set_option maxRecDepth 100000 in
theorem sg_me_i {Q : Option Value × am_S → Prop} {d : Nat} {S : am_S} {L : am_L} {x1 x2 : Int} (hd : 0 ≤ d) (hP : ax_P0 none S) (l0 : lc L 0 122) (l3 : li L 3 x1) (l4 : li L 4 x2) (b1 : (1 ≤ x1 ∧ x1 ≤ 2)) (b2 : (0 ≤ x2 ∧ x2 ≤ 100))
    (k0 : ∀ (i1 : Int32), x1 ≠ 1 → (2 ≤ x1 ∧ x1 ≤ 2) → (0 ≤ x2 ∧ x2 ≤ 100) → i1.toInt = x2 → Q (some (.int i1), S))
    (k1 : ∀ (x3 : Int) (i1 : Int32), x1 = 1 → rd S 122 24 = x3 → (1 ≤ x1 ∧ x1 ≤ 1) → (0 ≤ x2 ∧ x2 ≤ 100) → i1.toInt = x3 → Q (some (.int i1), S)) : am_V none d 198 210 L ([]) S Q := by
  refine sg_use sg_me_i_g hd hP (sg_xs [0, x1, x2]) ⟨⟨Int.le_refl 0, Int.le_refl 0⟩, b1, b2, trivial⟩ trivial trivial trivial ⟨l0, l3, l4, trivial⟩ trivial ?_
  intro z hz x' L' st' S' hx hP' hW hL' hs' hJ hE' hT' hD'
  have q1 : x' 1 = x1 := hx 1 (by decide)
  subst q1
  have q2 : x' 2 = x2 := hx 2 (by decide)
  subst q2
  have eS : S' = S := hW.1 rfl
  subst eS
  simp only [sg_me_i_Z, List.mem_cons, List.not_mem_nil, or_false] at hz
  rcases hz with rfl | rfl
  · obtain ⟨f0, hσ⟩ := hJ
    obtain ⟨e0, e1, -⟩ := hE'
    intro v hv
    subst hv
    cases v with
    | none => exact hs'.elim
    | some v1 =>
      obtain ⟨⟨i1, rfl, g1⟩, -⟩ := hs'
      exact k0 i1 f0 e0 e1 g1
  · obtain ⟨f0, f1, hσ⟩ := hJ
    obtain ⟨e0, e1, -⟩ := hE'
    intro v hv
    subst hv
    cases v with
    | none => exact hs'.elim
    | some v1 =>
      obtain ⟨⟨i1, rfl, g1⟩, -⟩ := hs'
      exact k1 (x' 3) i1 f0 f1 e0 e1 g1
