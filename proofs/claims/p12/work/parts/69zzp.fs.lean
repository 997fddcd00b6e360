/-! ===== foretold: what happens from place to place ===== -/
def sg_fo_a_Z : List sg_z := [(8, [(0, .inr (.inl [40])), (1, .inr (.inl [1])), (2, .inr (.inl [6])), (3, .inl (false, (0, .ofNat 0, .ofNat 0)))], [], [(1, 40, (0, .ofNat 0, .ofNat 4), (0, .ofNat 0, .ofNat 0), (0, .ofNat 0, .ofNat 0))], [], [], [])]
set_option maxRecDepth 1000000 in
theorem sg_fo_a_g : sg_go [] [7] 3000 57 0 0 1 [(0, [(.ofNat 0, .ofNat 0)])] [] [] [] [(0, .inr (.inl [40])), (1, .inr (.inl [1])), (2, .inr (.inl [6]))] [] [(40, some 4)] sg_fo_a_Z = true := by decide +kernel
set_option maxRecDepth 100000 in
theorem sg_fo_a {Q : Option Value × am_S → Prop} {d : Nat} {S : am_S} {L : am_L} (hd : 0 ≤ d) (hP : ax_P0 none S) (l0 : lc L 0 40) (l1 : lc L 1 1) (l2 : lc L 2 6)
    (k0 : ∀ (L' : am_L) (S' : am_S), ax_P0 none S' → rd S' = sg_up (rd S) 40 4 0 → lc L' 0 40 → lc L' 1 1 → lc L' 2 6 → li L' 3 0 → am_V none d 57 7 L' ([]) S' Q) : am_V none d 57 0 L ([]) S Q := by
  refine sg_use sg_fo_a_g hd hP (sg_xs [0]) ⟨⟨Int.le_refl 0, Int.le_refl 0⟩, trivial⟩ trivial trivial trivial ⟨l0, l1, l2, trivial⟩ trivial ?_
  intro z hz x' L' st' S' hx hP' hW hL' hs' hJ hE' hT' hD'
  simp only [sg_fo_a_Z, List.mem_cons, List.not_mem_nil, or_false] at hz
  rcases hz with rfl
  · have hσ := hJ
    obtain ⟨p0, p1, p2, p3, -⟩ := hL'
    obtain rfl := sg_tn hs'
    exact k0 L' S' hP' hσ p0 p1 p2 p3
def sg_fo_b_Z : List sg_z := [(0, [], [], [(2, 3, (1, .ofNat 1, .ofNat 0), (2, .ofNat 1, .ofNat 0), (0, .ofNat 0, .ofNat 0)), (0, 1, (0, .ofNat 0, .ofNat 0), (2, .ofNat 1, .ofNat 0), (0, .ofNat 0, .ofNat 0))], [(1, [(.ofNat 0, .ofNat 8)]), (2, [(.ofNat 0, .ofNat 8)])], [], []),
  (19, [(0, .inr (.inl [40])), (1, .inr (.inl [1])), (2, .inr (.inl [6])), (3, .inl (false, (1, .ofNat 1, .ofNat 0))), (4, .inl (false, (0, .ofNat 0, .ofNat 0)))], [], [(2, 2, (1, .ofNat 1, .ofNat 0), (2, .ofNat 1, .ofNat 0), (0, .ofNat 0, .ofNat 0)), (0, 1, (0, .ofNat 0, .ofNat 0), (2, .ofNat 1, .ofNat 0), (0, .ofNat 0, .ofNat 0))], [(1, [(.ofNat 0, .ofNat 7)]), (2, [(.ofNat 1, .ofNat 8)])], [], [])]
set_option maxRecDepth 1000000 in
theorem sg_fo_b_g : sg_go [] [18] 3000 57 7 0 2 [(0, [(.ofNat 0, .ofNat 0)]), (1, [(.ofNat 0, .ofNat 8)])] [] [] [] [(0, .inr (.inl [40])), (1, .inr (.inl [1])), (2, .inr (.inl [6])), (3, .inl (false, (1, .ofNat 1, .ofNat 0)))] [] [] sg_fo_b_Z = true := by decide +kernel
set_option maxRecDepth 100000 in
theorem sg_fo_b {Q : Option Value × am_S → Prop} {d : Nat} {S : am_S} {L : am_L} {x1 : Int} (hd : 0 ≤ d) (hP : ax_P0 none S) (l0 : lc L 0 40) (l1 : lc L 1 1) (l2 : lc L 2 6) (l3 : li L 3 x1) (b1 : (0 ≤ x1 ∧ x1 ≤ 8))
    (k0 : ∀ (x2 : Int), rd S 1 0 = x2 → x2 ≤ x1 → (0 ≤ x1 ∧ x1 ≤ 8) → (0 ≤ x2 ∧ x2 ≤ 8) → Q (none, S))
    (k1 : ∀ (x2 : Int) (L' : am_L), rd S 1 0 = x2 → x1 < x2 → (0 ≤ x1 ∧ x1 ≤ 7) → (1 ≤ x2 ∧ x2 ≤ 8) → lc L' 0 40 → lc L' 1 1 → lc L' 2 6 → li L' 3 x1 → li L' 4 0 → am_V none d 57 18 L' ([]) S Q) : am_V none d 57 7 L ([]) S Q := by
  refine sg_use sg_fo_b_g hd hP (sg_xs [0, x1]) ⟨⟨Int.le_refl 0, Int.le_refl 0⟩, b1, trivial⟩ trivial trivial trivial ⟨l0, l1, l2, l3, trivial⟩ trivial ?_
  intro z hz x' L' st' S' hx hP' hW hL' hs' hJ hE' hT' hD'
  have q1 : x' 1 = x1 := hx 1 (by decide)
  subst q1
  have eS : S' = S := hW.1 rfl
  subst eS
  simp only [sg_fo_b_Z, List.mem_cons, List.not_mem_nil, or_false] at hz
  rcases hz with rfl | rfl
  · obtain ⟨f0, f1, hσ⟩ := hJ
    obtain ⟨e0, e1, -⟩ := hE'
    intro v hv
    subst hv
    cases v with
    | some _ => exact hs'.elim
    | none =>
      exact k0 (x' 2) f0 f1 e0 e1
  · obtain ⟨f0, f1, hσ⟩ := hJ
    obtain ⟨e0, e1, -⟩ := hE'
    obtain ⟨p0, p1, p2, p3, p4, -⟩ := hL'
    obtain rfl := sg_tn hs'
    exact k1 (x' 2) L' f0 f1 e0 e1 p0 p1 p2 p3 p4
def sg_fo_c_Z : List sg_z := [(8, [(0, .inr (.inl [40])), (1, .inr (.inl [1])), (2, .inr (.inl [6])), (3, .inl (false, (1, .ofNat 1, .ofNat 1))), (4, .inl (false, (2, .ofNat 1, .ofNat 0)))], [], [(2, 3, (2, .ofNat 1, .ofNat 0), (3, .ofNat 1, .ofNat 0), (0, .ofNat 0, .ofNat 0)), (0, 1, (0, .ofNat 0, .ofNat 0), (3, .ofNat 1, .ofNat 0), (0, .ofNat 0, .ofNat 0))], [(1, [(.ofNat 0, .ofNat 7)]), (2, [(.ofNat 0, .ofNat 8)]), (3, [(.ofNat 0, .ofNat 8)])], [], []),
  (19, [(0, .inr (.inl [40])), (1, .inr (.inl [1])), (2, .inr (.inl [6])), (3, .inl (false, (1, .ofNat 1, .ofNat 0))), (4, .inl (false, (2, .ofNat 1, .ofNat 1))), (5, .inl (false, (6, .ofNat 1, .ofNat 0)))], [], [(2, 5, (6, .ofNat 1, .ofNat 0), (0, .ofNat 0, .ofNat 0), (0, .ofNat 0, .ofNat 0)), (0, 2, (2, .ofNat 1, .ofNat 0), (5, .ofNat 1, .ofNat 0), (0, .ofNat 0, .ofNat 0)), (0, 2, (1, .ofNat 1, .ofNat 0), (4, .ofNat 1, .ofNat 0), (0, .ofNat 0, .ofNat 0)), (2, 2, (2, .ofNat 1, .ofNat 0), (3, .ofNat 1, .ofNat 0), (0, .ofNat 0, .ofNat 0)), (0, 1, (0, .ofNat 0, .ofNat 0), (3, .ofNat 1, .ofNat 0), (0, .ofNat 0, .ofNat 0))], [(1, [(.ofNat 0, .ofNat 7)]), (2, [(.ofNat 0, .ofNat 7)]), (3, [(.ofNat 1, .ofNat 8)]), (4, [(.ofNat 0, .ofNat 1000000)]), (5, [(.ofNat 0, .ofNat 1000000)]), (6, [(.negSucc 999999, .ofNat 0)])], [((4, .ofNat 1, .ofNat 0), (5, .negSucc 0, .ofNat 0), (6, .ofNat 1, .ofNat 0))], []),
  (19, [(0, .inr (.inl [40])), (1, .inr (.inl [1])), (2, .inr (.inl [6])), (3, .inl (false, (1, .ofNat 1, .ofNat 0))), (4, .inl (false, (2, .ofNat 1, .ofNat 1))), (5, .inl (false, (6, .ofNat 1, .ofNat 0)))], [], [(2, 0, (0, .ofNat 0, .ofNat 0), (0, .ofNat 0, .ofNat 0), (0, .ofNat 0, .ofNat 0)), (2, 0, (11, .ofNat 1, .ofNat 0), (7, .ofNat 1, .ofNat 0), (0, .ofNat 0, .ofNat 0)), (0, 3, (1, .ofNat 1, .ofNat 0), (11, .ofNat 1, .ofNat 0), (0, .ofNat 0, .ofNat 0)), (2, 3, (10, .ofNat 1, .ofNat 0), (0, .ofNat 0, .ofNat 0), (0, .ofNat 0, .ofNat 0)), (0, 4, (1, .ofNat 1, .ofNat 0), (9, .ofNat 1, .ofNat 0), (0, .ofNat 0, .ofNat 0)), (0, 4, (2, .ofNat 1, .ofNat 0), (8, .ofNat 1, .ofNat 0), (0, .ofNat 0, .ofNat 0)), (0, 3, (2, .ofNat 1, .ofNat 0), (7, .ofNat 1, .ofNat 0), (0, .ofNat 0, .ofNat 0)), (2, 4, (6, .ofNat 1, .ofNat 0), (0, .ofNat 0, .ofNat 0), (0, .ofNat 0, .ofNat 0)), (0, 2, (2, .ofNat 1, .ofNat 0), (5, .ofNat 1, .ofNat 0), (0, .ofNat 0, .ofNat 0)), (0, 2, (1, .ofNat 1, .ofNat 0), (4, .ofNat 1, .ofNat 0), (0, .ofNat 0, .ofNat 0)), (2, 2, (2, .ofNat 1, .ofNat 0), (3, .ofNat 1, .ofNat 0), (0, .ofNat 0, .ofNat 0)), (0, 1, (0, .ofNat 0, .ofNat 0), (3, .ofNat 1, .ofNat 0), (0, .ofNat 0, .ofNat 0))], [(1, [(.ofNat 0, .ofNat 7)]), (2, [(.ofNat 0, .ofNat 7)]), (3, [(.ofNat 1, .ofNat 8)]), (4, [(.ofNat 0, .ofNat 1000000)]), (5, [(.ofNat 0, .ofNat 1000000)]), (6, [(.ofNat 1, .ofNat 1000000)]), (7, [(.ofNat 0, .ofNat 1)]), (8, [(.ofNat 0, .ofNat 9)]), (9, [(.ofNat 0, .ofNat 9)]), (10, [(.ofNat 0, .ofNat 9)]), (11, [(.ofNat 0, .ofNat 1)])], [((9, .ofNat 1, .ofNat 0), (8, .negSucc 0, .ofNat 0), (10, .ofNat 1, .ofNat 0)), ((4, .ofNat 1, .ofNat 0), (5, .negSucc 0, .ofNat 0), (6, .ofNat 1, .ofNat 0))], []),
  (19, [(0, .inr (.inl [40])), (1, .inr (.inl [1])), (2, .inr (.inl [6])), (3, .inl (false, (1, .ofNat 1, .ofNat 0))), (4, .inl (false, (2, .ofNat 1, .ofNat 1))), (5, .inl (false, (6, .ofNat 1, .ofNat 0)))], [], [(2, 0, (0, .ofNat 0, .ofNat 0), (0, .ofNat 0, .ofNat 0), (0, .ofNat 0, .ofNat 0)), (2, 5, (12, .ofNat 1, .ofNat 0), (0, .ofNat 0, .ofNat 0), (0, .ofNat 0, .ofNat 0)), (0, 4, (1, .ofNat 1, .ofNat 0), (9, .ofNat 1, .ofNat 0), (0, .ofNat 0, .ofNat 0)), (2, 0, (10, .ofNat 1, .ofNat 0), (0, .ofNat 0, .ofNat 0), (0, .ofNat 0, .ofNat 0)), (2, 1, (11, .ofNat 1, .ofNat 0), (7, .ofNat 1, .ofNat 0), (0, .ofNat 0, .ofNat 0)), (0, 3, (1, .ofNat 1, .ofNat 0), (11, .ofNat 1, .ofNat 0), (0, .ofNat 0, .ofNat 0)), (2, 3, (10, .ofNat 1, .ofNat 0), (0, .ofNat 0, .ofNat 0), (0, .ofNat 0, .ofNat 0)), (0, 4, (1, .ofNat 1, .ofNat 0), (9, .ofNat 1, .ofNat 0), (0, .ofNat 0, .ofNat 0)), (0, 4, (2, .ofNat 1, .ofNat 0), (8, .ofNat 1, .ofNat 0), (0, .ofNat 0, .ofNat 0)), (0, 3, (2, .ofNat 1, .ofNat 0), (7, .ofNat 1, .ofNat 0), (0, .ofNat 0, .ofNat 0)), (2, 4, (6, .ofNat 1, .ofNat 0), (0, .ofNat 0, .ofNat 0), (0, .ofNat 0, .ofNat 0)), (0, 2, (2, .ofNat 1, .ofNat 0), (5, .ofNat 1, .ofNat 0), (0, .ofNat 0, .ofNat 0)), (0, 2, (1, .ofNat 1, .ofNat 0), (4, .ofNat 1, .ofNat 0), (0, .ofNat 0, .ofNat 0)), (2, 2, (2, .ofNat 1, .ofNat 0), (3, .ofNat 1, .ofNat 0), (0, .ofNat 0, .ofNat 0)), (0, 1, (0, .ofNat 0, .ofNat 0), (3, .ofNat 1, .ofNat 0), (0, .ofNat 0, .ofNat 0))], [(1, [(.ofNat 0, .ofNat 7)]), (2, [(.ofNat 0, .ofNat 7)]), (3, [(.ofNat 1, .ofNat 8)]), (4, [(.ofNat 0, .ofNat 1000000)]), (5, [(.ofNat 0, .ofNat 1000000)]), (6, [(.ofNat 1, .ofNat 1000000)]), (7, [(.ofNat 0, .ofNat 1)]), (8, [(.ofNat 0, .ofNat 9)]), (9, [(.ofNat 0, .ofNat 9)]), (10, [(.ofNat 0, .ofNat 0)]), (11, [(.ofNat 0, .ofNat 1)]), (12, [(.ofNat 0, .ofNat 0)])], [((9, .ofNat 1, .ofNat 0), (8, .ofNat 1, .ofNat 0), (12, .ofNat 1, .ofNat 0)), ((9, .ofNat 1, .ofNat 0), (8, .negSucc 0, .ofNat 0), (10, .ofNat 1, .ofNat 0)), ((4, .ofNat 1, .ofNat 0), (5, .negSucc 0, .ofNat 0), (6, .ofNat 1, .ofNat 0))], []),
  (63, [(0, .inr (.inl [40])), (1, .inr (.inl [1])), (2, .inr (.inl [6])), (3, .inl (false, (1, .ofNat 1, .ofNat 0))), (4, .inl (false, (2, .ofNat 1, .ofNat 0))), (5, .inl (false, (6, .ofNat 1, .ofNat 0)))], [.inl (false, (2, .ofNat 1, .ofNat 0)), .inl (false, (1, .ofNat 1, .ofNat 0)), .inr (.inl [6])], [(2, 1, (0, .ofNat 0, .ofNat 1), (0, .ofNat 0, .ofNat 0), (0, .ofNat 0, .ofNat 0)), (2, 4, (12, .ofNat 1, .ofNat 0), (0, .ofNat 0, .ofNat 0), (0, .ofNat 0, .ofNat 0)), (0, 4, (1, .ofNat 1, .ofNat 0), (9, .ofNat 1, .ofNat 0), (0, .ofNat 0, .ofNat 0)), (2, 0, (10, .ofNat 1, .ofNat 0), (0, .ofNat 0, .ofNat 0), (0, .ofNat 0, .ofNat 0)), (2, 1, (11, .ofNat 1, .ofNat 0), (7, .ofNat 1, .ofNat 0), (0, .ofNat 0, .ofNat 0)), (0, 3, (1, .ofNat 1, .ofNat 0), (11, .ofNat 1, .ofNat 0), (0, .ofNat 0, .ofNat 0)), (2, 3, (10, .ofNat 1, .ofNat 0), (0, .ofNat 0, .ofNat 0), (0, .ofNat 0, .ofNat 0)), (0, 4, (1, .ofNat 1, .ofNat 0), (9, .ofNat 1, .ofNat 0), (0, .ofNat 0, .ofNat 0)), (0, 4, (2, .ofNat 1, .ofNat 0), (8, .ofNat 1, .ofNat 0), (0, .ofNat 0, .ofNat 0)), (0, 3, (2, .ofNat 1, .ofNat 0), (7, .ofNat 1, .ofNat 0), (0, .ofNat 0, .ofNat 0)), (2, 4, (6, .ofNat 1, .ofNat 0), (0, .ofNat 0, .ofNat 0), (0, .ofNat 0, .ofNat 0)), (0, 2, (2, .ofNat 1, .ofNat 0), (5, .ofNat 1, .ofNat 0), (0, .ofNat 0, .ofNat 0)), (0, 2, (1, .ofNat 1, .ofNat 0), (4, .ofNat 1, .ofNat 0), (0, .ofNat 0, .ofNat 0)), (2, 2, (2, .ofNat 1, .ofNat 0), (3, .ofNat 1, .ofNat 0), (0, .ofNat 0, .ofNat 0)), (0, 1, (0, .ofNat 0, .ofNat 0), (3, .ofNat 1, .ofNat 0), (0, .ofNat 0, .ofNat 0))], [(1, [(.ofNat 0, .ofNat 7)]), (2, [(.ofNat 0, .ofNat 7)]), (3, [(.ofNat 1, .ofNat 8)]), (4, [(.ofNat 0, .ofNat 1000000)]), (5, [(.ofNat 0, .ofNat 1000000)]), (6, [(.ofNat 1, .ofNat 1000000)]), (7, [(.ofNat 0, .ofNat 1)]), (8, [(.ofNat 0, .ofNat 9)]), (9, [(.ofNat 0, .ofNat 9)]), (10, [(.ofNat 0, .ofNat 0)]), (11, [(.ofNat 0, .ofNat 1)]), (12, [(.ofNat 1, .ofNat 18)])], [((9, .ofNat 1, .ofNat 0), (8, .ofNat 1, .ofNat 0), (12, .ofNat 1, .ofNat 0)), ((9, .ofNat 1, .ofNat 0), (8, .negSucc 0, .ofNat 0), (10, .ofNat 1, .ofNat 0)), ((4, .ofNat 1, .ofNat 0), (5, .negSucc 0, .ofNat 0), (6, .ofNat 1, .ofNat 0))], []),
  (19, [(0, .inr (.inl [40])), (1, .inr (.inl [1])), (2, .inr (.inl [6])), (3, .inl (false, (1, .ofNat 1, .ofNat 0))), (4, .inl (false, (2, .ofNat 1, .ofNat 1))), (5, .inl (false, (6, .ofNat 1, .ofNat 0)))], [], [(2, 0, (0, .ofNat 0, .ofNat 0), (0, .ofNat 0, .ofNat 0), (0, .ofNat 0, .ofNat 0)), (2, 1, (10, .ofNat 1, .ofNat 0), (0, .ofNat 0, .ofNat 2), (0, .ofNat 0, .ofNat 0)), (2, 1, (10, .ofNat 1, .ofNat 0), (0, .ofNat 0, .ofNat 0), (0, .ofNat 0, .ofNat 0)), (2, 1, (11, .ofNat 1, .ofNat 0), (7, .ofNat 1, .ofNat 0), (0, .ofNat 0, .ofNat 0)), (0, 3, (1, .ofNat 1, .ofNat 0), (11, .ofNat 1, .ofNat 0), (0, .ofNat 0, .ofNat 0)), (2, 3, (10, .ofNat 1, .ofNat 0), (0, .ofNat 0, .ofNat 0), (0, .ofNat 0, .ofNat 0)), (0, 4, (1, .ofNat 1, .ofNat 0), (9, .ofNat 1, .ofNat 0), (0, .ofNat 0, .ofNat 0)), (0, 4, (2, .ofNat 1, .ofNat 0), (8, .ofNat 1, .ofNat 0), (0, .ofNat 0, .ofNat 0)), (0, 3, (2, .ofNat 1, .ofNat 0), (7, .ofNat 1, .ofNat 0), (0, .ofNat 0, .ofNat 0)), (2, 4, (6, .ofNat 1, .ofNat 0), (0, .ofNat 0, .ofNat 0), (0, .ofNat 0, .ofNat 0)), (0, 2, (2, .ofNat 1, .ofNat 0), (5, .ofNat 1, .ofNat 0), (0, .ofNat 0, .ofNat 0)), (0, 2, (1, .ofNat 1, .ofNat 0), (4, .ofNat 1, .ofNat 0), (0, .ofNat 0, .ofNat 0)), (2, 2, (2, .ofNat 1, .ofNat 0), (3, .ofNat 1, .ofNat 0), (0, .ofNat 0, .ofNat 0)), (0, 1, (0, .ofNat 0, .ofNat 0), (3, .ofNat 1, .ofNat 0), (0, .ofNat 0, .ofNat 0))], [(1, [(.ofNat 0, .ofNat 7)]), (2, [(.ofNat 0, .ofNat 7)]), (3, [(.ofNat 1, .ofNat 8)]), (4, [(.ofNat 0, .ofNat 1000000)]), (5, [(.ofNat 0, .ofNat 1000000)]), (6, [(.ofNat 1, .ofNat 1000000)]), (7, [(.ofNat 0, .ofNat 1)]), (8, [(.ofNat 0, .ofNat 9)]), (9, [(.ofNat 0, .ofNat 9)]), (10, [(.ofNat 1, .ofNat 1), (.ofNat 3, .ofNat 9)]), (11, [(.ofNat 0, .ofNat 1)])], [((9, .ofNat 1, .ofNat 0), (8, .negSucc 0, .ofNat 0), (10, .ofNat 1, .ofNat 0)), ((4, .ofNat 1, .ofNat 0), (5, .negSucc 0, .ofNat 0), (6, .ofNat 1, .ofNat 0))], []),
  (19, [(0, .inr (.inl [40])), (1, .inr (.inl [1])), (2, .inr (.inl [6])), (3, .inl (false, (1, .ofNat 1, .ofNat 0))), (4, .inl (false, (2, .ofNat 1, .ofNat 1))), (5, .inl (false, (6, .ofNat 1, .ofNat 0)))], [], [(2, 0, (0, .ofNat 0, .ofNat 0), (0, .ofNat 0, .ofNat 0), (0, .ofNat 0, .ofNat 0)), (2, 5, (12, .ofNat 1, .ofNat 0), (0, .ofNat 0, .ofNat 0), (0, .ofNat 0, .ofNat 0)), (0, 4, (1, .ofNat 1, .ofNat 0), (9, .ofNat 1, .ofNat 0), (0, .ofNat 0, .ofNat 0)), (2, 0, (10, .ofNat 1, .ofNat 0), (0, .ofNat 0, .ofNat 2), (0, .ofNat 0, .ofNat 0)), (2, 1, (10, .ofNat 1, .ofNat 0), (0, .ofNat 0, .ofNat 0), (0, .ofNat 0, .ofNat 0)), (2, 1, (11, .ofNat 1, .ofNat 0), (7, .ofNat 1, .ofNat 0), (0, .ofNat 0, .ofNat 0)), (0, 3, (1, .ofNat 1, .ofNat 0), (11, .ofNat 1, .ofNat 0), (0, .ofNat 0, .ofNat 0)), (2, 3, (10, .ofNat 1, .ofNat 0), (0, .ofNat 0, .ofNat 0), (0, .ofNat 0, .ofNat 0)), (0, 4, (1, .ofNat 1, .ofNat 0), (9, .ofNat 1, .ofNat 0), (0, .ofNat 0, .ofNat 0)), (0, 4, (2, .ofNat 1, .ofNat 0), (8, .ofNat 1, .ofNat 0), (0, .ofNat 0, .ofNat 0)), (0, 3, (2, .ofNat 1, .ofNat 0), (7, .ofNat 1, .ofNat 0), (0, .ofNat 0, .ofNat 0)), (2, 4, (6, .ofNat 1, .ofNat 0), (0, .ofNat 0, .ofNat 0), (0, .ofNat 0, .ofNat 0)), (0, 2, (2, .ofNat 1, .ofNat 0), (5, .ofNat 1, .ofNat 0), (0, .ofNat 0, .ofNat 0)), (0, 2, (1, .ofNat 1, .ofNat 0), (4, .ofNat 1, .ofNat 0), (0, .ofNat 0, .ofNat 0)), (2, 2, (2, .ofNat 1, .ofNat 0), (3, .ofNat 1, .ofNat 0), (0, .ofNat 0, .ofNat 0)), (0, 1, (0, .ofNat 0, .ofNat 0), (3, .ofNat 1, .ofNat 0), (0, .ofNat 0, .ofNat 0))], [(1, [(.ofNat 0, .ofNat 7)]), (2, [(.ofNat 0, .ofNat 7)]), (3, [(.ofNat 1, .ofNat 8)]), (4, [(.ofNat 0, .ofNat 1000000)]), (5, [(.ofNat 0, .ofNat 1000000)]), (6, [(.ofNat 1, .ofNat 1000000)]), (7, [(.ofNat 0, .ofNat 1)]), (8, [(.ofNat 0, .ofNat 9)]), (9, [(.ofNat 0, .ofNat 9)]), (10, [(.ofNat 2, .ofNat 2)]), (11, [(.ofNat 0, .ofNat 1)]), (12, [(.ofNat 0, .ofNat 0)])], [((9, .ofNat 1, .ofNat 0), (8, .ofNat 1, .ofNat 0), (12, .ofNat 1, .ofNat 0)), ((9, .ofNat 1, .ofNat 0), (8, .negSucc 0, .ofNat 0), (10, .ofNat 1, .ofNat 0)), ((4, .ofNat 1, .ofNat 0), (5, .negSucc 0, .ofNat 0), (6, .ofNat 1, .ofNat 0))], []),
  (63, [(0, .inr (.inl [40])), (1, .inr (.inl [1])), (2, .inr (.inl [6])), (3, .inl (false, (1, .ofNat 1, .ofNat 0))), (4, .inl (false, (2, .ofNat 1, .ofNat 0))), (5, .inl (false, (6, .ofNat 1, .ofNat 0)))], [.inl (false, (2, .ofNat 1, .ofNat 0)), .inl (false, (1, .ofNat 1, .ofNat 0)), .inr (.inl [6])], [(2, 1, (0, .ofNat 0, .ofNat 1), (0, .ofNat 0, .ofNat 0), (0, .ofNat 0, .ofNat 0)), (2, 4, (12, .ofNat 1, .ofNat 0), (0, .ofNat 0, .ofNat 0), (0, .ofNat 0, .ofNat 0)), (0, 4, (1, .ofNat 1, .ofNat 0), (9, .ofNat 1, .ofNat 0), (0, .ofNat 0, .ofNat 0)), (2, 0, (10, .ofNat 1, .ofNat 0), (0, .ofNat 0, .ofNat 2), (0, .ofNat 0, .ofNat 0)), (2, 1, (10, .ofNat 1, .ofNat 0), (0, .ofNat 0, .ofNat 0), (0, .ofNat 0, .ofNat 0)), (2, 1, (11, .ofNat 1, .ofNat 0), (7, .ofNat 1, .ofNat 0), (0, .ofNat 0, .ofNat 0)), (0, 3, (1, .ofNat 1, .ofNat 0), (11, .ofNat 1, .ofNat 0), (0, .ofNat 0, .ofNat 0)), (2, 3, (10, .ofNat 1, .ofNat 0), (0, .ofNat 0, .ofNat 0), (0, .ofNat 0, .ofNat 0)), (0, 4, (1, .ofNat 1, .ofNat 0), (9, .ofNat 1, .ofNat 0), (0, .ofNat 0, .ofNat 0)), (0, 4, (2, .ofNat 1, .ofNat 0), (8, .ofNat 1, .ofNat 0), (0, .ofNat 0, .ofNat 0)), (0, 3, (2, .ofNat 1, .ofNat 0), (7, .ofNat 1, .ofNat 0), (0, .ofNat 0, .ofNat 0)), (2, 4, (6, .ofNat 1, .ofNat 0), (0, .ofNat 0, .ofNat 0), (0, .ofNat 0, .ofNat 0)), (0, 2, (2, .ofNat 1, .ofNat 0), (5, .ofNat 1, .ofNat 0), (0, .ofNat 0, .ofNat 0)), (0, 2, (1, .ofNat 1, .ofNat 0), (4, .ofNat 1, .ofNat 0), (0, .ofNat 0, .ofNat 0)), (2, 2, (2, .ofNat 1, .ofNat 0), (3, .ofNat 1, .ofNat 0), (0, .ofNat 0, .ofNat 0)), (0, 1, (0, .ofNat 0, .ofNat 0), (3, .ofNat 1, .ofNat 0), (0, .ofNat 0, .ofNat 0))], [(1, [(.ofNat 0, .ofNat 7)]), (2, [(.ofNat 0, .ofNat 7)]), (3, [(.ofNat 1, .ofNat 8)]), (4, [(.ofNat 0, .ofNat 1000000)]), (5, [(.ofNat 0, .ofNat 1000000)]), (6, [(.ofNat 1, .ofNat 1000000)]), (7, [(.ofNat 0, .ofNat 1)]), (8, [(.ofNat 0, .ofNat 9)]), (9, [(.ofNat 0, .ofNat 9)]), (10, [(.ofNat 2, .ofNat 2)]), (11, [(.ofNat 0, .ofNat 1)]), (12, [(.ofNat 1, .ofNat 18)])], [((9, .ofNat 1, .ofNat 0), (8, .ofNat 1, .ofNat 0), (12, .ofNat 1, .ofNat 0)), ((9, .ofNat 1, .ofNat 0), (8, .negSucc 0, .ofNat 0), (10, .ofNat 1, .ofNat 0)), ((4, .ofNat 1, .ofNat 0), (5, .negSucc 0, .ofNat 0), (6, .ofNat 1, .ofNat 0))], []),
  (19, [(0, .inr (.inl [40])), (1, .inr (.inl [1])), (2, .inr (.inl [6])), (3, .inl (false, (1, .ofNat 1, .ofNat 0))), (4, .inl (false, (2, .ofNat 1, .ofNat 1))), (5, .inl (false, (6, .ofNat 1, .ofNat 0)))], [], [(2, 0, (0, .ofNat 0, .ofNat 0), (0, .ofNat 0, .ofNat 0), (0, .ofNat 0, .ofNat 0)), (2, 0, (11, .ofNat 1, .ofNat 0), (7, .ofNat 1, .ofNat 0), (0, .ofNat 0, .ofNat 0)), (0, 3, (1, .ofNat 1, .ofNat 0), (11, .ofNat 1, .ofNat 0), (0, .ofNat 0, .ofNat 0)), (2, 2, (10, .ofNat 1, .ofNat 0), (0, .ofNat 0, .ofNat 0), (0, .ofNat 0, .ofNat 0)), (0, 4, (1, .ofNat 1, .ofNat 0), (9, .ofNat 1, .ofNat 0), (0, .ofNat 0, .ofNat 0)), (0, 4, (2, .ofNat 1, .ofNat 0), (8, .ofNat 1, .ofNat 0), (0, .ofNat 0, .ofNat 0)), (0, 3, (2, .ofNat 1, .ofNat 0), (7, .ofNat 1, .ofNat 0), (0, .ofNat 0, .ofNat 0)), (2, 4, (6, .ofNat 1, .ofNat 0), (0, .ofNat 0, .ofNat 0), (0, .ofNat 0, .ofNat 0)), (0, 2, (2, .ofNat 1, .ofNat 0), (5, .ofNat 1, .ofNat 0), (0, .ofNat 0, .ofNat 0)), (0, 2, (1, .ofNat 1, .ofNat 0), (4, .ofNat 1, .ofNat 0), (0, .ofNat 0, .ofNat 0)), (2, 2, (2, .ofNat 1, .ofNat 0), (3, .ofNat 1, .ofNat 0), (0, .ofNat 0, .ofNat 0)), (0, 1, (0, .ofNat 0, .ofNat 0), (3, .ofNat 1, .ofNat 0), (0, .ofNat 0, .ofNat 0))], [(1, [(.ofNat 0, .ofNat 7)]), (2, [(.ofNat 0, .ofNat 7)]), (3, [(.ofNat 1, .ofNat 8)]), (4, [(.ofNat 0, .ofNat 1000000)]), (5, [(.ofNat 0, .ofNat 1000000)]), (6, [(.ofNat 1, .ofNat 1000000)]), (7, [(.ofNat 0, .ofNat 1)]), (8, [(.ofNat 0, .ofNat 9)]), (9, [(.ofNat 0, .ofNat 9)]), (10, [(.negSucc 8, .negSucc 0)]), (11, [(.ofNat 0, .ofNat 1)])], [((9, .ofNat 1, .ofNat 0), (8, .negSucc 0, .ofNat 0), (10, .ofNat 1, .ofNat 0)), ((4, .ofNat 1, .ofNat 0), (5, .negSucc 0, .ofNat 0), (6, .ofNat 1, .ofNat 0))], []),
  (19, [(0, .inr (.inl [40])), (1, .inr (.inl [1])), (2, .inr (.inl [6])), (3, .inl (false, (1, .ofNat 1, .ofNat 0))), (4, .inl (false, (2, .ofNat 1, .ofNat 1))), (5, .inl (false, (6, .ofNat 1, .ofNat 0)))], [], [(2, 0, (0, .ofNat 0, .ofNat 0), (0, .ofNat 0, .ofNat 0), (0, .ofNat 0, .ofNat 0)), (2, 1, (10, .negSucc 0, .ofNat 0), (0, .ofNat 0, .ofNat 2), (0, .ofNat 0, .ofNat 0)), (2, 1, (10, .negSucc 0, .ofNat 0), (0, .ofNat 0, .ofNat 0), (0, .ofNat 0, .ofNat 0)), (2, 1, (11, .ofNat 1, .ofNat 0), (7, .ofNat 1, .ofNat 0), (0, .ofNat 0, .ofNat 0)), (0, 3, (1, .ofNat 1, .ofNat 0), (11, .ofNat 1, .ofNat 0), (0, .ofNat 0, .ofNat 0)), (2, 2, (10, .ofNat 1, .ofNat 0), (0, .ofNat 0, .ofNat 0), (0, .ofNat 0, .ofNat 0)), (0, 4, (1, .ofNat 1, .ofNat 0), (9, .ofNat 1, .ofNat 0), (0, .ofNat 0, .ofNat 0)), (0, 4, (2, .ofNat 1, .ofNat 0), (8, .ofNat 1, .ofNat 0), (0, .ofNat 0, .ofNat 0)), (0, 3, (2, .ofNat 1, .ofNat 0), (7, .ofNat 1, .ofNat 0), (0, .ofNat 0, .ofNat 0)), (2, 4, (6, .ofNat 1, .ofNat 0), (0, .ofNat 0, .ofNat 0), (0, .ofNat 0, .ofNat 0)), (0, 2, (2, .ofNat 1, .ofNat 0), (5, .ofNat 1, .ofNat 0), (0, .ofNat 0, .ofNat 0)), (0, 2, (1, .ofNat 1, .ofNat 0), (4, .ofNat 1, .ofNat 0), (0, .ofNat 0, .ofNat 0)), (2, 2, (2, .ofNat 1, .ofNat 0), (3, .ofNat 1, .ofNat 0), (0, .ofNat 0, .ofNat 0)), (0, 1, (0, .ofNat 0, .ofNat 0), (3, .ofNat 1, .ofNat 0), (0, .ofNat 0, .ofNat 0))], [(1, [(.ofNat 0, .ofNat 7)]), (2, [(.ofNat 0, .ofNat 7)]), (3, [(.ofNat 1, .ofNat 8)]), (4, [(.ofNat 0, .ofNat 1000000)]), (5, [(.ofNat 0, .ofNat 1000000)]), (6, [(.ofNat 1, .ofNat 1000000)]), (7, [(.ofNat 0, .ofNat 1)]), (8, [(.ofNat 0, .ofNat 9)]), (9, [(.ofNat 0, .ofNat 9)]), (10, [(.negSucc 8, .negSucc 2), (.negSucc 0, .negSucc 0)]), (11, [(.ofNat 0, .ofNat 1)])], [((9, .ofNat 1, .ofNat 0), (8, .negSucc 0, .ofNat 0), (10, .ofNat 1, .ofNat 0)), ((4, .ofNat 1, .ofNat 0), (5, .negSucc 0, .ofNat 0), (6, .ofNat 1, .ofNat 0))], []),
  (19, [(0, .inr (.inl [40])), (1, .inr (.inl [1])), (2, .inr (.inl [6])), (3, .inl (false, (1, .ofNat 1, .ofNat 0))), (4, .inl (false, (2, .ofNat 1, .ofNat 1))), (5, .inl (false, (6, .ofNat 1, .ofNat 0)))], [], [(2, 0, (0, .ofNat 0, .ofNat 0), (0, .ofNat 0, .ofNat 0), (0, .ofNat 0, .ofNat 0)), (2, 5, (12, .ofNat 1, .ofNat 0), (0, .ofNat 0, .ofNat 0), (0, .ofNat 0, .ofNat 0)), (0, 4, (1, .ofNat 1, .ofNat 0), (9, .ofNat 1, .ofNat 0), (0, .ofNat 0, .ofNat 0)), (2, 0, (10, .negSucc 0, .ofNat 0), (0, .ofNat 0, .ofNat 2), (0, .ofNat 0, .ofNat 0)), (2, 1, (10, .negSucc 0, .ofNat 0), (0, .ofNat 0, .ofNat 0), (0, .ofNat 0, .ofNat 0)), (2, 1, (11, .ofNat 1, .ofNat 0), (7, .ofNat 1, .ofNat 0), (0, .ofNat 0, .ofNat 0)), (0, 3, (1, .ofNat 1, .ofNat 0), (11, .ofNat 1, .ofNat 0), (0, .ofNat 0, .ofNat 0)), (2, 2, (10, .ofNat 1, .ofNat 0), (0, .ofNat 0, .ofNat 0), (0, .ofNat 0, .ofNat 0)), (0, 4, (1, .ofNat 1, .ofNat 0), (9, .ofNat 1, .ofNat 0), (0, .ofNat 0, .ofNat 0)), (0, 4, (2, .ofNat 1, .ofNat 0), (8, .ofNat 1, .ofNat 0), (0, .ofNat 0, .ofNat 0)), (0, 3, (2, .ofNat 1, .ofNat 0), (7, .ofNat 1, .ofNat 0), (0, .ofNat 0, .ofNat 0)), (2, 4, (6, .ofNat 1, .ofNat 0), (0, .ofNat 0, .ofNat 0), (0, .ofNat 0, .ofNat 0)), (0, 2, (2, .ofNat 1, .ofNat 0), (5, .ofNat 1, .ofNat 0), (0, .ofNat 0, .ofNat 0)), (0, 2, (1, .ofNat 1, .ofNat 0), (4, .ofNat 1, .ofNat 0), (0, .ofNat 0, .ofNat 0)), (2, 2, (2, .ofNat 1, .ofNat 0), (3, .ofNat 1, .ofNat 0), (0, .ofNat 0, .ofNat 0)), (0, 1, (0, .ofNat 0, .ofNat 0), (3, .ofNat 1, .ofNat 0), (0, .ofNat 0, .ofNat 0))], [(1, [(.ofNat 0, .ofNat 7)]), (2, [(.ofNat 0, .ofNat 7)]), (3, [(.ofNat 1, .ofNat 8)]), (4, [(.ofNat 0, .ofNat 1000000)]), (5, [(.ofNat 0, .ofNat 1000000)]), (6, [(.ofNat 1, .ofNat 1000000)]), (7, [(.ofNat 0, .ofNat 1)]), (8, [(.ofNat 0, .ofNat 9)]), (9, [(.ofNat 0, .ofNat 9)]), (10, [(.negSucc 1, .negSucc 1)]), (11, [(.ofNat 0, .ofNat 1)]), (12, [(.ofNat 0, .ofNat 0)])], [((9, .ofNat 1, .ofNat 0), (8, .ofNat 1, .ofNat 0), (12, .ofNat 1, .ofNat 0)), ((9, .ofNat 1, .ofNat 0), (8, .negSucc 0, .ofNat 0), (10, .ofNat 1, .ofNat 0)), ((4, .ofNat 1, .ofNat 0), (5, .negSucc 0, .ofNat 0), (6, .ofNat 1, .ofNat 0))], []),
  (63, [(0, .inr (.inl [40])), (1, .inr (.inl [1])), (2, .inr (.inl [6])), (3, .inl (false, (1, .ofNat 1, .ofNat 0))), (4, .inl (false, (2, .ofNat 1, .ofNat 0))), (5, .inl (false, (6, .ofNat 1, .ofNat 0)))], [.inl (false, (2, .ofNat 1, .ofNat 0)), .inl (false, (1, .ofNat 1, .ofNat 0)), .inr (.inl [6])], [(2, 1, (0, .ofNat 0, .ofNat 1), (0, .ofNat 0, .ofNat 0), (0, .ofNat 0, .ofNat 0)), (2, 4, (12, .ofNat 1, .ofNat 0), (0, .ofNat 0, .ofNat 0), (0, .ofNat 0, .ofNat 0)), (0, 4, (1, .ofNat 1, .ofNat 0), (9, .ofNat 1, .ofNat 0), (0, .ofNat 0, .ofNat 0)), (2, 0, (10, .negSucc 0, .ofNat 0), (0, .ofNat 0, .ofNat 2), (0, .ofNat 0, .ofNat 0)), (2, 1, (10, .negSucc 0, .ofNat 0), (0, .ofNat 0, .ofNat 0), (0, .ofNat 0, .ofNat 0)), (2, 1, (11, .ofNat 1, .ofNat 0), (7, .ofNat 1, .ofNat 0), (0, .ofNat 0, .ofNat 0)), (0, 3, (1, .ofNat 1, .ofNat 0), (11, .ofNat 1, .ofNat 0), (0, .ofNat 0, .ofNat 0)), (2, 2, (10, .ofNat 1, .ofNat 0), (0, .ofNat 0, .ofNat 0), (0, .ofNat 0, .ofNat 0)), (0, 4, (1, .ofNat 1, .ofNat 0), (9, .ofNat 1, .ofNat 0), (0, .ofNat 0, .ofNat 0)), (0, 4, (2, .ofNat 1, .ofNat 0), (8, .ofNat 1, .ofNat 0), (0, .ofNat 0, .ofNat 0)), (0, 3, (2, .ofNat 1, .ofNat 0), (7, .ofNat 1, .ofNat 0), (0, .ofNat 0, .ofNat 0)), (2, 4, (6, .ofNat 1, .ofNat 0), (0, .ofNat 0, .ofNat 0), (0, .ofNat 0, .ofNat 0)), (0, 2, (2, .ofNat 1, .ofNat 0), (5, .ofNat 1, .ofNat 0), (0, .ofNat 0, .ofNat 0)), (0, 2, (1, .ofNat 1, .ofNat 0), (4, .ofNat 1, .ofNat 0), (0, .ofNat 0, .ofNat 0)), (2, 2, (2, .ofNat 1, .ofNat 0), (3, .ofNat 1, .ofNat 0), (0, .ofNat 0, .ofNat 0)), (0, 1, (0, .ofNat 0, .ofNat 0), (3, .ofNat 1, .ofNat 0), (0, .ofNat 0, .ofNat 0))], [(1, [(.ofNat 0, .ofNat 7)]), (2, [(.ofNat 0, .ofNat 7)]), (3, [(.ofNat 1, .ofNat 8)]), (4, [(.ofNat 0, .ofNat 1000000)]), (5, [(.ofNat 0, .ofNat 1000000)]), (6, [(.ofNat 1, .ofNat 1000000)]), (7, [(.ofNat 0, .ofNat 1)]), (8, [(.ofNat 0, .ofNat 9)]), (9, [(.ofNat 0, .ofNat 9)]), (10, [(.negSucc 1, .negSucc 1)]), (11, [(.ofNat 0, .ofNat 1)]), (12, [(.ofNat 1, .ofNat 18)])], [((9, .ofNat 1, .ofNat 0), (8, .ofNat 1, .ofNat 0), (12, .ofNat 1, .ofNat 0)), ((9, .ofNat 1, .ofNat 0), (8, .negSucc 0, .ofNat 0), (10, .ofNat 1, .ofNat 0)), ((4, .ofNat 1, .ofNat 0), (5, .negSucc 0, .ofNat 0), (6, .ofNat 1, .ofNat 0))], [])]
set_option maxRecDepth 1000000 in
theorem sg_fo_c_g : sg_go [] [18, 7, 62] 3000 57 18 3 3 [(0, [(.ofNat 0, .ofNat 0)]), (1, [(.ofNat 0, .ofNat 7)]), (2, [(.ofNat 0, .ofNat 8)])] [] [] [] [(0, .inr (.inl [40])), (1, .inr (.inl [1])), (2, .inr (.inl [6])), (3, .inl (false, (1, .ofNat 1, .ofNat 0))), (4, .inl (false, (2, .ofNat 1, .ofNat 0)))] [] [] sg_fo_c_Z = true := by decide +kernel
set_option maxRecDepth 100000 in
theorem sg_fo_c {Q : Option Value × am_S → Prop} {d : Nat} {S : am_S} {L : am_L} {x1 x2 : Int} (hd : 3 ≤ d) (hP : ax_P0 none S) (l0 : lc L 0 40) (l1 : lc L 1 1) (l2 : lc L 2 6) (l3 : li L 3 x1) (l4 : li L 4 x2) (b1 : (0 ≤ x1 ∧ x1 ≤ 7)) (b2 : (0 ≤ x2 ∧ x2 ≤ 8))
    (k0 : ∀ (x3 : Int) (L' : am_L), rd S 1 0 = x3 → x3 ≤ x2 → (0 ≤ x1 ∧ x1 ≤ 7) → (0 ≤ x2 ∧ x2 ≤ 8) → (0 ≤ x3 ∧ x3 ≤ 8) → lc L' 0 40 → lc L' 1 1 → lc L' 2 6 → li L' 3 (x1 + 1) → li L' 4 x2 → am_V none d 57 7 L' ([]) S Q)
    (k1 : ∀ (x3 x4 x5 x6 : Int) (L' : am_L), rd S 1 0 = x3 → x2 < x3 → rd S 2 x1 = x4 → rd S 2 x2 = x5 → x6 ≤ 0 → (0 ≤ x1 ∧ x1 ≤ 7) → (0 ≤ x2 ∧ x2 ≤ 7) → (1 ≤ x3 ∧ x3 ≤ 8) → (0 ≤ x4 ∧ x4 ≤ 1000000) → (0 ≤ x5 ∧ x5 ≤ 1000000) → ((-1000000) ≤ x6 ∧ x6 ≤ 0) → x4 + ((-1) * x5 + 0) = x6 → lc L' 0 40 → lc L' 1 1 → lc L' 2 6 → li L' 3 x1 → li L' 4 (x2 + 1) → li L' 5 x6 → am_V none d 57 18 L' ([]) S Q)
    (k2 : ∀ (x3 x4 x5 x6 x7 x8 x9 x10 x11 : Int) (L' : am_L), rd S 1 0 = x3 → x2 < x3 → rd S 2 x1 = x4 → rd S 2 x2 = x5 → 0 < x6 → rd S 3 x2 = x7 → rd S 4 x2 = x8 → rd S 4 x1 = x9 → 0 ≤ x10 → rd S 3 x1 = x11 → x11 = x7 → (0 ≤ x1 ∧ x1 ≤ 7) → (0 ≤ x2 ∧ x2 ≤ 7) → (1 ≤ x3 ∧ x3 ≤ 8) → (0 ≤ x4 ∧ x4 ≤ 1000000) → (0 ≤ x5 ∧ x5 ≤ 1000000) → (1 ≤ x6 ∧ x6 ≤ 1000000) → (0 ≤ x7 ∧ x7 ≤ 1) → (0 ≤ x8 ∧ x8 ≤ 9) → (0 ≤ x9 ∧ x9 ≤ 9) → (0 ≤ x10 ∧ x10 ≤ 9) → (0 ≤ x11 ∧ x11 ≤ 1) → x9 + ((-1) * x8 + 0) = x10 → x4 + ((-1) * x5 + 0) = x6 → lc L' 0 40 → lc L' 1 1 → lc L' 2 6 → li L' 3 x1 → li L' 4 (x2 + 1) → li L' 5 x6 → am_V none d 57 18 L' ([]) S Q)
    (k3 : ∀ (x3 x4 x5 x6 x7 x8 x9 x10 x11 x12 : Int) (L' : am_L), rd S 1 0 = x3 → x2 < x3 → rd S 2 x1 = x4 → rd S 2 x2 = x5 → 0 < x6 → rd S 3 x2 = x7 → rd S 4 x2 = x8 → rd S 4 x1 = x9 → 0 ≤ x10 → rd S 3 x1 = x11 → x11 ≠ x7 → x10 = 0 → x12 ≤ 0 → (0 ≤ x1 ∧ x1 ≤ 7) → (0 ≤ x2 ∧ x2 ≤ 7) → (1 ≤ x3 ∧ x3 ≤ 8) → (0 ≤ x4 ∧ x4 ≤ 1000000) → (0 ≤ x5 ∧ x5 ≤ 1000000) → (1 ≤ x6 ∧ x6 ≤ 1000000) → (0 ≤ x7 ∧ x7 ≤ 1) → (0 ≤ x8 ∧ x8 ≤ 9) → (0 ≤ x9 ∧ x9 ≤ 9) → (0 ≤ x10 ∧ x10 ≤ 0) → (0 ≤ x11 ∧ x11 ≤ 1) → (0 ≤ x12 ∧ x12 ≤ 0) → x9 + x8 = x12 → x9 + ((-1) * x8 + 0) = x10 → x4 + ((-1) * x5 + 0) = x6 → lc L' 0 40 → lc L' 1 1 → lc L' 2 6 → li L' 3 x1 → li L' 4 (x2 + 1) → li L' 5 x6 → am_V none d 57 18 L' ([]) S Q)
    (k4 : ∀ (x3 x4 x5 x6 x7 x8 x9 x10 x11 x12 : Int) (L' : am_L) (i1 : Int32) (i2 : Int32), rd S 1 0 = x3 → x2 < x3 → rd S 2 x1 = x4 → rd S 2 x2 = x5 → 0 < x6 → rd S 3 x2 = x7 → rd S 4 x2 = x8 → rd S 4 x1 = x9 → 0 ≤ x10 → rd S 3 x1 = x11 → x11 ≠ x7 → x10 = 0 → 0 < x12 → (0 ≤ x1 ∧ x1 ≤ 7) → (0 ≤ x2 ∧ x2 ≤ 7) → (1 ≤ x3 ∧ x3 ≤ 8) → (0 ≤ x4 ∧ x4 ≤ 1000000) → (0 ≤ x5 ∧ x5 ≤ 1000000) → (1 ≤ x6 ∧ x6 ≤ 1000000) → (0 ≤ x7 ∧ x7 ≤ 1) → (0 ≤ x8 ∧ x8 ≤ 9) → (0 ≤ x9 ∧ x9 ≤ 9) → (0 ≤ x10 ∧ x10 ≤ 0) → (0 ≤ x11 ∧ x11 ≤ 1) → (1 ≤ x12 ∧ x12 ≤ 18) → x9 + x8 = x12 → x9 + ((-1) * x8 + 0) = x10 → x4 + ((-1) * x5 + 0) = x6 → lc L' 0 40 → lc L' 1 1 → lc L' 2 6 → li L' 3 x1 → li L' 4 x2 → li L' 5 x6 → i1.toInt = x2 → i2.toInt = x1 → am_V none d 57 62 L' ((.int i1) :: (.int i2) :: (.ref 6) :: []) S Q)
    (k5 : ∀ (x3 x4 x5 x6 x7 x8 x9 x10 x11 : Int) (L' : am_L), rd S 1 0 = x3 → x2 < x3 → rd S 2 x1 = x4 → rd S 2 x2 = x5 → 0 < x6 → rd S 3 x2 = x7 → rd S 4 x2 = x8 → rd S 4 x1 = x9 → 0 ≤ x10 → rd S 3 x1 = x11 → x11 ≠ x7 → x10 ≠ 0 → x10 ≠ 2 → (0 ≤ x1 ∧ x1 ≤ 7) → (0 ≤ x2 ∧ x2 ≤ 7) → (1 ≤ x3 ∧ x3 ≤ 8) → (0 ≤ x4 ∧ x4 ≤ 1000000) → (0 ≤ x5 ∧ x5 ≤ 1000000) → (1 ≤ x6 ∧ x6 ≤ 1000000) → (0 ≤ x7 ∧ x7 ≤ 1) → (0 ≤ x8 ∧ x8 ≤ 9) → (0 ≤ x9 ∧ x9 ≤ 9) → (1 ≤ x10 ∧ x10 ≤ 1) ∨ (3 ≤ x10 ∧ x10 ≤ 9) → (0 ≤ x11 ∧ x11 ≤ 1) → x9 + ((-1) * x8 + 0) = x10 → x4 + ((-1) * x5 + 0) = x6 → lc L' 0 40 → lc L' 1 1 → lc L' 2 6 → li L' 3 x1 → li L' 4 (x2 + 1) → li L' 5 x6 → am_V none d 57 18 L' ([]) S Q)
    (k6 : ∀ (x3 x4 x5 x6 x7 x8 x9 x10 x11 x12 : Int) (L' : am_L), rd S 1 0 = x3 → x2 < x3 → rd S 2 x1 = x4 → rd S 2 x2 = x5 → 0 < x6 → rd S 3 x2 = x7 → rd S 4 x2 = x8 → rd S 4 x1 = x9 → 0 ≤ x10 → rd S 3 x1 = x11 → x11 ≠ x7 → x10 ≠ 0 → x10 = 2 → x12 ≤ 0 → (0 ≤ x1 ∧ x1 ≤ 7) → (0 ≤ x2 ∧ x2 ≤ 7) → (1 ≤ x3 ∧ x3 ≤ 8) → (0 ≤ x4 ∧ x4 ≤ 1000000) → (0 ≤ x5 ∧ x5 ≤ 1000000) → (1 ≤ x6 ∧ x6 ≤ 1000000) → (0 ≤ x7 ∧ x7 ≤ 1) → (0 ≤ x8 ∧ x8 ≤ 9) → (0 ≤ x9 ∧ x9 ≤ 9) → (2 ≤ x10 ∧ x10 ≤ 2) → (0 ≤ x11 ∧ x11 ≤ 1) → (0 ≤ x12 ∧ x12 ≤ 0) → x9 + x8 = x12 → x9 + ((-1) * x8 + 0) = x10 → x4 + ((-1) * x5 + 0) = x6 → lc L' 0 40 → lc L' 1 1 → lc L' 2 6 → li L' 3 x1 → li L' 4 (x2 + 1) → li L' 5 x6 → am_V none d 57 18 L' ([]) S Q)
    (k7 : ∀ (x3 x4 x5 x6 x7 x8 x9 x10 x11 x12 : Int) (L' : am_L) (i1 : Int32) (i2 : Int32), rd S 1 0 = x3 → x2 < x3 → rd S 2 x1 = x4 → rd S 2 x2 = x5 → 0 < x6 → rd S 3 x2 = x7 → rd S 4 x2 = x8 → rd S 4 x1 = x9 → 0 ≤ x10 → rd S 3 x1 = x11 → x11 ≠ x7 → x10 ≠ 0 → x10 = 2 → 0 < x12 → (0 ≤ x1 ∧ x1 ≤ 7) → (0 ≤ x2 ∧ x2 ≤ 7) → (1 ≤ x3 ∧ x3 ≤ 8) → (0 ≤ x4 ∧ x4 ≤ 1000000) → (0 ≤ x5 ∧ x5 ≤ 1000000) → (1 ≤ x6 ∧ x6 ≤ 1000000) → (0 ≤ x7 ∧ x7 ≤ 1) → (0 ≤ x8 ∧ x8 ≤ 9) → (0 ≤ x9 ∧ x9 ≤ 9) → (2 ≤ x10 ∧ x10 ≤ 2) → (0 ≤ x11 ∧ x11 ≤ 1) → (1 ≤ x12 ∧ x12 ≤ 18) → x9 + x8 = x12 → x9 + ((-1) * x8 + 0) = x10 → x4 + ((-1) * x5 + 0) = x6 → lc L' 0 40 → lc L' 1 1 → lc L' 2 6 → li L' 3 x1 → li L' 4 x2 → li L' 5 x6 → i1.toInt = x2 → i2.toInt = x1 → am_V none d 57 62 L' ((.int i1) :: (.int i2) :: (.ref 6) :: []) S Q)
    (k8 : ∀ (x3 x4 x5 x6 x7 x8 x9 x10 x11 : Int) (L' : am_L), rd S 1 0 = x3 → x2 < x3 → rd S 2 x1 = x4 → rd S 2 x2 = x5 → 0 < x6 → rd S 3 x2 = x7 → rd S 4 x2 = x8 → rd S 4 x1 = x9 → x10 < 0 → rd S 3 x1 = x11 → x11 = x7 → (0 ≤ x1 ∧ x1 ≤ 7) → (0 ≤ x2 ∧ x2 ≤ 7) → (1 ≤ x3 ∧ x3 ≤ 8) → (0 ≤ x4 ∧ x4 ≤ 1000000) → (0 ≤ x5 ∧ x5 ≤ 1000000) → (1 ≤ x6 ∧ x6 ≤ 1000000) → (0 ≤ x7 ∧ x7 ≤ 1) → (0 ≤ x8 ∧ x8 ≤ 9) → (0 ≤ x9 ∧ x9 ≤ 9) → ((-9) ≤ x10 ∧ x10 ≤ (-1)) → (0 ≤ x11 ∧ x11 ≤ 1) → x9 + ((-1) * x8 + 0) = x10 → x4 + ((-1) * x5 + 0) = x6 → lc L' 0 40 → lc L' 1 1 → lc L' 2 6 → li L' 3 x1 → li L' 4 (x2 + 1) → li L' 5 x6 → am_V none d 57 18 L' ([]) S Q)
    (k9 : ∀ (x3 x4 x5 x6 x7 x8 x9 x10 x11 : Int) (L' : am_L), rd S 1 0 = x3 → x2 < x3 → rd S 2 x1 = x4 → rd S 2 x2 = x5 → 0 < x6 → rd S 3 x2 = x7 → rd S 4 x2 = x8 → rd S 4 x1 = x9 → x10 < 0 → rd S 3 x1 = x11 → x11 ≠ x7 → (-1) * x10 + 0 ≠ 0 → (-1) * x10 + 0 ≠ 2 → (0 ≤ x1 ∧ x1 ≤ 7) → (0 ≤ x2 ∧ x2 ≤ 7) → (1 ≤ x3 ∧ x3 ≤ 8) → (0 ≤ x4 ∧ x4 ≤ 1000000) → (0 ≤ x5 ∧ x5 ≤ 1000000) → (1 ≤ x6 ∧ x6 ≤ 1000000) → (0 ≤ x7 ∧ x7 ≤ 1) → (0 ≤ x8 ∧ x8 ≤ 9) → (0 ≤ x9 ∧ x9 ≤ 9) → ((-9) ≤ x10 ∧ x10 ≤ (-3)) ∨ ((-1) ≤ x10 ∧ x10 ≤ (-1)) → (0 ≤ x11 ∧ x11 ≤ 1) → x9 + ((-1) * x8 + 0) = x10 → x4 + ((-1) * x5 + 0) = x6 → lc L' 0 40 → lc L' 1 1 → lc L' 2 6 → li L' 3 x1 → li L' 4 (x2 + 1) → li L' 5 x6 → am_V none d 57 18 L' ([]) S Q)
    (k10 : ∀ (x3 x4 x5 x6 x7 x8 x9 x10 x11 x12 : Int) (L' : am_L), rd S 1 0 = x3 → x2 < x3 → rd S 2 x1 = x4 → rd S 2 x2 = x5 → 0 < x6 → rd S 3 x2 = x7 → rd S 4 x2 = x8 → rd S 4 x1 = x9 → x10 < 0 → rd S 3 x1 = x11 → x11 ≠ x7 → (-1) * x10 + 0 ≠ 0 → (-1) * x10 + 0 = 2 → x12 ≤ 0 → (0 ≤ x1 ∧ x1 ≤ 7) → (0 ≤ x2 ∧ x2 ≤ 7) → (1 ≤ x3 ∧ x3 ≤ 8) → (0 ≤ x4 ∧ x4 ≤ 1000000) → (0 ≤ x5 ∧ x5 ≤ 1000000) → (1 ≤ x6 ∧ x6 ≤ 1000000) → (0 ≤ x7 ∧ x7 ≤ 1) → (0 ≤ x8 ∧ x8 ≤ 9) → (0 ≤ x9 ∧ x9 ≤ 9) → ((-2) ≤ x10 ∧ x10 ≤ (-2)) → (0 ≤ x11 ∧ x11 ≤ 1) → (0 ≤ x12 ∧ x12 ≤ 0) → x9 + x8 = x12 → x9 + ((-1) * x8 + 0) = x10 → x4 + ((-1) * x5 + 0) = x6 → lc L' 0 40 → lc L' 1 1 → lc L' 2 6 → li L' 3 x1 → li L' 4 (x2 + 1) → li L' 5 x6 → am_V none d 57 18 L' ([]) S Q)
    (k11 : ∀ (x3 x4 x5 x6 x7 x8 x9 x10 x11 x12 : Int) (L' : am_L) (i1 : Int32) (i2 : Int32), rd S 1 0 = x3 → x2 < x3 → rd S 2 x1 = x4 → rd S 2 x2 = x5 → 0 < x6 → rd S 3 x2 = x7 → rd S 4 x2 = x8 → rd S 4 x1 = x9 → x10 < 0 → rd S 3 x1 = x11 → x11 ≠ x7 → (-1) * x10 + 0 ≠ 0 → (-1) * x10 + 0 = 2 → 0 < x12 → (0 ≤ x1 ∧ x1 ≤ 7) → (0 ≤ x2 ∧ x2 ≤ 7) → (1 ≤ x3 ∧ x3 ≤ 8) → (0 ≤ x4 ∧ x4 ≤ 1000000) → (0 ≤ x5 ∧ x5 ≤ 1000000) → (1 ≤ x6 ∧ x6 ≤ 1000000) → (0 ≤ x7 ∧ x7 ≤ 1) → (0 ≤ x8 ∧ x8 ≤ 9) → (0 ≤ x9 ∧ x9 ≤ 9) → ((-2) ≤ x10 ∧ x10 ≤ (-2)) → (0 ≤ x11 ∧ x11 ≤ 1) → (1 ≤ x12 ∧ x12 ≤ 18) → x9 + x8 = x12 → x9 + ((-1) * x8 + 0) = x10 → x4 + ((-1) * x5 + 0) = x6 → lc L' 0 40 → lc L' 1 1 → lc L' 2 6 → li L' 3 x1 → li L' 4 x2 → li L' 5 x6 → i1.toInt = x2 → i2.toInt = x1 → am_V none d 57 62 L' ((.int i1) :: (.int i2) :: (.ref 6) :: []) S Q) : am_V none d 57 18 L ([]) S Q := by
  refine sg_use sg_fo_c_g hd hP (sg_xs [0, x1, x2]) ⟨⟨Int.le_refl 0, Int.le_refl 0⟩, b1, b2, trivial⟩ trivial trivial trivial ⟨l0, l1, l2, l3, l4, trivial⟩ trivial ?_
  intro z hz x' L' st' S' hx hP' hW hL' hs' hJ hE' hT' hD'
  have q1 : x' 1 = x1 := hx 1 (by decide)
  subst q1
  have q2 : x' 2 = x2 := hx 2 (by decide)
  subst q2
  have eS : S' = S := hW.1 rfl
  subst eS
  simp only [sg_fo_c_Z, List.mem_cons, List.not_mem_nil, or_false] at hz
  rcases hz with rfl | rfl | rfl | rfl | rfl | rfl | rfl | rfl | rfl | rfl | rfl | rfl
  · obtain ⟨f0, f1, hσ⟩ := hJ
    obtain ⟨e0, e1, e2, -⟩ := hE'
    obtain ⟨p0, p1, p2, p3, p4, -⟩ := hL'
    obtain rfl := sg_tn hs'
    exact k0 (x' 3) L' f0 f1 e0 e1 e2 p0 p1 p2 p3 p4
  · obtain ⟨f0, f1, f2, f3, f4, hσ⟩ := hJ
    obtain ⟨e0, e1, e2, e3, e4, e5, -⟩ := hE'
    obtain ⟨t0, -⟩ := hT'
    obtain ⟨p0, p1, p2, p3, p4, p5, -⟩ := hL'
    obtain rfl := sg_tn hs'
    exact k1 (x' 3) (x' 4) (x' 5) (x' 6) L' f0 f1 f2 f3 f4 e0 e1 e2 e3 e4 e5 t0 p0 p1 p2 p3 p4 p5
  · obtain ⟨f0, f1, f2, f3, f4, f5, f6, f7, f8, f9, f10, -, hσ⟩ := hJ
    obtain ⟨e0, e1, e2, e3, e4, e5, e6, e7, e8, e9, e10, -⟩ := hE'
    obtain ⟨t0, t1, -⟩ := hT'
    obtain ⟨p0, p1, p2, p3, p4, p5, -⟩ := hL'
    obtain rfl := sg_tn hs'
    exact k2 (x' 3) (x' 4) (x' 5) (x' 6) (x' 7) (x' 8) (x' 9) (x' 10) (x' 11) L' f0 f1 f2 f3 f4 f5 f6 f7 f8 f9 f10 e0 e1 e2 e3 e4 e5 e6 e7 e8 e9 e10 t0 t1 p0 p1 p2 p3 p4 p5
  · obtain ⟨f0, f1, f2, f3, f4, f5, f6, f7, f8, f9, f10, f11, -, f13, -, hσ⟩ := hJ
    obtain ⟨e0, e1, e2, e3, e4, e5, e6, e7, e8, e9, e10, e11, -⟩ := hE'
    obtain ⟨t0, t1, t2, -⟩ := hT'
    obtain ⟨p0, p1, p2, p3, p4, p5, -⟩ := hL'
    obtain rfl := sg_tn hs'
    exact k3 (x' 3) (x' 4) (x' 5) (x' 6) (x' 7) (x' 8) (x' 9) (x' 10) (x' 11) (x' 12) L' f0 f1 f2 f3 f4 f5 f6 f7 f8 f9 f10 f11 f13 e0 e1 e2 e3 e4 e5 e6 e7 e8 e9 e10 e11 t0 t1 t2 p0 p1 p2 p3 p4 p5
  · obtain ⟨f0, f1, f2, f3, f4, f5, f6, f7, f8, f9, f10, f11, -, f13, -, hσ⟩ := hJ
    obtain ⟨e0, e1, e2, e3, e4, e5, e6, e7, e8, e9, e10, e11, -⟩ := hE'
    obtain ⟨t0, t1, t2, -⟩ := hT'
    obtain ⟨p0, p1, p2, p3, p4, p5, -⟩ := hL'
    obtain ⟨v1, r1, rfl, ⟨i1, rfl, g1⟩, hs1⟩ := sg_tc hs'
    obtain ⟨v2, r2, rfl, ⟨i2, rfl, g2⟩, hs2⟩ := sg_tc hs1
    obtain ⟨v3, r3, rfl, rfl, hs3⟩ := sg_tc hs2
    obtain rfl := sg_tn hs3
    exact k4 (x' 3) (x' 4) (x' 5) (x' 6) (x' 7) (x' 8) (x' 9) (x' 10) (x' 11) (x' 12) L' i1 i2 f0 f1 f2 f3 f4 f5 f6 f7 f8 f9 f10 f11 f13 e0 e1 e2 e3 e4 e5 e6 e7 e8 e9 e10 e11 t0 t1 t2 p0 p1 p2 p3 p4 p5 g1 g2
  · obtain ⟨f0, f1, f2, f3, f4, f5, f6, f7, f8, f9, f10, f11, f12, -, hσ⟩ := hJ
    obtain ⟨e0, e1, e2, e3, e4, e5, e6, e7, e8, e9, e10, -⟩ := hE'
    obtain ⟨t0, t1, -⟩ := hT'
    obtain ⟨p0, p1, p2, p3, p4, p5, -⟩ := hL'
    obtain rfl := sg_tn hs'
    exact k5 (x' 3) (x' 4) (x' 5) (x' 6) (x' 7) (x' 8) (x' 9) (x' 10) (x' 11) L' f0 f1 f2 f3 f4 f5 f6 f7 f8 f9 f10 f11 f12 e0 e1 e2 e3 e4 e5 e6 e7 e8 e9 e10 t0 t1 p0 p1 p2 p3 p4 p5
  · obtain ⟨f0, f1, f2, f3, f4, f5, f6, f7, f8, f9, f10, f11, f12, -, f14, -, hσ⟩ := hJ
    obtain ⟨e0, e1, e2, e3, e4, e5, e6, e7, e8, e9, e10, e11, -⟩ := hE'
    obtain ⟨t0, t1, t2, -⟩ := hT'
    obtain ⟨p0, p1, p2, p3, p4, p5, -⟩ := hL'
    obtain rfl := sg_tn hs'
    exact k6 (x' 3) (x' 4) (x' 5) (x' 6) (x' 7) (x' 8) (x' 9) (x' 10) (x' 11) (x' 12) L' f0 f1 f2 f3 f4 f5 f6 f7 f8 f9 f10 f11 f12 f14 e0 e1 e2 e3 e4 e5 e6 e7 e8 e9 e10 e11 t0 t1 t2 p0 p1 p2 p3 p4 p5
  · obtain ⟨f0, f1, f2, f3, f4, f5, f6, f7, f8, f9, f10, f11, f12, -, f14, -, hσ⟩ := hJ
    obtain ⟨e0, e1, e2, e3, e4, e5, e6, e7, e8, e9, e10, e11, -⟩ := hE'
    obtain ⟨t0, t1, t2, -⟩ := hT'
    obtain ⟨p0, p1, p2, p3, p4, p5, -⟩ := hL'
    obtain ⟨v1, r1, rfl, ⟨i1, rfl, g1⟩, hs1⟩ := sg_tc hs'
    obtain ⟨v2, r2, rfl, ⟨i2, rfl, g2⟩, hs2⟩ := sg_tc hs1
    obtain ⟨v3, r3, rfl, rfl, hs3⟩ := sg_tc hs2
    obtain rfl := sg_tn hs3
    exact k7 (x' 3) (x' 4) (x' 5) (x' 6) (x' 7) (x' 8) (x' 9) (x' 10) (x' 11) (x' 12) L' i1 i2 f0 f1 f2 f3 f4 f5 f6 f7 f8 f9 f10 f11 f12 f14 e0 e1 e2 e3 e4 e5 e6 e7 e8 e9 e10 e11 t0 t1 t2 p0 p1 p2 p3 p4 p5 g1 g2
  · obtain ⟨f0, f1, f2, f3, f4, f5, f6, f7, f8, f9, f10, -, hσ⟩ := hJ
    obtain ⟨e0, e1, e2, e3, e4, e5, e6, e7, e8, e9, e10, -⟩ := hE'
    obtain ⟨t0, t1, -⟩ := hT'
    obtain ⟨p0, p1, p2, p3, p4, p5, -⟩ := hL'
    obtain rfl := sg_tn hs'
    exact k8 (x' 3) (x' 4) (x' 5) (x' 6) (x' 7) (x' 8) (x' 9) (x' 10) (x' 11) L' f0 f1 f2 f3 f4 f5 f6 f7 f8 f9 f10 e0 e1 e2 e3 e4 e5 e6 e7 e8 e9 e10 t0 t1 p0 p1 p2 p3 p4 p5
  · obtain ⟨f0, f1, f2, f3, f4, f5, f6, f7, f8, f9, f10, f11, f12, -, hσ⟩ := hJ
    obtain ⟨e0, e1, e2, e3, e4, e5, e6, e7, e8, e9, e10, -⟩ := hE'
    obtain ⟨t0, t1, -⟩ := hT'
    obtain ⟨p0, p1, p2, p3, p4, p5, -⟩ := hL'
    obtain rfl := sg_tn hs'
    exact k9 (x' 3) (x' 4) (x' 5) (x' 6) (x' 7) (x' 8) (x' 9) (x' 10) (x' 11) L' f0 f1 f2 f3 f4 f5 f6 f7 f8 f9 f10 f11 f12 e0 e1 e2 e3 e4 e5 e6 e7 e8 e9 e10 t0 t1 p0 p1 p2 p3 p4 p5
  · obtain ⟨f0, f1, f2, f3, f4, f5, f6, f7, f8, f9, f10, f11, f12, -, f14, -, hσ⟩ := hJ
    obtain ⟨e0, e1, e2, e3, e4, e5, e6, e7, e8, e9, e10, e11, -⟩ := hE'
    obtain ⟨t0, t1, t2, -⟩ := hT'
    obtain ⟨p0, p1, p2, p3, p4, p5, -⟩ := hL'
    obtain rfl := sg_tn hs'
    exact k10 (x' 3) (x' 4) (x' 5) (x' 6) (x' 7) (x' 8) (x' 9) (x' 10) (x' 11) (x' 12) L' f0 f1 f2 f3 f4 f5 f6 f7 f8 f9 f10 f11 f12 f14 e0 e1 e2 e3 e4 e5 e6 e7 e8 e9 e10 e11 t0 t1 t2 p0 p1 p2 p3 p4 p5
  · obtain ⟨f0, f1, f2, f3, f4, f5, f6, f7, f8, f9, f10, f11, f12, -, f14, -, hσ⟩ := hJ
    obtain ⟨e0, e1, e2, e3, e4, e5, e6, e7, e8, e9, e10, e11, -⟩ := hE'
    obtain ⟨t0, t1, t2, -⟩ := hT'
    obtain ⟨p0, p1, p2, p3, p4, p5, -⟩ := hL'
    obtain ⟨v1, r1, rfl, ⟨i1, rfl, g1⟩, hs1⟩ := sg_tc hs'
    obtain ⟨v2, r2, rfl, ⟨i2, rfl, g2⟩, hs2⟩ := sg_tc hs1
    obtain ⟨v3, r3, rfl, rfl, hs3⟩ := sg_tc hs2
    obtain rfl := sg_tn hs3
    exact k11 (x' 3) (x' 4) (x' 5) (x' 6) (x' 7) (x' 8) (x' 9) (x' 10) (x' 11) (x' 12) L' i1 i2 f0 f1 f2 f3 f4 f5 f6 f7 f8 f9 f10 f11 f12 f14 e0 e1 e2 e3 e4 e5 e6 e7 e8 e9 e10 e11 t0 t1 t2 p0 p1 p2 p3 p4 p5 g1 g2
def sg_fo_d_Z : List sg_z := [(19, [(0, .inr (.inl [40])), (1, .inr (.inl [1])), (2, .inr (.inl [6])), (3, .inl (false, (1, .ofNat 1, .ofNat 0))), (4, .inl (false, (2, .ofNat 1, .ofNat 1))), (5, .inl (false, (3, .ofNat 1, .ofNat 0)))], [], [(2, 1, (4, .ofNat 1, .ofNat 0), (0, .ofNat 0, .ofNat 0), (0, .ofNat 0, .ofNat 0))], [(1, [(.ofNat 0, .ofNat 7)]), (2, [(.ofNat 0, .ofNat 7)]), (3, [(.ofNat 1, .ofNat 1000000)]), (4, [(.ofNat 1, .ofNat 1)])], [], []),
  (75, [(0, .inr (.inl [40])), (1, .inr (.inl [1])), (2, .inr (.inl [6])), (3, .inl (false, (1, .ofNat 1, .ofNat 0))), (4, .inl (false, (2, .ofNat 1, .ofNat 0))), (5, .inl (false, (3, .ofNat 1, .ofNat 0)))], [.inl (false, (2, .ofNat 1, .ofNat 0)), .inl (false, (1, .ofNat 1, .ofNat 0)), .inl (false, (3, .ofNat 1, .ofNat 0)), .inr (.inl [40])], [(2, 0, (4, .ofNat 1, .ofNat 0), (0, .ofNat 0, .ofNat 0), (0, .ofNat 0, .ofNat 0))], [(1, [(.ofNat 0, .ofNat 7)]), (2, [(.ofNat 0, .ofNat 7)]), (3, [(.ofNat 1, .ofNat 1000000)]), (4, [(.ofNat 0, .ofNat 0)])], [], [])]
set_option maxRecDepth 1000000 in
theorem sg_fo_d_g : sg_go [] [18, 74] 3000 57 65 0 5 [(0, [(.ofNat 0, .ofNat 0)]), (1, [(.ofNat 0, .ofNat 7)]), (2, [(.ofNat 0, .ofNat 7)]), (3, [(.ofNat 1, .ofNat 1000000)]), (4, [(.ofNat 0, .ofNat 1)])] [] [] [] [(0, .inr (.inl [40])), (1, .inr (.inl [1])), (2, .inr (.inl [6])), (3, .inl (false, (1, .ofNat 1, .ofNat 0))), (4, .inl (false, (2, .ofNat 1, .ofNat 0))), (5, .inl (false, (3, .ofNat 1, .ofNat 0)))] [.inl (false, (4, .ofNat 1, .ofNat 0))] [] sg_fo_d_Z = true := by decide +kernel
set_option maxRecDepth 100000 in
theorem sg_fo_d {Q : Option Value × am_S → Prop} {d : Nat} {S : am_S} {L : am_L} {x1 x2 x3 x4 : Int} {i1 : Int32} (hd : 0 ≤ d) (hP : ax_P0 none S) (l0 : lc L 0 40) (l1 : lc L 1 1) (l2 : lc L 2 6) (l3 : li L 3 x1) (l4 : li L 4 x2) (l5 : li L 5 x3) (b1 : (0 ≤ x1 ∧ x1 ≤ 7)) (b2 : (0 ≤ x2 ∧ x2 ≤ 7)) (b3 : (1 ≤ x3 ∧ x3 ≤ 1000000)) (b4 : (0 ≤ x4 ∧ x4 ≤ 1)) (s1 : i1.toInt = x4)
    (k0 : ∀ (L' : am_L), x4 ≠ 0 → (0 ≤ x1 ∧ x1 ≤ 7) → (0 ≤ x2 ∧ x2 ≤ 7) → (1 ≤ x3 ∧ x3 ≤ 1000000) → (1 ≤ x4 ∧ x4 ≤ 1) → lc L' 0 40 → lc L' 1 1 → lc L' 2 6 → li L' 3 x1 → li L' 4 (x2 + 1) → li L' 5 x3 → am_V none d 57 18 L' ([]) S Q)
    (k1 : ∀ (L' : am_L) (i1 : Int32) (i2 : Int32) (i3 : Int32), x4 = 0 → (0 ≤ x1 ∧ x1 ≤ 7) → (0 ≤ x2 ∧ x2 ≤ 7) → (1 ≤ x3 ∧ x3 ≤ 1000000) → (0 ≤ x4 ∧ x4 ≤ 0) → lc L' 0 40 → lc L' 1 1 → lc L' 2 6 → li L' 3 x1 → li L' 4 x2 → li L' 5 x3 → i1.toInt = x2 → i2.toInt = x1 → i3.toInt = x3 → am_V none d 57 74 L' ((.int i1) :: (.int i2) :: (.int i3) :: (.ref 40) :: []) S Q) : am_V none d 57 65 L ((.int i1) :: []) S Q := by
  refine sg_use sg_fo_d_g hd hP (sg_xs [0, x1, x2, x3, x4]) ⟨⟨Int.le_refl 0, Int.le_refl 0⟩, b1, b2, b3, b4, trivial⟩ trivial trivial trivial ⟨l0, l1, l2, l3, l4, l5, trivial⟩ ⟨⟨_, rfl, s1⟩, trivial⟩ ?_
  intro z hz x' L' st' S' hx hP' hW hL' hs' hJ hE' hT' hD'
  have q1 : x' 1 = x1 := hx 1 (by decide)
  subst q1
  have q2 : x' 2 = x2 := hx 2 (by decide)
  subst q2
  have q3 : x' 3 = x3 := hx 3 (by decide)
  subst q3
  have q4 : x' 4 = x4 := hx 4 (by decide)
  subst q4
  have eS : S' = S := hW.1 rfl
  subst eS
  simp only [sg_fo_d_Z, List.mem_cons, List.not_mem_nil, or_false] at hz
  rcases hz with rfl | rfl
  · obtain ⟨f0, hσ⟩ := hJ
    obtain ⟨e0, e1, e2, e3, -⟩ := hE'
    obtain ⟨p0, p1, p2, p3, p4, p5, -⟩ := hL'
    obtain rfl := sg_tn hs'
    exact k0 L' f0 e0 e1 e2 e3 p0 p1 p2 p3 p4 p5
  · obtain ⟨f0, hσ⟩ := hJ
    obtain ⟨e0, e1, e2, e3, -⟩ := hE'
    obtain ⟨p0, p1, p2, p3, p4, p5, -⟩ := hL'
    obtain ⟨v1, r1, rfl, ⟨i1, rfl, g1⟩, hs1⟩ := sg_tc hs'
    obtain ⟨v2, r2, rfl, ⟨i2, rfl, g2⟩, hs2⟩ := sg_tc hs1
    obtain ⟨v3, r3, rfl, ⟨i3, rfl, g3⟩, hs3⟩ := sg_tc hs2
    obtain ⟨v4, r4, rfl, rfl, hs4⟩ := sg_tc hs3
    obtain rfl := sg_tn hs4
    exact k1 L' i1 i2 i3 f0 e0 e1 e2 e3 p0 p1 p2 p3 p4 p5 g1 g2 g3
def sg_fo_e_Z : List sg_z := [(19, [(0, .inr (.inl [40])), (1, .inr (.inl [1])), (2, .inr (.inl [6])), (3, .inl (false, (1, .ofNat 1, .ofNat 0))), (4, .inl (false, (2, .ofNat 1, .ofNat 1)))], [], [], [(1, [(.ofNat 0, .ofNat 7)]), (2, [(.ofNat 0, .ofNat 7)])], [], [])]
set_option maxRecDepth 1000000 in
theorem sg_fo_e_g : sg_go [] [18] 3000 57 77 0 3 [(0, [(.ofNat 0, .ofNat 0)]), (1, [(.ofNat 0, .ofNat 7)]), (2, [(.ofNat 0, .ofNat 7)])] [] [] [] [(0, .inr (.inl [40])), (1, .inr (.inl [1])), (2, .inr (.inl [6])), (3, .inl (false, (1, .ofNat 1, .ofNat 0))), (4, .inl (false, (2, .ofNat 1, .ofNat 0)))] [] [] sg_fo_e_Z = true := by decide +kernel
set_option maxRecDepth 100000 in
theorem sg_fo_e {Q : Option Value × am_S → Prop} {d : Nat} {S : am_S} {L : am_L} {x1 x2 : Int} (hd : 0 ≤ d) (hP : ax_P0 none S) (l0 : lc L 0 40) (l1 : lc L 1 1) (l2 : lc L 2 6) (l3 : li L 3 x1) (l4 : li L 4 x2) (b1 : (0 ≤ x1 ∧ x1 ≤ 7)) (b2 : (0 ≤ x2 ∧ x2 ≤ 7))
    (k0 : ∀ (L' : am_L), (0 ≤ x1 ∧ x1 ≤ 7) → (0 ≤ x2 ∧ x2 ≤ 7) → lc L' 0 40 → lc L' 1 1 → lc L' 2 6 → li L' 3 x1 → li L' 4 (x2 + 1) → am_V none d 57 18 L' ([]) S Q) : am_V none d 57 77 L ([]) S Q := by
  refine sg_use sg_fo_e_g hd hP (sg_xs [0, x1, x2]) ⟨⟨Int.le_refl 0, Int.le_refl 0⟩, b1, b2, trivial⟩ trivial trivial trivial ⟨l0, l1, l2, l3, l4, trivial⟩ trivial ?_
  intro z hz x' L' st' S' hx hP' hW hL' hs' hJ hE' hT' hD'
  have q1 : x' 1 = x1 := hx 1 (by decide)
  subst q1
  have q2 : x' 2 = x2 := hx 2 (by decide)
  subst q2
  have eS : S' = S := hW.1 rfl
  subst eS
  simp only [sg_fo_e_Z, List.mem_cons, List.not_mem_nil, or_false] at hz
  rcases hz with rfl
  · have hσ := hJ
    obtain ⟨e0, e1, -⟩ := hE'
    obtain ⟨p0, p1, p2, p3, p4, -⟩ := hL'
    obtain rfl := sg_tn hs'
    exact k0 L' e0 e1 p0 p1 p2 p3 p4
def sg_gi_a_Z : List sg_z := [(3, [(0, .inr (.inl [6])), (1, .inl (false, (1, .ofNat 1, .ofNat 0))), (2, .inl (false, (2, .ofNat 1, .ofNat 0))), (3, .inl (false, (0, .ofNat 0, .ofNat 0)))], [], [], [(1, [(.ofNat 0, .ofNat 7)]), (2, [(.ofNat 0, .ofNat 7)])], [], [])]
set_option maxRecDepth 1000000 in
theorem sg_gi_a_g : sg_go [] [2] 3000 40 0 0 3 [(0, [(.ofNat 0, .ofNat 0)]), (1, [(.ofNat 0, .ofNat 7)]), (2, [(.ofNat 0, .ofNat 7)])] [] [] [] [(0, .inr (.inl [6])), (1, .inl (false, (1, .ofNat 1, .ofNat 0))), (2, .inl (false, (2, .ofNat 1, .ofNat 0)))] [] [] sg_gi_a_Z = true := by decide +kernel
set_option maxRecDepth 100000 in
theorem sg_gi_a {Q : Option Value × am_S → Prop} {d : Nat} {S : am_S} {L : am_L} {x1 x2 : Int} (hd : 0 ≤ d) (hP : ax_P0 none S) (l0 : lc L 0 6) (l1 : li L 1 x1) (l2 : li L 2 x2) (b1 : (0 ≤ x1 ∧ x1 ≤ 7)) (b2 : (0 ≤ x2 ∧ x2 ≤ 7))
    (k0 : ∀ (L' : am_L), (0 ≤ x1 ∧ x1 ≤ 7) → (0 ≤ x2 ∧ x2 ≤ 7) → lc L' 0 6 → li L' 1 x1 → li L' 2 x2 → li L' 3 0 → am_V none d 40 2 L' ([]) S Q) : am_V none d 40 0 L ([]) S Q := by
  refine sg_use sg_gi_a_g hd hP (sg_xs [0, x1, x2]) ⟨⟨Int.le_refl 0, Int.le_refl 0⟩, b1, b2, trivial⟩ trivial trivial trivial ⟨l0, l1, l2, trivial⟩ trivial ?_
  intro z hz x' L' st' S' hx hP' hW hL' hs' hJ hE' hT' hD'
  have q1 : x' 1 = x1 := hx 1 (by decide)
  subst q1
  have q2 : x' 2 = x2 := hx 2 (by decide)
  subst q2
  have eS : S' = S := hW.1 rfl
  subst eS
  simp only [sg_gi_a_Z, List.mem_cons, List.not_mem_nil, or_false] at hz
  rcases hz with rfl
  · have hσ := hJ
    obtain ⟨e0, e1, -⟩ := hE'
    obtain ⟨p0, p1, p2, p3, -⟩ := hL'
    obtain rfl := sg_tn hs'
    exact k0 L' e0 e1 p0 p1 p2 p3
def sg_gi_b_Z : List sg_z := [(0, [], [.inl (false, (0, .ofNat 0, .ofNat 0))], [(2, 3, (3, .ofNat 1, .ofNat 0), (4, .ofNat 1, .ofNat 0), (0, .ofNat 0, .ofNat 0)), (0, 6, (0, .ofNat 0, .ofNat 0), (4, .ofNat 1, .ofNat 0), (0, .ofNat 0, .ofNat 0))], [(1, [(.ofNat 0, .ofNat 7)]), (2, [(.ofNat 0, .ofNat 7)]), (3, [(.ofNat 0, .ofNat 16)]), (4, [(.ofNat 0, .ofNat 16)])], [], []),
  (3, [(0, .inr (.inl [6])), (1, .inl (false, (1, .ofNat 1, .ofNat 0))), (2, .inl (false, (2, .ofNat 1, .ofNat 0))), (3, .inl (false, (3, .ofNat 1, .ofNat 1)))], [], [(2, 1, (5, .ofNat 1, .ofNat 0), (1, .ofNat 1, .ofNat 0), (0, .ofNat 0, .ofNat 0)), (0, 11, (3, .ofNat 1, .ofNat 0), (5, .ofNat 1, .ofNat 0), (0, .ofNat 0, .ofNat 0)), (2, 2, (3, .ofNat 1, .ofNat 0), (4, .ofNat 1, .ofNat 0), (0, .ofNat 0, .ofNat 0)), (0, 6, (0, .ofNat 0, .ofNat 0), (4, .ofNat 1, .ofNat 0), (0, .ofNat 0, .ofNat 0))], [(1, [(.ofNat 0, .ofNat 7)]), (2, [(.ofNat 0, .ofNat 7)]), (3, [(.ofNat 0, .ofNat 15)]), (4, [(.ofNat 1, .ofNat 16)]), (5, [(.negSucc 3, .negSucc 3), (.ofNat 0, .ofNat 7)])], [], []),
  (3, [(0, .inr (.inl [6])), (1, .inl (false, (1, .ofNat 1, .ofNat 0))), (2, .inl (false, (2, .ofNat 1, .ofNat 0))), (3, .inl (false, (3, .ofNat 1, .ofNat 1)))], [], [(2, 1, (6, .ofNat 1, .ofNat 0), (2, .ofNat 1, .ofNat 0), (0, .ofNat 0, .ofNat 0)), (0, 12, (3, .ofNat 1, .ofNat 0), (6, .ofNat 1, .ofNat 0), (0, .ofNat 0, .ofNat 0)), (2, 0, (5, .ofNat 1, .ofNat 0), (1, .ofNat 1, .ofNat 0), (0, .ofNat 0, .ofNat 0)), (0, 11, (3, .ofNat 1, .ofNat 0), (5, .ofNat 1, .ofNat 0), (0, .ofNat 0, .ofNat 0)), (2, 2, (3, .ofNat 1, .ofNat 0), (4, .ofNat 1, .ofNat 0), (0, .ofNat 0, .ofNat 0)), (0, 6, (0, .ofNat 0, .ofNat 0), (4, .ofNat 1, .ofNat 0), (0, .ofNat 0, .ofNat 0))], [(1, [(.ofNat 0, .ofNat 7)]), (2, [(.ofNat 0, .ofNat 7)]), (3, [(.ofNat 0, .ofNat 15)]), (4, [(.ofNat 1, .ofNat 16)]), (5, [(.ofNat 0, .ofNat 7)]), (6, [(.ofNat 0, .ofNat 7)])], [], []),
  (0, [], [.inl (false, (0, .ofNat 0, .ofNat 1))], [(2, 0, (6, .ofNat 1, .ofNat 0), (2, .ofNat 1, .ofNat 0), (0, .ofNat 0, .ofNat 0)), (0, 12, (3, .ofNat 1, .ofNat 0), (6, .ofNat 1, .ofNat 0), (0, .ofNat 0, .ofNat 0)), (2, 0, (5, .ofNat 1, .ofNat 0), (1, .ofNat 1, .ofNat 0), (0, .ofNat 0, .ofNat 0)), (0, 11, (3, .ofNat 1, .ofNat 0), (5, .ofNat 1, .ofNat 0), (0, .ofNat 0, .ofNat 0)), (2, 2, (3, .ofNat 1, .ofNat 0), (4, .ofNat 1, .ofNat 0), (0, .ofNat 0, .ofNat 0)), (0, 6, (0, .ofNat 0, .ofNat 0), (4, .ofNat 1, .ofNat 0), (0, .ofNat 0, .ofNat 0))], [(1, [(.ofNat 0, .ofNat 7)]), (2, [(.ofNat 0, .ofNat 7)]), (3, [(.ofNat 0, .ofNat 15)]), (4, [(.ofNat 1, .ofNat 16)]), (5, [(.ofNat 0, .ofNat 7)]), (6, [(.ofNat 0, .ofNat 7)])], [], [])]
set_option maxRecDepth 1000000 in
theorem sg_gi_b_g : sg_go [] [2] 3000 40 2 0 4 [(0, [(.ofNat 0, .ofNat 0)]), (1, [(.ofNat 0, .ofNat 7)]), (2, [(.ofNat 0, .ofNat 7)]), (3, [(.ofNat 0, .ofNat 16)])] [] [] [] [(0, .inr (.inl [6])), (1, .inl (false, (1, .ofNat 1, .ofNat 0))), (2, .inl (false, (2, .ofNat 1, .ofNat 0))), (3, .inl (false, (3, .ofNat 1, .ofNat 0)))] [] [] sg_gi_b_Z = true := by decide +kernel
set_option maxRecDepth 100000 in
theorem sg_gi_b {Q : Option Value × am_S → Prop} {d : Nat} {S : am_S} {L : am_L} {x1 x2 x3 : Int} (hd : 0 ≤ d) (hP : ax_P0 none S) (l0 : lc L 0 6) (l1 : li L 1 x1) (l2 : li L 2 x2) (l3 : li L 3 x3) (b1 : (0 ≤ x1 ∧ x1 ≤ 7)) (b2 : (0 ≤ x2 ∧ x2 ≤ 7)) (b3 : (0 ≤ x3 ∧ x3 ≤ 16))
    (k0 : ∀ (x4 : Int) (i1 : Int32), rd S 6 0 = x4 → x4 ≤ x3 → (0 ≤ x1 ∧ x1 ≤ 7) → (0 ≤ x2 ∧ x2 ≤ 7) → (0 ≤ x3 ∧ x3 ≤ 16) → (0 ≤ x4 ∧ x4 ≤ 16) → i1.toInt = 0 → Q (some (.int i1), S))
    (k1 : ∀ (x4 x5 : Int) (L' : am_L), rd S 6 0 = x4 → x3 < x4 → rd S 11 x3 = x5 → x5 ≠ x1 → (0 ≤ x1 ∧ x1 ≤ 7) → (0 ≤ x2 ∧ x2 ≤ 7) → (0 ≤ x3 ∧ x3 ≤ 15) → (1 ≤ x4 ∧ x4 ≤ 16) → ((-4) ≤ x5 ∧ x5 ≤ (-4)) ∨ (0 ≤ x5 ∧ x5 ≤ 7) → lc L' 0 6 → li L' 1 x1 → li L' 2 x2 → li L' 3 (x3 + 1) → am_V none d 40 2 L' ([]) S Q)
    (k2 : ∀ (x4 x5 x6 : Int) (L' : am_L), rd S 6 0 = x4 → x3 < x4 → rd S 11 x3 = x5 → x5 = x1 → rd S 12 x3 = x6 → x6 ≠ x2 → (0 ≤ x1 ∧ x1 ≤ 7) → (0 ≤ x2 ∧ x2 ≤ 7) → (0 ≤ x3 ∧ x3 ≤ 15) → (1 ≤ x4 ∧ x4 ≤ 16) → (0 ≤ x5 ∧ x5 ≤ 7) → (0 ≤ x6 ∧ x6 ≤ 7) → lc L' 0 6 → li L' 1 x1 → li L' 2 x2 → li L' 3 (x3 + 1) → am_V none d 40 2 L' ([]) S Q)
    (k3 : ∀ (x4 x5 x6 : Int) (i1 : Int32), rd S 6 0 = x4 → x3 < x4 → rd S 11 x3 = x5 → x5 = x1 → rd S 12 x3 = x6 → x6 = x2 → (0 ≤ x1 ∧ x1 ≤ 7) → (0 ≤ x2 ∧ x2 ≤ 7) → (0 ≤ x3 ∧ x3 ≤ 15) → (1 ≤ x4 ∧ x4 ≤ 16) → (0 ≤ x5 ∧ x5 ≤ 7) → (0 ≤ x6 ∧ x6 ≤ 7) → i1.toInt = 1 → Q (some (.int i1), S)) : am_V none d 40 2 L ([]) S Q := by
  refine sg_use sg_gi_b_g hd hP (sg_xs [0, x1, x2, x3]) ⟨⟨Int.le_refl 0, Int.le_refl 0⟩, b1, b2, b3, trivial⟩ trivial trivial trivial ⟨l0, l1, l2, l3, trivial⟩ trivial ?_
  intro z hz x' L' st' S' hx hP' hW hL' hs' hJ hE' hT' hD'
  have q1 : x' 1 = x1 := hx 1 (by decide)
  subst q1
  have q2 : x' 2 = x2 := hx 2 (by decide)
  subst q2
  have q3 : x' 3 = x3 := hx 3 (by decide)
  subst q3
  have eS : S' = S := hW.1 rfl
  subst eS
  simp only [sg_gi_b_Z, List.mem_cons, List.not_mem_nil, or_false] at hz
  rcases hz with rfl | rfl | rfl | rfl
  · obtain ⟨f0, f1, hσ⟩ := hJ
    obtain ⟨e0, e1, e2, e3, -⟩ := hE'
    intro v hv
    subst hv
    cases v with
    | none => exact hs'.elim
    | some v1 =>
      obtain ⟨⟨i1, rfl, g1⟩, -⟩ := hs'
      exact k0 (x' 4) i1 f0 f1 e0 e1 e2 e3 g1
  · obtain ⟨f0, f1, f2, f3, hσ⟩ := hJ
    obtain ⟨e0, e1, e2, e3, e4, -⟩ := hE'
    obtain ⟨p0, p1, p2, p3, -⟩ := hL'
    obtain rfl := sg_tn hs'
    exact k1 (x' 4) (x' 5) L' f0 f1 f2 f3 e0 e1 e2 e3 e4 p0 p1 p2 p3
  · obtain ⟨f0, f1, f2, f3, f4, f5, hσ⟩ := hJ
    obtain ⟨e0, e1, e2, e3, e4, e5, -⟩ := hE'
    obtain ⟨p0, p1, p2, p3, -⟩ := hL'
    obtain rfl := sg_tn hs'
    exact k2 (x' 4) (x' 5) (x' 6) L' f0 f1 f2 f3 f4 f5 e0 e1 e2 e3 e4 e5 p0 p1 p2 p3
  · obtain ⟨f0, f1, f2, f3, f4, f5, hσ⟩ := hJ
    obtain ⟨e0, e1, e2, e3, e4, e5, -⟩ := hE'
    intro v hv
    subst hv
    cases v with
    | none => exact hs'.elim
    | some v1 =>
      obtain ⟨⟨i1, rfl, g1⟩, -⟩ := hs'
      exact k3 (x' 4) (x' 5) (x' 6) i1 f0 f1 f2 f3 f4 f5 e0 e1 e2 e3 e4 e5 g1
def sg_ins_a_Z : List sg_z := [(17, [(0, .inr (.inl [40])), (1, .inl (false, (1, .ofNat 1, .ofNat 0))), (2, .inl (false, (2, .ofNat 1, .ofNat 0))), (3, .inl (false, (3, .ofNat 1, .ofNat 0))), (4, .inl (false, (4, .ofNat 1, .ofNat 0)))], [], [(0, 40, (0, .ofNat 0, .ofNat 4), (4, .ofNat 1, .ofNat 0), (0, .ofNat 0, .ofNat 0)), (2, 2, (4, .ofNat 1, .ofNat 0), (0, .ofNat 0, .ofNat 28), (0, .ofNat 0, .ofNat 0)), (0, 40, (0, .ofNat 0, .ofNat 4), (4, .ofNat 1, .ofNat 0), (0, .ofNat 0, .ofNat 0))], [(1, [(.ofNat 1, .ofNat 1000000)]), (2, [(.ofNat 0, .ofNat 7)]), (3, [(.ofNat 0, .ofNat 7)]), (4, [(.ofNat 0, .ofNat 27)])], [], []),
  (0, [], [], [(2, 3, (4, .ofNat 1, .ofNat 0), (0, .ofNat 0, .ofNat 28), (0, .ofNat 0, .ofNat 0)), (0, 40, (0, .ofNat 0, .ofNat 4), (4, .ofNat 1, .ofNat 0), (0, .ofNat 0, .ofNat 0))], [(1, [(.ofNat 1, .ofNat 1000000)]), (2, [(.ofNat 0, .ofNat 7)]), (3, [(.ofNat 0, .ofNat 7)]), (4, [(.ofNat 28, .ofNat 28)])], [], [])]
set_option maxRecDepth 1000000 in
theorem sg_ins_a_g : sg_go [] [16] 3000 58 0 0 4 [(0, [(.ofNat 0, .ofNat 0)]), (1, [(.ofNat 1, .ofNat 1000000)]), (2, [(.ofNat 0, .ofNat 7)]), (3, [(.ofNat 0, .ofNat 7)])] [] [] [] [(0, .inr (.inl [40])), (1, .inl (false, (1, .ofNat 1, .ofNat 0))), (2, .inl (false, (2, .ofNat 1, .ofNat 0))), (3, .inl (false, (3, .ofNat 1, .ofNat 0)))] [] [] sg_ins_a_Z = true := by decide +kernel
set_option maxRecDepth 100000 in
theorem sg_ins_a {Q : Option Value × am_S → Prop} {d : Nat} {S : am_S} {L : am_L} {x1 x2 x3 : Int} (hd : 0 ≤ d) (hP : ax_P0 none S) (l0 : lc L 0 40) (l1 : li L 1 x1) (l2 : li L 2 x2) (l3 : li L 3 x3) (b1 : (1 ≤ x1 ∧ x1 ≤ 1000000)) (b2 : (0 ≤ x2 ∧ x2 ≤ 7)) (b3 : (0 ≤ x3 ∧ x3 ≤ 7))
    (k0 : ∀ (x4 : Int) (L' : am_L), rd S 40 4 = x4 → x4 < 28 → (1 ≤ x1 ∧ x1 ≤ 1000000) → (0 ≤ x2 ∧ x2 ≤ 7) → (0 ≤ x3 ∧ x3 ≤ 7) → (0 ≤ x4 ∧ x4 ≤ 27) → lc L' 0 40 → li L' 1 x1 → li L' 2 x2 → li L' 3 x3 → li L' 4 x4 → am_V none d 58 16 L' ([]) S Q)
    (k1 : ∀ (x4 : Int), rd S 40 4 = x4 → 28 ≤ x4 → (1 ≤ x1 ∧ x1 ≤ 1000000) → (0 ≤ x2 ∧ x2 ≤ 7) → (0 ≤ x3 ∧ x3 ≤ 7) → (28 ≤ x4 ∧ x4 ≤ 28) → Q (none, S)) : am_V none d 58 0 L ([]) S Q := by
  refine sg_use sg_ins_a_g hd hP (sg_xs [0, x1, x2, x3]) ⟨⟨Int.le_refl 0, Int.le_refl 0⟩, b1, b2, b3, trivial⟩ trivial trivial trivial ⟨l0, l1, l2, l3, trivial⟩ trivial ?_
  intro z hz x' L' st' S' hx hP' hW hL' hs' hJ hE' hT' hD'
  have q1 : x' 1 = x1 := hx 1 (by decide)
  subst q1
  have q2 : x' 2 = x2 := hx 2 (by decide)
  subst q2
  have q3 : x' 3 = x3 := hx 3 (by decide)
  subst q3
  have eS : S' = S := hW.1 rfl
  subst eS
  simp only [sg_ins_a_Z, List.mem_cons, List.not_mem_nil, or_false] at hz
  rcases hz with rfl | rfl
  · obtain ⟨f0, f1, -, hσ⟩ := hJ
    obtain ⟨e0, e1, e2, e3, -⟩ := hE'
    obtain ⟨p0, p1, p2, p3, p4, -⟩ := hL'
    obtain rfl := sg_tn hs'
    exact k0 (x' 4) L' f0 f1 e0 e1 e2 e3 p0 p1 p2 p3 p4
  · obtain ⟨f0, f1, hσ⟩ := hJ
    obtain ⟨e0, e1, e2, e3, -⟩ := hE'
    intro v hv
    subst hv
    cases v with
    | some _ => exact hs'.elim
    | none =>
      exact k1 (x' 4) f0 f1 e0 e1 e2 e3
def sg_ins_b_Z : List sg_z := [(89, [(0, .inr (.inl [40])), (1, .inl (false, (1, .ofNat 1, .ofNat 0))), (2, .inl (false, (2, .ofNat 1, .ofNat 0))), (3, .inl (false, (3, .ofNat 1, .ofNat 0))), (4, .inl (false, (0, .ofNat 0, .ofNat 0)))], [], [(2, 5, (4, .ofNat 1, .ofNat 0), (0, .ofNat 0, .ofNat 0), (0, .ofNat 0, .ofNat 0))], [(1, [(.ofNat 1, .ofNat 1000000)]), (2, [(.ofNat 0, .ofNat 7)]), (3, [(.ofNat 0, .ofNat 7)]), (4, [(.ofNat 0, .ofNat 0)])], [], []),
  (89, [(0, .inr (.inl [40])), (1, .inl (false, (1, .ofNat 1, .ofNat 0))), (2, .inl (false, (2, .ofNat 1, .ofNat 0))), (3, .inl (false, (3, .ofNat 1, .ofNat 0))), (4, .inl (false, (4, .ofNat 1, .ofNat 0)))], [], [(2, 5, (5, .ofNat 1, .ofNat 0), (1, .ofNat 1, .ofNat 0), (0, .ofNat 0, .ofNat 0)), (0, 42, (4, .ofNat 1, .negSucc 0), (5, .ofNat 1, .ofNat 0), (0, .ofNat 0, .ofNat 0)), (2, 4, (4, .ofNat 1, .ofNat 0), (0, .ofNat 0, .ofNat 0), (0, .ofNat 0, .ofNat 0))], [(1, [(.ofNat 1, .ofNat 1000000)]), (2, [(.ofNat 0, .ofNat 7)]), (3, [(.ofNat 0, .ofNat 7)]), (4, [(.ofNat 1, .ofNat 27)]), (5, [(.negSucc 999999, .ofNat 1000000)])], [], []),
  (17, [(0, .inr (.inl [40])), (1, .inl (false, (1, .ofNat 1, .ofNat 0))), (2, .inl (false, (2, .ofNat 1, .ofNat 0))), (3, .inl (false, (3, .ofNat 1, .ofNat 0))), (4, .inl (false, (4, .ofNat 1, .negSucc 0)))], [], [(1, 44, (4, .ofNat 1, .ofNat 0), (7, .ofNat 1, .ofNat 0), (0, .ofNat 0, .ofNat 0)), (0, 44, (4, .ofNat 1, .negSucc 0), (7, .ofNat 1, .ofNat 0), (0, .ofNat 0, .ofNat 0)), (1, 43, (4, .ofNat 1, .ofNat 0), (6, .ofNat 1, .ofNat 0), (0, .ofNat 0, .ofNat 0)), (0, 43, (4, .ofNat 1, .negSucc 0), (6, .ofNat 1, .ofNat 0), (0, .ofNat 0, .ofNat 0)), (1, 42, (4, .ofNat 1, .ofNat 0), (5, .ofNat 1, .ofNat 0), (0, .ofNat 0, .ofNat 0)), (0, 42, (4, .ofNat 1, .negSucc 0), (5, .ofNat 1, .ofNat 0), (0, .ofNat 0, .ofNat 0)), (2, 4, (5, .ofNat 1, .ofNat 0), (1, .ofNat 1, .ofNat 0), (0, .ofNat 0, .ofNat 0)), (0, 42, (4, .ofNat 1, .negSucc 0), (5, .ofNat 1, .ofNat 0), (0, .ofNat 0, .ofNat 0)), (2, 4, (4, .ofNat 1, .ofNat 0), (0, .ofNat 0, .ofNat 0), (0, .ofNat 0, .ofNat 0))], [(1, [(.ofNat 1, .ofNat 999999)]), (2, [(.ofNat 0, .ofNat 7)]), (3, [(.ofNat 0, .ofNat 7)]), (4, [(.ofNat 1, .ofNat 27)]), (5, [(.ofNat 2, .ofNat 1000000)]), (6, [(.ofNat 0, .ofNat 7)]), (7, [(.ofNat 0, .ofNat 7)])], [], [])]
set_option maxRecDepth 1000000 in
theorem sg_ins_b_g : sg_go [] [16, 88] 3000 58 16 0 5 [(0, [(.ofNat 0, .ofNat 0)]), (1, [(.ofNat 1, .ofNat 1000000)]), (2, [(.ofNat 0, .ofNat 7)]), (3, [(.ofNat 0, .ofNat 7)]), (4, [(.ofNat 0, .ofNat 27)])] [] [] [] [(0, .inr (.inl [40])), (1, .inl (false, (1, .ofNat 1, .ofNat 0))), (2, .inl (false, (2, .ofNat 1, .ofNat 0))), (3, .inl (false, (3, .ofNat 1, .ofNat 0))), (4, .inl (false, (4, .ofNat 1, .ofNat 0)))] [] [(42, none), (43, none), (44, none)] sg_ins_b_Z = true := by decide +kernel
set_option maxRecDepth 100000 in
theorem sg_ins_b {Q : Option Value × am_S → Prop} {d : Nat} {S : am_S} {L : am_L} {x1 x2 x3 x4 : Int} (hd : 0 ≤ d) (hP : ax_P0 none S) (l0 : lc L 0 40) (l1 : li L 1 x1) (l2 : li L 2 x2) (l3 : li L 3 x3) (l4 : li L 4 x4) (b1 : (1 ≤ x1 ∧ x1 ≤ 1000000)) (b2 : (0 ≤ x2 ∧ x2 ≤ 7)) (b3 : (0 ≤ x3 ∧ x3 ≤ 7)) (b4 : (0 ≤ x4 ∧ x4 ≤ 27))
    (k0 : ∀ (L' : am_L) (S' : am_S), ax_P0 none S' → rd S' = rd S → x4 ≤ 0 → (1 ≤ x1 ∧ x1 ≤ 1000000) → (0 ≤ x2 ∧ x2 ≤ 7) → (0 ≤ x3 ∧ x3 ≤ 7) → (0 ≤ x4 ∧ x4 ≤ 0) → lc L' 0 40 → li L' 1 x1 → li L' 2 x2 → li L' 3 x3 → li L' 4 0 → am_V none d 58 88 L' ([]) S' Q)
    (k1 : ∀ (x5 : Int) (L' : am_L) (S' : am_S), ax_P0 none S' → rd S' = rd S → 0 < x4 → rd S 42 (x4 + (-1)) = x5 → x5 ≤ x1 → (1 ≤ x1 ∧ x1 ≤ 1000000) → (0 ≤ x2 ∧ x2 ≤ 7) → (0 ≤ x3 ∧ x3 ≤ 7) → (1 ≤ x4 ∧ x4 ≤ 27) → ((-1000000) ≤ x5 ∧ x5 ≤ 1000000) → lc L' 0 40 → li L' 1 x1 → li L' 2 x2 → li L' 3 x3 → li L' 4 x4 → am_V none d 58 88 L' ([]) S' Q)
    (k2 : ∀ (x5 x6 x7 : Int) (L' : am_L) (S' : am_S), ax_P0 none S' → rd S' = sg_up (sg_up (sg_up (rd S) 42 x4 x5) 43 x4 x6) 44 x4 x7 → 0 < x4 → rd S 42 (x4 + (-1)) = x5 → x1 < x5 → (sg_up (rd S) 42 x4 x5) 43 (x4 + (-1)) = x6 → (sg_up (sg_up (rd S) 42 x4 x5) 43 x4 x6) 44 (x4 + (-1)) = x7 → (1 ≤ x1 ∧ x1 ≤ 999999) → (0 ≤ x2 ∧ x2 ≤ 7) → (0 ≤ x3 ∧ x3 ≤ 7) → (1 ≤ x4 ∧ x4 ≤ 27) → (2 ≤ x5 ∧ x5 ≤ 1000000) → (0 ≤ x6 ∧ x6 ≤ 7) → (0 ≤ x7 ∧ x7 ≤ 7) → lc L' 0 40 → li L' 1 x1 → li L' 2 x2 → li L' 3 x3 → li L' 4 (x4 + (-1)) → am_V none d 58 16 L' ([]) S' Q) : am_V none d 58 16 L ([]) S Q := by
  refine sg_use sg_ins_b_g hd hP (sg_xs [0, x1, x2, x3, x4]) ⟨⟨Int.le_refl 0, Int.le_refl 0⟩, b1, b2, b3, b4, trivial⟩ trivial trivial trivial ⟨l0, l1, l2, l3, l4, trivial⟩ trivial ?_
  intro z hz x' L' st' S' hx hP' hW hL' hs' hJ hE' hT' hD'
  have q1 : x' 1 = x1 := hx 1 (by decide)
  subst q1
  have q2 : x' 2 = x2 := hx 2 (by decide)
  subst q2
  have q3 : x' 3 = x3 := hx 3 (by decide)
  subst q3
  have q4 : x' 4 = x4 := hx 4 (by decide)
  subst q4
  simp only [sg_ins_b_Z, List.mem_cons, List.not_mem_nil, or_false] at hz
  rcases hz with rfl | rfl | rfl
  · obtain ⟨f0, hσ⟩ := hJ
    obtain ⟨e0, e1, e2, e3, -⟩ := hE'
    obtain ⟨p0, p1, p2, p3, p4, -⟩ := hL'
    obtain rfl := sg_tn hs'
    exact k0 L' S' hP' hσ f0 e0 e1 e2 e3 p0 p1 p2 p3 p4
  · obtain ⟨f0, f1, f2, hσ⟩ := hJ
    obtain ⟨e0, e1, e2, e3, e4, -⟩ := hE'
    obtain ⟨p0, p1, p2, p3, p4, -⟩ := hL'
    obtain rfl := sg_tn hs'
    exact k1 (x' 5) L' S' hP' hσ f0 f1 f2 e0 e1 e2 e3 e4 p0 p1 p2 p3 p4
  · obtain ⟨f0, f1, f2, -, f4, f5, hσ⟩ := hJ
    obtain ⟨e0, e1, e2, e3, e4, e5, e6, -⟩ := hE'
    obtain ⟨p0, p1, p2, p3, p4, -⟩ := hL'
    obtain rfl := sg_tn hs'
    exact k2 (x' 5) (x' 6) (x' 7) L' S' hP' hσ f0 f1 f2 f4 f5 e0 e1 e2 e3 e4 e5 e6 p0 p1 p2 p3 p4
def sg_ins_c_Z : List sg_z := [(0, [], [], [(1, 40, (0, .ofNat 0, .ofNat 4), (5, .ofNat 1, .ofNat 1), (0, .ofNat 0, .ofNat 0)), (0, 40, (0, .ofNat 0, .ofNat 4), (5, .ofNat 1, .ofNat 0), (0, .ofNat 0, .ofNat 0)), (1, 44, (4, .ofNat 1, .ofNat 0), (3, .ofNat 1, .ofNat 0), (0, .ofNat 0, .ofNat 0)), (1, 43, (4, .ofNat 1, .ofNat 0), (2, .ofNat 1, .ofNat 0), (0, .ofNat 0, .ofNat 0)), (1, 42, (4, .ofNat 1, .ofNat 0), (1, .ofNat 1, .ofNat 0), (0, .ofNat 0, .ofNat 0))], [(1, [(.ofNat 1, .ofNat 1000000)]), (2, [(.ofNat 0, .ofNat 7)]), (3, [(.ofNat 0, .ofNat 7)]), (4, [(.ofNat 0, .ofNat 27)]), (5, [(.ofNat 0, .ofNat 27)])], [], [])]
set_option maxRecDepth 1000000 in
theorem sg_ins_c_g : sg_go [] [] 3000 58 88 0 6 [(0, [(.ofNat 0, .ofNat 0)]), (1, [(.ofNat 1, .ofNat 1000000)]), (2, [(.ofNat 0, .ofNat 7)]), (3, [(.ofNat 0, .ofNat 7)]), (4, [(.ofNat 0, .ofNat 27)]), (5, [(.ofNat 0, .ofNat 27)])] [(40, (0, .ofNat 0, .ofNat 4), (5, .ofNat 1, .ofNat 0))] [] [] [(0, .inr (.inl [40])), (1, .inl (false, (1, .ofNat 1, .ofNat 0))), (2, .inl (false, (2, .ofNat 1, .ofNat 0))), (3, .inl (false, (3, .ofNat 1, .ofNat 0))), (4, .inl (false, (4, .ofNat 1, .ofNat 0)))] [] [(40, some 4), (42, none), (43, none), (44, none)] sg_ins_c_Z = true := by decide +kernel
set_option maxRecDepth 100000 in
theorem sg_ins_c {Q : Option Value × am_S → Prop} {d : Nat} {S : am_S} {L : am_L} {x1 x2 x3 x4 x5 : Int} (hd : 0 ≤ d) (hP : ax_P0 none S) (l0 : lc L 0 40) (l1 : li L 1 x1) (l2 : li L 2 x2) (l3 : li L 3 x3) (l4 : li L 4 x4) (b1 : (1 ≤ x1 ∧ x1 ≤ 1000000)) (b2 : (0 ≤ x2 ∧ x2 ≤ 7)) (b3 : (0 ≤ x3 ∧ x3 ≤ 7)) (b4 : (0 ≤ x4 ∧ x4 ≤ 27)) (b5 : (0 ≤ x5 ∧ x5 ≤ 27)) (m40_4 : rd S 40 4 = x5)
    (k0 : ∀ (S' : am_S), ax_P0 none S' → rd S' = sg_up (sg_up (sg_up (sg_up (rd S) 42 x4 x1) 43 x4 x2) 44 x4 x3) 40 4 (x5 + 1) → (sg_up (sg_up (sg_up (rd S) 42 x4 x1) 43 x4 x2) 44 x4 x3) 40 4 = x5 → (1 ≤ x1 ∧ x1 ≤ 1000000) → (0 ≤ x2 ∧ x2 ≤ 7) → (0 ≤ x3 ∧ x3 ≤ 7) → (0 ≤ x4 ∧ x4 ≤ 27) → (0 ≤ x5 ∧ x5 ≤ 27) → Q (none, S')) : am_V none d 58 88 L ([]) S Q := by
  refine sg_use sg_ins_c_g hd hP (sg_xs [0, x1, x2, x3, x4, x5]) ⟨⟨Int.le_refl 0, Int.le_refl 0⟩, b1, b2, b3, b4, b5, trivial⟩ ⟨sg_fs hP rfl m40_4, trivial⟩ trivial trivial ⟨l0, l1, l2, l3, l4, trivial⟩ trivial ?_
  intro z hz x' L' st' S' hx hP' hW hL' hs' hJ hE' hT' hD'
  have q1 : x' 1 = x1 := hx 1 (by decide)
  subst q1
  have q2 : x' 2 = x2 := hx 2 (by decide)
  subst q2
  have q3 : x' 3 = x3 := hx 3 (by decide)
  subst q3
  have q4 : x' 4 = x4 := hx 4 (by decide)
  subst q4
  have q5 : x' 5 = x5 := hx 5 (by decide)
  subst q5
  simp only [sg_ins_c_Z, List.mem_cons, List.not_mem_nil, or_false] at hz
  rcases hz with rfl
  · obtain ⟨f0, hσ⟩ := hJ
    obtain ⟨e0, e1, e2, e3, e4, -⟩ := hE'
    intro v hv
    subst hv
    cases v with
    | some _ => exact hs'.elim
    | none =>
      exact k0 S' hP' hσ f0 e0 e1 e2 e3 e4
def sg_nc_a_Z : List sg_z := [(5, [(0, .inr (.inl [6])), (1, .inl (false, (1, .ofNat 1, .ofNat 0))), (2, .inl (false, (0, .ofNat 0, .ofNat 0))), (3, .inl (false, (0, .ofNat 0, .ofNat 0)))], [], [], [(1, [(.ofNat 0, .ofNat 1000000)])], [], [])]
set_option maxRecDepth 1000000 in
theorem sg_nc_a_g : sg_go [] [4] 3000 37 0 0 2 [(0, [(.ofNat 0, .ofNat 0)]), (1, [(.ofNat 0, .ofNat 1000000)])] [] [] [] [(0, .inr (.inl [6])), (1, .inl (false, (1, .ofNat 1, .ofNat 0)))] [] [] sg_nc_a_Z = true := by decide +kernel
set_option maxRecDepth 100000 in
theorem sg_nc_a {Q : Option Value × am_S → Prop} {d : Nat} {S : am_S} {L : am_L} {x1 : Int} (hd : 0 ≤ d) (hP : ax_P0 none S) (l0 : lc L 0 6) (l1 : li L 1 x1) (b1 : (0 ≤ x1 ∧ x1 ≤ 1000000))
    (k0 : ∀ (L' : am_L), (0 ≤ x1 ∧ x1 ≤ 1000000) → lc L' 0 6 → li L' 1 x1 → li L' 2 0 → li L' 3 0 → am_V none d 37 4 L' ([]) S Q) : am_V none d 37 0 L ([]) S Q := by
  refine sg_use sg_nc_a_g hd hP (sg_xs [0, x1]) ⟨⟨Int.le_refl 0, Int.le_refl 0⟩, b1, trivial⟩ trivial trivial trivial ⟨l0, l1, trivial⟩ trivial ?_
  intro z hz x' L' st' S' hx hP' hW hL' hs' hJ hE' hT' hD'
  have q1 : x' 1 = x1 := hx 1 (by decide)
  subst q1
  have eS : S' = S := hW.1 rfl
  subst eS
  simp only [sg_nc_a_Z, List.mem_cons, List.not_mem_nil, or_false] at hz
  rcases hz with rfl
  · have hσ := hJ
    obtain ⟨e0, -⟩ := hE'
    obtain ⟨p0, p1, p2, p3, -⟩ := hL'
    obtain rfl := sg_tn hs'
    exact k0 L' e0 p0 p1 p2 p3
def sg_nc_b_Z : List sg_z := [(0, [], [.inl (false, (2, .ofNat 1, .ofNat 0))], [(2, 3, (3, .ofNat 1, .ofNat 0), (4, .ofNat 1, .ofNat 0), (0, .ofNat 0, .ofNat 0)), (0, 6, (0, .ofNat 0, .ofNat 0), (4, .ofNat 1, .ofNat 0), (0, .ofNat 0, .ofNat 0))], [(1, [(.ofNat 0, .ofNat 1000000)]), (2, [(.ofNat 0, .ofNat 16)]), (3, [(.ofNat 0, .ofNat 16)]), (4, [(.ofNat 0, .ofNat 16)])], [], []),
  (5, [(0, .inr (.inl [6])), (1, .inl (false, (1, .ofNat 1, .ofNat 0))), (2, .inl (false, (2, .ofNat 1, .ofNat 0))), (3, .inl (false, (3, .ofNat 1, .ofNat 1)))], [], [(2, 0, (0, .ofNat 0, .ofNat 0), (0, .ofNat 0, .ofNat 0), (0, .ofNat 0, .ofNat 0)), (2, 4, (6, .ofNat 1, .ofNat 0), (7, .ofNat 1, .ofNat 0), (0, .ofNat 0, .ofNat 0)), (0, 8, (3, .ofNat 1, .ofNat 0), (7, .ofNat 1, .ofNat 0), (0, .ofNat 0, .ofNat 0)), (2, 3, (6, .ofNat 1, .ofNat 0), (0, .ofNat 0, .ofNat 0), (0, .ofNat 0, .ofNat 0)), (0, 7, (3, .ofNat 1, .ofNat 0), (5, .ofNat 1, .ofNat 0), (0, .ofNat 0, .ofNat 0)), (2, 2, (3, .ofNat 1, .ofNat 0), (4, .ofNat 1, .ofNat 0), (0, .ofNat 0, .ofNat 0)), (0, 6, (0, .ofNat 0, .ofNat 0), (4, .ofNat 1, .ofNat 0), (0, .ofNat 0, .ofNat 0))], [(1, [(.ofNat 0, .ofNat 1000000)]), (2, [(.ofNat 0, .ofNat 16)]), (3, [(.ofNat 0, .ofNat 15)]), (4, [(.ofNat 1, .ofNat 16)]), (5, [(.ofNat 0, .ofNat 1000000)]), (6, [(.ofNat 1, .ofNat 1000000)]), (7, [(.ofNat 0, .ofNat 1000)])], [((1, .ofNat 1, .ofNat 0), (5, .negSucc 0, .ofNat 0), (6, .ofNat 1, .ofNat 0))], []),
  (5, [(0, .inr (.inl [6])), (1, .inl (false, (1, .ofNat 1, .ofNat 0))), (2, .inl (false, (2, .ofNat 1, .ofNat 1))), (3, .inl (false, (3, .ofNat 1, .ofNat 1)))], [], [(2, 1, (0, .ofNat 0, .ofNat 1), (0, .ofNat 0, .ofNat 0), (0, .ofNat 0, .ofNat 0)), (2, 5, (6, .ofNat 1, .ofNat 0), (7, .ofNat 1, .ofNat 0), (0, .ofNat 0, .ofNat 0)), (0, 8, (3, .ofNat 1, .ofNat 0), (7, .ofNat 1, .ofNat 0), (0, .ofNat 0, .ofNat 0)), (2, 3, (6, .ofNat 1, .ofNat 0), (0, .ofNat 0, .ofNat 0), (0, .ofNat 0, .ofNat 0)), (0, 7, (3, .ofNat 1, .ofNat 0), (5, .ofNat 1, .ofNat 0), (0, .ofNat 0, .ofNat 0)), (2, 2, (3, .ofNat 1, .ofNat 0), (4, .ofNat 1, .ofNat 0), (0, .ofNat 0, .ofNat 0)), (0, 6, (0, .ofNat 0, .ofNat 0), (4, .ofNat 1, .ofNat 0), (0, .ofNat 0, .ofNat 0))], [(1, [(.ofNat 0, .ofNat 1000000)]), (2, [(.ofNat 0, .ofNat 16)]), (3, [(.ofNat 0, .ofNat 15)]), (4, [(.ofNat 1, .ofNat 16)]), (5, [(.ofNat 0, .ofNat 1000000)]), (6, [(.ofNat 0, .ofNat 1000)]), (7, [(.ofNat 0, .ofNat 1000)])], [((1, .ofNat 1, .ofNat 0), (5, .negSucc 0, .ofNat 0), (6, .ofNat 1, .ofNat 0))], []),
  (5, [(0, .inr (.inl [6])), (1, .inl (false, (1, .ofNat 1, .ofNat 0))), (2, .inl (false, (2, .ofNat 1, .ofNat 0))), (3, .inl (false, (3, .ofNat 1, .ofNat 1)))], [], [(2, 0, (0, .ofNat 0, .ofNat 0), (0, .ofNat 0, .ofNat 0), (0, .ofNat 0, .ofNat 0)), (2, 4, (6, .negSucc 0, .ofNat 0), (7, .ofNat 1, .ofNat 0), (0, .ofNat 0, .ofNat 0)), (0, 8, (3, .ofNat 1, .ofNat 0), (7, .ofNat 1, .ofNat 0), (0, .ofNat 0, .ofNat 0)), (2, 2, (6, .ofNat 1, .ofNat 0), (0, .ofNat 0, .ofNat 0), (0, .ofNat 0, .ofNat 0)), (0, 7, (3, .ofNat 1, .ofNat 0), (5, .ofNat 1, .ofNat 0), (0, .ofNat 0, .ofNat 0)), (2, 2, (3, .ofNat 1, .ofNat 0), (4, .ofNat 1, .ofNat 0), (0, .ofNat 0, .ofNat 0)), (0, 6, (0, .ofNat 0, .ofNat 0), (4, .ofNat 1, .ofNat 0), (0, .ofNat 0, .ofNat 0))], [(1, [(.ofNat 0, .ofNat 1000000)]), (2, [(.ofNat 0, .ofNat 16)]), (3, [(.ofNat 0, .ofNat 15)]), (4, [(.ofNat 1, .ofNat 16)]), (5, [(.ofNat 0, .ofNat 1000000)]), (6, [(.negSucc 999999, .negSucc 0)]), (7, [(.ofNat 0, .ofNat 1000)])], [((1, .ofNat 1, .ofNat 0), (5, .negSucc 0, .ofNat 0), (6, .ofNat 1, .ofNat 0))], []),
  (5, [(0, .inr (.inl [6])), (1, .inl (false, (1, .ofNat 1, .ofNat 0))), (2, .inl (false, (2, .ofNat 1, .ofNat 1))), (3, .inl (false, (3, .ofNat 1, .ofNat 1)))], [], [(2, 1, (0, .ofNat 0, .ofNat 1), (0, .ofNat 0, .ofNat 0), (0, .ofNat 0, .ofNat 0)), (2, 5, (6, .negSucc 0, .ofNat 0), (7, .ofNat 1, .ofNat 0), (0, .ofNat 0, .ofNat 0)), (0, 8, (3, .ofNat 1, .ofNat 0), (7, .ofNat 1, .ofNat 0), (0, .ofNat 0, .ofNat 0)), (2, 2, (6, .ofNat 1, .ofNat 0), (0, .ofNat 0, .ofNat 0), (0, .ofNat 0, .ofNat 0)), (0, 7, (3, .ofNat 1, .ofNat 0), (5, .ofNat 1, .ofNat 0), (0, .ofNat 0, .ofNat 0)), (2, 2, (3, .ofNat 1, .ofNat 0), (4, .ofNat 1, .ofNat 0), (0, .ofNat 0, .ofNat 0)), (0, 6, (0, .ofNat 0, .ofNat 0), (4, .ofNat 1, .ofNat 0), (0, .ofNat 0, .ofNat 0))], [(1, [(.ofNat 0, .ofNat 1000000)]), (2, [(.ofNat 0, .ofNat 16)]), (3, [(.ofNat 0, .ofNat 15)]), (4, [(.ofNat 1, .ofNat 16)]), (5, [(.ofNat 0, .ofNat 1000000)]), (6, [(.negSucc 999, .negSucc 0)]), (7, [(.ofNat 1, .ofNat 1000)])], [((1, .ofNat 1, .ofNat 0), (5, .negSucc 0, .ofNat 0), (6, .ofNat 1, .ofNat 0))], [])]
set_option maxRecDepth 1000000 in
theorem sg_nc_b_g : sg_go [] [4] 3000 37 4 2 4 [(0, [(.ofNat 0, .ofNat 0)]), (1, [(.ofNat 0, .ofNat 1000000)]), (2, [(.ofNat 0, .ofNat 16)]), (3, [(.ofNat 0, .ofNat 16)])] [] [] [] [(0, .inr (.inl [6])), (1, .inl (false, (1, .ofNat 1, .ofNat 0))), (2, .inl (false, (2, .ofNat 1, .ofNat 0))), (3, .inl (false, (3, .ofNat 1, .ofNat 0)))] [] [] sg_nc_b_Z = true := by decide +kernel
set_option maxRecDepth 100000 in
theorem sg_nc_b {Q : Option Value × am_S → Prop} {d : Nat} {S : am_S} {L : am_L} {x1 x2 x3 : Int} (hd : 2 ≤ d) (hP : ax_P0 none S) (l0 : lc L 0 6) (l1 : li L 1 x1) (l2 : li L 2 x2) (l3 : li L 3 x3) (b1 : (0 ≤ x1 ∧ x1 ≤ 1000000)) (b2 : (0 ≤ x2 ∧ x2 ≤ 16)) (b3 : (0 ≤ x3 ∧ x3 ≤ 16))
    (k0 : ∀ (x4 : Int) (i1 : Int32), rd S 6 0 = x4 → x4 ≤ x3 → (0 ≤ x1 ∧ x1 ≤ 1000000) → (0 ≤ x2 ∧ x2 ≤ 16) → (0 ≤ x3 ∧ x3 ≤ 16) → (0 ≤ x4 ∧ x4 ≤ 16) → i1.toInt = x2 → Q (some (.int i1), S))
    (k1 : ∀ (x4 x5 x6 x7 : Int) (L' : am_L), rd S 6 0 = x4 → x3 < x4 → rd S 7 x3 = x5 → 0 ≤ x6 → rd S 8 x3 = x7 → x7 < x6 → (0 ≤ x1 ∧ x1 ≤ 1000000) → (0 ≤ x2 ∧ x2 ≤ 16) → (0 ≤ x3 ∧ x3 ≤ 15) → (1 ≤ x4 ∧ x4 ≤ 16) → (0 ≤ x5 ∧ x5 ≤ 1000000) → (1 ≤ x6 ∧ x6 ≤ 1000000) → (0 ≤ x7 ∧ x7 ≤ 1000) → x1 + ((-1) * x5 + 0) = x6 → lc L' 0 6 → li L' 1 x1 → li L' 2 x2 → li L' 3 (x3 + 1) → am_V none d 37 4 L' ([]) S Q)
    (k2 : ∀ (x4 x5 x6 x7 : Int) (L' : am_L), rd S 6 0 = x4 → x3 < x4 → rd S 7 x3 = x5 → 0 ≤ x6 → rd S 8 x3 = x7 → x6 ≤ x7 → (0 ≤ x1 ∧ x1 ≤ 1000000) → (0 ≤ x2 ∧ x2 ≤ 16) → (0 ≤ x3 ∧ x3 ≤ 15) → (1 ≤ x4 ∧ x4 ≤ 16) → (0 ≤ x5 ∧ x5 ≤ 1000000) → (0 ≤ x6 ∧ x6 ≤ 1000) → (0 ≤ x7 ∧ x7 ≤ 1000) → x1 + ((-1) * x5 + 0) = x6 → lc L' 0 6 → li L' 1 x1 → li L' 2 (x2 + 1) → li L' 3 (x3 + 1) → am_V none d 37 4 L' ([]) S Q)
    (k3 : ∀ (x4 x5 x6 x7 : Int) (L' : am_L), rd S 6 0 = x4 → x3 < x4 → rd S 7 x3 = x5 → x6 < 0 → rd S 8 x3 = x7 → x7 < (-1) * x6 + 0 → (0 ≤ x1 ∧ x1 ≤ 1000000) → (0 ≤ x2 ∧ x2 ≤ 16) → (0 ≤ x3 ∧ x3 ≤ 15) → (1 ≤ x4 ∧ x4 ≤ 16) → (0 ≤ x5 ∧ x5 ≤ 1000000) → ((-1000000) ≤ x6 ∧ x6 ≤ (-1)) → (0 ≤ x7 ∧ x7 ≤ 1000) → x1 + ((-1) * x5 + 0) = x6 → lc L' 0 6 → li L' 1 x1 → li L' 2 x2 → li L' 3 (x3 + 1) → am_V none d 37 4 L' ([]) S Q)
    (k4 : ∀ (x4 x5 x6 x7 : Int) (L' : am_L), rd S 6 0 = x4 → x3 < x4 → rd S 7 x3 = x5 → x6 < 0 → rd S 8 x3 = x7 → (-1) * x6 + 0 ≤ x7 → (0 ≤ x1 ∧ x1 ≤ 1000000) → (0 ≤ x2 ∧ x2 ≤ 16) → (0 ≤ x3 ∧ x3 ≤ 15) → (1 ≤ x4 ∧ x4 ≤ 16) → (0 ≤ x5 ∧ x5 ≤ 1000000) → ((-1000) ≤ x6 ∧ x6 ≤ (-1)) → (1 ≤ x7 ∧ x7 ≤ 1000) → x1 + ((-1) * x5 + 0) = x6 → lc L' 0 6 → li L' 1 x1 → li L' 2 (x2 + 1) → li L' 3 (x3 + 1) → am_V none d 37 4 L' ([]) S Q) : am_V none d 37 4 L ([]) S Q := by
  refine sg_use sg_nc_b_g hd hP (sg_xs [0, x1, x2, x3]) ⟨⟨Int.le_refl 0, Int.le_refl 0⟩, b1, b2, b3, trivial⟩ trivial trivial trivial ⟨l0, l1, l2, l3, trivial⟩ trivial ?_
  intro z hz x' L' st' S' hx hP' hW hL' hs' hJ hE' hT' hD'
  have q1 : x' 1 = x1 := hx 1 (by decide)
  subst q1
  have q2 : x' 2 = x2 := hx 2 (by decide)
  subst q2
  have q3 : x' 3 = x3 := hx 3 (by decide)
  subst q3
  have eS : S' = S := hW.1 rfl
  subst eS
  simp only [sg_nc_b_Z, List.mem_cons, List.not_mem_nil, or_false] at hz
  rcases hz with rfl | rfl | rfl | rfl | rfl
  · obtain ⟨f0, f1, hσ⟩ := hJ
    obtain ⟨e0, e1, e2, e3, -⟩ := hE'
    intro v hv
    subst hv
    cases v with
    | none => exact hs'.elim
    | some v1 =>
      obtain ⟨⟨i1, rfl, g1⟩, -⟩ := hs'
      exact k0 (x' 4) i1 f0 f1 e0 e1 e2 e3 g1
  · obtain ⟨f0, f1, f2, f3, f4, f5, -, hσ⟩ := hJ
    obtain ⟨e0, e1, e2, e3, e4, e5, e6, -⟩ := hE'
    obtain ⟨t0, -⟩ := hT'
    obtain ⟨p0, p1, p2, p3, -⟩ := hL'
    obtain rfl := sg_tn hs'
    exact k1 (x' 4) (x' 5) (x' 6) (x' 7) L' f0 f1 f2 f3 f4 f5 e0 e1 e2 e3 e4 e5 e6 t0 p0 p1 p2 p3
  · obtain ⟨f0, f1, f2, f3, f4, f5, -, hσ⟩ := hJ
    obtain ⟨e0, e1, e2, e3, e4, e5, e6, -⟩ := hE'
    obtain ⟨t0, -⟩ := hT'
    obtain ⟨p0, p1, p2, p3, -⟩ := hL'
    obtain rfl := sg_tn hs'
    exact k2 (x' 4) (x' 5) (x' 6) (x' 7) L' f0 f1 f2 f3 f4 f5 e0 e1 e2 e3 e4 e5 e6 t0 p0 p1 p2 p3
  · obtain ⟨f0, f1, f2, f3, f4, f5, -, hσ⟩ := hJ
    obtain ⟨e0, e1, e2, e3, e4, e5, e6, -⟩ := hE'
    obtain ⟨t0, -⟩ := hT'
    obtain ⟨p0, p1, p2, p3, -⟩ := hL'
    obtain rfl := sg_tn hs'
    exact k3 (x' 4) (x' 5) (x' 6) (x' 7) L' f0 f1 f2 f3 f4 f5 e0 e1 e2 e3 e4 e5 e6 t0 p0 p1 p2 p3
  · obtain ⟨f0, f1, f2, f3, f4, f5, -, hσ⟩ := hJ
    obtain ⟨e0, e1, e2, e3, e4, e5, e6, -⟩ := hE'
    obtain ⟨t0, -⟩ := hT'
    obtain ⟨p0, p1, p2, p3, -⟩ := hL'
    obtain rfl := sg_tn hs'
    exact k4 (x' 4) (x' 5) (x' 6) (x' 7) L' f0 f1 f2 f3 f4 f5 e0 e1 e2 e3 e4 e5 e6 t0 p0 p1 p2 p3
def sg_fp_x0_Z : List sg_z := [(13, [(0, .inr (.inl [0]))], [.inr (.inl [6]), .inr (.inl [1]), .inr (.inl [40])], [], [], [], [])]
set_option maxRecDepth 1000000 in
theorem sg_fp_x0_g : sg_go [] [12] 3000 115 0 0 1 [(0, [(.ofNat 0, .ofNat 0)])] [] [] [] [(0, .inr (.inl [0]))] [] [] sg_fp_x0_Z = true := by decide +kernel
set_option maxRecDepth 100000 in
theorem sg_fp_x0 {Q : Option Value × am_S → Prop} {d : Nat} {S : am_S} {L : am_L} (hd : 0 ≤ d) (hP : ax_P0 none S) (l0 : lc L 0 0)
    (k0 : ∀ (L' : am_L), lc L' 0 0 → am_V none d 115 12 L' ((.ref 6) :: (.ref 1) :: (.ref 40) :: []) S Q) : am_V none d 115 0 L ([]) S Q := by
  refine sg_use sg_fp_x0_g hd hP (sg_xs [0]) ⟨⟨Int.le_refl 0, Int.le_refl 0⟩, trivial⟩ trivial trivial trivial ⟨l0, trivial⟩ trivial ?_
  intro z hz x' L' st' S' hx hP' hW hL' hs' hJ hE' hT' hD'
  have eS : S' = S := hW.1 rfl
  subst eS
  simp only [sg_fp_x0_Z, List.mem_cons, List.not_mem_nil, or_false] at hz
  rcases hz with rfl
  · have hσ := hJ
    obtain ⟨p0, -⟩ := hL'
    obtain ⟨v1, r1, rfl, rfl, hs1⟩ := sg_tc hs'
    obtain ⟨v2, r2, rfl, rfl, hs2⟩ := sg_tc hs1
    obtain ⟨v3, r3, rfl, rfl, hs3⟩ := sg_tc hs2
    obtain rfl := sg_tn hs3
    exact k0 L' p0
def sg_fp_x1_Z : List sg_z := [(0, [], [.inl (false, (1, .ofNat 1, .ofNat 0))], [(0, 40, (0, .ofNat 0, .ofNat 4), (1, .ofNat 1, .ofNat 0), (0, .ofNat 0, .ofNat 0))], [(1, [(.ofNat 0, .ofNat 28)])], [], [])]
set_option maxRecDepth 1000000 in
theorem sg_fp_x1_g : sg_go [] [] 3000 115 15 0 1 [(0, [(.ofNat 0, .ofNat 0)])] [] [] [] [(0, .inr (.inl [0]))] [] [] sg_fp_x1_Z = true := by decide +kernel
set_option maxRecDepth 100000 in
theorem sg_fp_x1 {Q : Option Value × am_S → Prop} {d : Nat} {S : am_S} {L : am_L} (hd : 0 ≤ d) (hP : ax_P0 none S) (l0 : lc L 0 0)
    (k0 : ∀ (x1 : Int) (i1 : Int32), rd S 40 4 = x1 → (0 ≤ x1 ∧ x1 ≤ 28) → i1.toInt = x1 → Q (some (.int i1), S)) : am_V none d 115 15 L ([]) S Q := by
  refine sg_use sg_fp_x1_g hd hP (sg_xs [0]) ⟨⟨Int.le_refl 0, Int.le_refl 0⟩, trivial⟩ trivial trivial trivial ⟨l0, trivial⟩ trivial ?_
  intro z hz x' L' st' S' hx hP' hW hL' hs' hJ hE' hT' hD'
  have eS : S' = S := hW.1 rfl
  subst eS
  simp only [sg_fp_x1_Z, List.mem_cons, List.not_mem_nil, or_false] at hz
  rcases hz with rfl
  · obtain ⟨f0, hσ⟩ := hJ
    obtain ⟨e0, -⟩ := hE'
    intro v hv
    subst hv
    cases v with
    | none => exact hs'.elim
    | some v1 =>
      obtain ⟨⟨i1, rfl, g1⟩, -⟩ := hs'
      exact k0 (x' 1) i1 f0 e0 g1
def sg_fr_x0_Z : List sg_z := [(0, [], [.inl (false, (0, .ofNat 0, .negSucc 0))], [(2, 2, (1, .ofNat 1, .ofNat 0), (0, .ofNat 0, .ofNat 0), (0, .ofNat 0, .ofNat 0))], [(1, [(.negSucc 2147483647, .negSucc 0)])], [], []),
  (0, [], [.inl (false, (0, .ofNat 0, .negSucc 0))], [(2, 2, (2, .ofNat 1, .ofNat 0), (0, .ofNat 0, .ofNat 0), (0, .ofNat 0, .ofNat 0)), (2, 3, (1, .ofNat 1, .ofNat 0), (0, .ofNat 0, .ofNat 0), (0, .ofNat 0, .ofNat 0))], [(1, [(.ofNat 0, .ofNat 2147483647)]), (2, [(.negSucc 2147483647, .negSucc 0)])], [], []),
  (28, [(0, .inr (.inl [0])), (1, .inl (false, (1, .ofNat 1, .ofNat 0))), (2, .inl (false, (2, .ofNat 1, .ofNat 0)))], [.inr (.inl [6]), .inr (.inl [1]), .inr (.inl [40])], [(2, 5, (2, .ofNat 1, .ofNat 0), (0, .ofNat 0, .ofNat 3), (0, .ofNat 0, .ofNat 0)), (2, 3, (2, .ofNat 1, .ofNat 0), (0, .ofNat 0, .ofNat 0), (0, .ofNat 0, .ofNat 0)), (2, 3, (1, .ofNat 1, .ofNat 0), (0, .ofNat 0, .ofNat 0), (0, .ofNat 0, .ofNat 0))], [(1, [(.ofNat 0, .ofNat 2147483647)]), (2, [(.ofNat 0, .ofNat 3)])], [], []),
  (0, [], [.inl (false, (0, .ofNat 0, .negSucc 0))], [(2, 4, (2, .ofNat 1, .ofNat 0), (0, .ofNat 0, .ofNat 3), (0, .ofNat 0, .ofNat 0)), (2, 3, (2, .ofNat 1, .ofNat 0), (0, .ofNat 0, .ofNat 0), (0, .ofNat 0, .ofNat 0)), (2, 3, (1, .ofNat 1, .ofNat 0), (0, .ofNat 0, .ofNat 0), (0, .ofNat 0, .ofNat 0))], [(1, [(.ofNat 0, .ofNat 2147483647)]), (2, [(.ofNat 4, .ofNat 2147483647)])], [], [])]
set_option maxRecDepth 1000000 in
theorem sg_fr_x0_g : sg_go [] [27] 3000 116 0 0 3 [(0, [(.ofNat 0, .ofNat 0)]), (1, [(.negSucc 2147483647, .ofNat 2147483647)]), (2, [(.negSucc 2147483647, .ofNat 2147483647)])] [] [] [] [(0, .inr (.inl [0])), (1, .inl (false, (1, .ofNat 1, .ofNat 0))), (2, .inl (false, (2, .ofNat 1, .ofNat 0)))] [] [] sg_fr_x0_Z = true := by decide +kernel
set_option maxRecDepth 100000 in
theorem sg_fr_x0 {Q : Option Value × am_S → Prop} {d : Nat} {S : am_S} {L : am_L} {x1 x2 : Int} (hd : 0 ≤ d) (hP : ax_P0 none S) (l0 : lc L 0 0) (l1 : li L 1 x1) (l2 : li L 2 x2) (b1 : ((-2147483648) ≤ x1 ∧ x1 ≤ 2147483647)) (b2 : ((-2147483648) ≤ x2 ∧ x2 ≤ 2147483647))
    (k0 : ∀ (i1 : Int32), x1 < 0 → ((-2147483648) ≤ x1 ∧ x1 ≤ (-1)) → i1.toInt = (-1) → Q (some (.int i1), S))
    (k1 : ∀ (i1 : Int32), 0 ≤ x1 → x2 < 0 → (0 ≤ x1 ∧ x1 ≤ 2147483647) → ((-2147483648) ≤ x2 ∧ x2 ≤ (-1)) → i1.toInt = (-1) → Q (some (.int i1), S))
    (k2 : ∀ (L' : am_L), 0 ≤ x1 → 0 ≤ x2 → x2 ≤ 3 → (0 ≤ x1 ∧ x1 ≤ 2147483647) → (0 ≤ x2 ∧ x2 ≤ 3) → lc L' 0 0 → li L' 1 x1 → li L' 2 x2 → am_V none d 116 27 L' ((.ref 6) :: (.ref 1) :: (.ref 40) :: []) S Q)
    (k3 : ∀ (i1 : Int32), 0 ≤ x1 → 0 ≤ x2 → 3 < x2 → (0 ≤ x1 ∧ x1 ≤ 2147483647) → (4 ≤ x2 ∧ x2 ≤ 2147483647) → i1.toInt = (-1) → Q (some (.int i1), S)) : am_V none d 116 0 L ([]) S Q := by
  refine sg_use sg_fr_x0_g hd hP (sg_xs [0, x1, x2]) ⟨⟨Int.le_refl 0, Int.le_refl 0⟩, b1, b2, trivial⟩ trivial trivial trivial ⟨l0, l1, l2, trivial⟩ trivial ?_
  intro z hz x' L' st' S' hx hP' hW hL' hs' hJ hE' hT' hD'
  have q1 : x' 1 = x1 := hx 1 (by decide)
  subst q1
  have q2 : x' 2 = x2 := hx 2 (by decide)
  subst q2
  have eS : S' = S := hW.1 rfl
  subst eS
  simp only [sg_fr_x0_Z, List.mem_cons, List.not_mem_nil, or_false] at hz
  rcases hz with rfl | rfl | rfl | rfl
  · obtain ⟨f0, hσ⟩ := hJ
    obtain ⟨e0, -⟩ := hE'
    intro v hv
    subst hv
    cases v with
    | none => exact hs'.elim
    | some v1 =>
      obtain ⟨⟨i1, rfl, g1⟩, -⟩ := hs'
      exact k0 i1 f0 e0 g1
  · obtain ⟨f0, f1, hσ⟩ := hJ
    obtain ⟨e0, e1, -⟩ := hE'
    intro v hv
    subst hv
    cases v with
    | none => exact hs'.elim
    | some v1 =>
      obtain ⟨⟨i1, rfl, g1⟩, -⟩ := hs'
      exact k1 i1 f0 f1 e0 e1 g1
  · obtain ⟨f0, f1, f2, hσ⟩ := hJ
    obtain ⟨e0, e1, -⟩ := hE'
    obtain ⟨p0, p1, p2, -⟩ := hL'
    obtain ⟨v1, r1, rfl, rfl, hs1⟩ := sg_tc hs'
    obtain ⟨v2, r2, rfl, rfl, hs2⟩ := sg_tc hs1
    obtain ⟨v3, r3, rfl, rfl, hs3⟩ := sg_tc hs2
    obtain rfl := sg_tn hs3
    exact k2 L' f0 f1 f2 e0 e1 p0 p1 p2
  · obtain ⟨f0, f1, f2, hσ⟩ := hJ
    obtain ⟨e0, e1, -⟩ := hE'
    intro v hv
    subst hv
    cases v with
    | none => exact hs'.elim
    | some v1 =>
      obtain ⟨⟨i1, rfl, g1⟩, -⟩ := hs'
      exact k3 i1 f0 f1 f2 e0 e1 g1
def sg_fr_x1_Z : List sg_z := [(116, [(0, .inr (.inl [0])), (1, .inl (false, (1, .ofNat 1, .ofNat 0))), (2, .inl (false, (0, .ofNat 0, .ofNat 3)))], [.inl (false, (4, .ofNat 1, .ofNat 0)), .inr (.inl [6])], [(0, 42, (1, .ofNat 1, .ofNat 0), (4, .ofNat 1, .ofNat 0), (0, .ofNat 0, .ofNat 0)), (2, 2, (1, .ofNat 1, .ofNat 0), (3, .ofNat 1, .ofNat 0), (0, .ofNat 0, .ofNat 0)), (0, 40, (0, .ofNat 0, .ofNat 4), (3, .ofNat 1, .ofNat 0), (0, .ofNat 0, .ofNat 0))], [(1, [(.ofNat 0, .ofNat 27)]), (2, [(.ofNat 3, .ofNat 3)]), (3, [(.ofNat 1, .ofNat 28)]), (4, [(.negSucc 999999, .ofNat 1000000)])], [], []),
  (0, [], [.inl (false, (4, .ofNat 1, .ofNat 0))], [(0, 44, (1, .ofNat 1, .ofNat 0), (4, .ofNat 1, .ofNat 0), (0, .ofNat 0, .ofNat 0)), (2, 2, (1, .ofNat 1, .ofNat 0), (3, .ofNat 1, .ofNat 0), (0, .ofNat 0, .ofNat 0)), (0, 40, (0, .ofNat 0, .ofNat 4), (3, .ofNat 1, .ofNat 0), (0, .ofNat 0, .ofNat 0))], [(1, [(.ofNat 0, .ofNat 27)]), (2, [(.ofNat 2, .ofNat 2)]), (3, [(.ofNat 1, .ofNat 28)]), (4, [(.ofNat 0, .ofNat 7)])], [], []),
  (0, [], [.inl (false, (4, .ofNat 1, .ofNat 0))], [(0, 43, (1, .ofNat 1, .ofNat 0), (4, .ofNat 1, .ofNat 0), (0, .ofNat 0, .ofNat 0)), (2, 2, (1, .ofNat 1, .ofNat 0), (3, .ofNat 1, .ofNat 0), (0, .ofNat 0, .ofNat 0)), (0, 40, (0, .ofNat 0, .ofNat 4), (3, .ofNat 1, .ofNat 0), (0, .ofNat 0, .ofNat 0))], [(1, [(.ofNat 0, .ofNat 27)]), (2, [(.ofNat 1, .ofNat 1)]), (3, [(.ofNat 1, .ofNat 28)]), (4, [(.ofNat 0, .ofNat 7)])], [], []),
  (0, [], [.inl (false, (4, .ofNat 1, .ofNat 0))], [(0, 42, (1, .ofNat 1, .ofNat 0), (4, .ofNat 1, .ofNat 0), (0, .ofNat 0, .ofNat 0)), (2, 2, (1, .ofNat 1, .ofNat 0), (3, .ofNat 1, .ofNat 0), (0, .ofNat 0, .ofNat 0)), (0, 40, (0, .ofNat 0, .ofNat 4), (3, .ofNat 1, .ofNat 0), (0, .ofNat 0, .ofNat 0))], [(1, [(.ofNat 0, .ofNat 27)]), (2, [(.ofNat 0, .ofNat 0)]), (3, [(.ofNat 1, .ofNat 28)]), (4, [(.negSucc 999999, .ofNat 1000000)])], [], []),
  (0, [], [.inl (false, (0, .ofNat 0, .negSucc 3))], [(2, 3, (1, .ofNat 1, .ofNat 0), (3, .ofNat 1, .ofNat 0), (0, .ofNat 0, .ofNat 0)), (0, 40, (0, .ofNat 0, .ofNat 4), (3, .ofNat 1, .ofNat 0), (0, .ofNat 0, .ofNat 0))], [(1, [(.ofNat 0, .ofNat 2147483647)]), (2, [(.ofNat 0, .ofNat 3)]), (3, [(.ofNat 0, .ofNat 28)])], [], [])]
set_option maxRecDepth 1000000 in
theorem sg_fr_x1_g : sg_go [] [115] 3000 116 30 0 3 [(0, [(.ofNat 0, .ofNat 0)]), (1, [(.ofNat 0, .ofNat 2147483647)]), (2, [(.ofNat 0, .ofNat 3)])] [] [] [] [(0, .inr (.inl [0])), (1, .inl (false, (1, .ofNat 1, .ofNat 0))), (2, .inl (false, (2, .ofNat 1, .ofNat 0)))] [] [] sg_fr_x1_Z = true := by decide +kernel
set_option maxRecDepth 100000 in
theorem sg_fr_x1 {Q : Option Value × am_S → Prop} {d : Nat} {S : am_S} {L : am_L} {x1 x2 : Int} (hd : 0 ≤ d) (hP : ax_P0 none S) (l0 : lc L 0 0) (l1 : li L 1 x1) (l2 : li L 2 x2) (b1 : (0 ≤ x1 ∧ x1 ≤ 2147483647)) (b2 : (0 ≤ x2 ∧ x2 ≤ 3))
    (k0 : ∀ (x3 x4 : Int) (L' : am_L) (i1 : Int32), rd S 40 4 = x3 → x1 < x3 → rd S 42 x1 = x4 → (0 ≤ x1 ∧ x1 ≤ 27) → (3 ≤ x2 ∧ x2 ≤ 3) → (1 ≤ x3 ∧ x3 ≤ 28) → ((-1000000) ≤ x4 ∧ x4 ≤ 1000000) → lc L' 0 0 → li L' 1 x1 → li L' 2 3 → i1.toInt = x4 → am_V none d 116 115 L' ((.int i1) :: (.ref 6) :: []) S Q)
    (k1 : ∀ (x3 x4 : Int) (i1 : Int32), rd S 40 4 = x3 → x1 < x3 → rd S 44 x1 = x4 → (0 ≤ x1 ∧ x1 ≤ 27) → (2 ≤ x2 ∧ x2 ≤ 2) → (1 ≤ x3 ∧ x3 ≤ 28) → (0 ≤ x4 ∧ x4 ≤ 7) → i1.toInt = x4 → Q (some (.int i1), S))
    (k2 : ∀ (x3 x4 : Int) (i1 : Int32), rd S 40 4 = x3 → x1 < x3 → rd S 43 x1 = x4 → (0 ≤ x1 ∧ x1 ≤ 27) → (1 ≤ x2 ∧ x2 ≤ 1) → (1 ≤ x3 ∧ x3 ≤ 28) → (0 ≤ x4 ∧ x4 ≤ 7) → i1.toInt = x4 → Q (some (.int i1), S))
    (k3 : ∀ (x3 x4 : Int) (i1 : Int32), rd S 40 4 = x3 → x1 < x3 → rd S 42 x1 = x4 → (0 ≤ x1 ∧ x1 ≤ 27) → (0 ≤ x2 ∧ x2 ≤ 0) → (1 ≤ x3 ∧ x3 ≤ 28) → ((-1000000) ≤ x4 ∧ x4 ≤ 1000000) → i1.toInt = x4 → Q (some (.int i1), S))
    (k4 : ∀ (x3 : Int) (i1 : Int32), rd S 40 4 = x3 → x3 ≤ x1 → (0 ≤ x1 ∧ x1 ≤ 2147483647) → (0 ≤ x2 ∧ x2 ≤ 3) → (0 ≤ x3 ∧ x3 ≤ 28) → i1.toInt = (-4) → Q (some (.int i1), S)) : am_V none d 116 30 L ([]) S Q := by
  refine sg_use sg_fr_x1_g hd hP (sg_xs [0, x1, x2]) ⟨⟨Int.le_refl 0, Int.le_refl 0⟩, b1, b2, trivial⟩ trivial trivial trivial ⟨l0, l1, l2, trivial⟩ trivial ?_
  intro z hz x' L' st' S' hx hP' hW hL' hs' hJ hE' hT' hD'
  have q1 : x' 1 = x1 := hx 1 (by decide)
  subst q1
  have q2 : x' 2 = x2 := hx 2 (by decide)
  subst q2
  have eS : S' = S := hW.1 rfl
  subst eS
  simp only [sg_fr_x1_Z, List.mem_cons, List.not_mem_nil, or_false] at hz
  rcases hz with rfl | rfl | rfl | rfl | rfl
  · obtain ⟨f0, f1, f2, hσ⟩ := hJ
    obtain ⟨e0, e1, e2, e3, -⟩ := hE'
    obtain ⟨p0, p1, p2, -⟩ := hL'
    obtain ⟨v1, r1, rfl, ⟨i1, rfl, g1⟩, hs1⟩ := sg_tc hs'
    obtain ⟨v2, r2, rfl, rfl, hs2⟩ := sg_tc hs1
    obtain rfl := sg_tn hs2
    exact k0 (x' 3) (x' 4) L' i1 f0 f1 f2 e0 e1 e2 e3 p0 p1 p2 g1
  · obtain ⟨f0, f1, f2, hσ⟩ := hJ
    obtain ⟨e0, e1, e2, e3, -⟩ := hE'
    intro v hv
    subst hv
    cases v with
    | none => exact hs'.elim
    | some v1 =>
      obtain ⟨⟨i1, rfl, g1⟩, -⟩ := hs'
      exact k1 (x' 3) (x' 4) i1 f0 f1 f2 e0 e1 e2 e3 g1
  · obtain ⟨f0, f1, f2, hσ⟩ := hJ
    obtain ⟨e0, e1, e2, e3, -⟩ := hE'
    intro v hv
    subst hv
    cases v with
    | none => exact hs'.elim
    | some v1 =>
      obtain ⟨⟨i1, rfl, g1⟩, -⟩ := hs'
      exact k2 (x' 3) (x' 4) i1 f0 f1 f2 e0 e1 e2 e3 g1
  · obtain ⟨f0, f1, f2, hσ⟩ := hJ
    obtain ⟨e0, e1, e2, e3, -⟩ := hE'
    intro v hv
    subst hv
    cases v with
    | none => exact hs'.elim
    | some v1 =>
      obtain ⟨⟨i1, rfl, g1⟩, -⟩ := hs'
      exact k3 (x' 3) (x' 4) i1 f0 f1 f2 e0 e1 e2 e3 g1
  · obtain ⟨f0, f1, hσ⟩ := hJ
    obtain ⟨e0, e1, e2, -⟩ := hE'
    intro v hv
    subst hv
    cases v with
    | none => exact hs'.elim
    | some v1 =>
      obtain ⟨⟨i1, rfl, g1⟩, -⟩ := hs'
      exact k4 (x' 3) i1 f0 f1 e0 e1 e2 g1
def sg_if_a_Z : List sg_z := [(34, [(0, .inr (.inl [122])), (1, .inl (false, (1, .ofNat 1, .ofNat 0))), (2, .inl (false, (2, .ofNat 1, .ofNat 0))), (3, .inl (false, (0, .ofNat 0, .ofNat 0))), (4, .inl (false, (0, .ofNat 0, .ofNat 0)))], [], [(2, 0, (0, .ofNat 0, .ofNat 0), (0, .ofNat 0, .ofNat 0), (0, .ofNat 0, .ofNat 0)), (2, 0, (3, .ofNat 1, .ofNat 0), (7, .ofNat 1, .ofNat 0), (0, .ofNat 0, .ofNat 0)), (0, 124, (2, .ofNat 1, .ofNat 0), (7, .ofNat 1, .ofNat 0), (0, .ofNat 0, .ofNat 0)), (0, 125, (2, .ofNat 1, .ofNat 0), (5, .ofNat 1, .ofNat 0), (0, .ofNat 0, .ofNat 0)), (2, 5, (4, .ofNat 1, .ofNat 0), (5, .ofNat 1, .ofNat 0), (0, .ofNat 0, .ofNat 0)), (0, 125, (2, .ofNat 1, .ofNat 0), (5, .ofNat 1, .ofNat 0), (0, .ofNat 0, .ofNat 0)), (0, 125, (1, .ofNat 1, .ofNat 0), (4, .ofNat 1, .ofNat 0), (0, .ofNat 0, .ofNat 0)), (0, 124, (1, .ofNat 1, .ofNat 0), (3, .ofNat 1, .ofNat 0), (0, .ofNat 0, .ofNat 0))], [(1, [(.ofNat 0, .ofNat 7)]), (2, [(.ofNat 0, .ofNat 7)]), (3, [(.ofNat 0, .ofNat 1)]), (4, [(.ofNat 0, .ofNat 9)]), (5, [(.ofNat 0, .ofNat 9)]), (7, [(.ofNat 0, .ofNat 1)])], [], []),
  (34, [(0, .inr (.inl [122])), (1, .inl (false, (1, .ofNat 1, .ofNat 0))), (2, .inl (false, (2, .ofNat 1, .ofNat 0))), (3, .inl (false, (0, .ofNat 0, .ofNat 0))), (4, .inl (false, (0, .ofNat 0, .ofNat 0)))], [], [(2, 0, (0, .ofNat 0, .ofNat 0), (0, .ofNat 0, .ofNat 0), (0, .ofNat 0, .ofNat 0)), (2, 5, (8, .ofNat 1, .ofNat 0), (0, .ofNat 0, .ofNat 0), (0, .ofNat 0, .ofNat 0)), (0, 125, (2, .ofNat 1, .ofNat 0), (5, .ofNat 1, .ofNat 0), (0, .ofNat 0, .ofNat 0)), (2, 0, (6, .ofNat 1, .ofNat 0), (0, .ofNat 0, .ofNat 0), (0, .ofNat 0, .ofNat 0)), (2, 1, (3, .ofNat 1, .ofNat 0), (7, .ofNat 1, .ofNat 0), (0, .ofNat 0, .ofNat 0)), (0, 124, (2, .ofNat 1, .ofNat 0), (7, .ofNat 1, .ofNat 0), (0, .ofNat 0, .ofNat 0)), (0, 125, (2, .ofNat 1, .ofNat 0), (5, .ofNat 1, .ofNat 0), (0, .ofNat 0, .ofNat 0)), (2, 5, (4, .ofNat 1, .ofNat 0), (5, .ofNat 1, .ofNat 0), (0, .ofNat 0, .ofNat 0)), (0, 125, (2, .ofNat 1, .ofNat 0), (5, .ofNat 1, .ofNat 0), (0, .ofNat 0, .ofNat 0)), (0, 125, (1, .ofNat 1, .ofNat 0), (4, .ofNat 1, .ofNat 0), (0, .ofNat 0, .ofNat 0)), (0, 124, (1, .ofNat 1, .ofNat 0), (3, .ofNat 1, .ofNat 0), (0, .ofNat 0, .ofNat 0))], [(1, [(.ofNat 0, .ofNat 7)]), (2, [(.ofNat 0, .ofNat 7)]), (3, [(.ofNat 0, .ofNat 1)]), (4, [(.ofNat 0, .ofNat 9)]), (5, [(.ofNat 0, .ofNat 9)]), (6, [(.ofNat 0, .ofNat 0)]), (7, [(.ofNat 0, .ofNat 1)]), (8, [(.ofNat 0, .ofNat 0)])], [((4, .ofNat 1, .ofNat 0), (5, .ofNat 1, .ofNat 0), (8, .ofNat 1, .ofNat 0)), ((5, .ofNat 1, .ofNat 0), (4, .negSucc 0, .ofNat 0), (6, .ofNat 1, .ofNat 0))], []),
  (34, [(0, .inr (.inl [122])), (1, .inl (false, (1, .ofNat 1, .ofNat 0))), (2, .inl (false, (2, .ofNat 1, .ofNat 0))), (3, .inl (false, (0, .ofNat 0, .ofNat 0))), (4, .inl (false, (0, .ofNat 0, .ofNat 0)))], [], [(2, 5, (9, .ofNat 1, .ofNat 0), (10, .ofNat 1, .ofNat 0), (0, .ofNat 0, .ofNat 0)), (0, 123, (2, .ofNat 1, .ofNat 0), (10, .ofNat 1, .ofNat 0), (0, .ofNat 0, .ofNat 0)), (0, 123, (1, .ofNat 1, .ofNat 0), (9, .ofNat 1, .ofNat 0), (0, .ofNat 0, .ofNat 0)), (2, 1, (0, .ofNat 0, .ofNat 1), (0, .ofNat 0, .ofNat 0), (0, .ofNat 0, .ofNat 0)), (2, 4, (8, .ofNat 1, .ofNat 0), (0, .ofNat 0, .ofNat 0), (0, .ofNat 0, .ofNat 0)), (0, 125, (2, .ofNat 1, .ofNat 0), (5, .ofNat 1, .ofNat 0), (0, .ofNat 0, .ofNat 0)), (2, 0, (6, .ofNat 1, .ofNat 0), (0, .ofNat 0, .ofNat 0), (0, .ofNat 0, .ofNat 0)), (2, 1, (3, .ofNat 1, .ofNat 0), (7, .ofNat 1, .ofNat 0), (0, .ofNat 0, .ofNat 0)), (0, 124, (2, .ofNat 1, .ofNat 0), (7, .ofNat 1, .ofNat 0), (0, .ofNat 0, .ofNat 0)), (0, 125, (2, .ofNat 1, .ofNat 0), (5, .ofNat 1, .ofNat 0), (0, .ofNat 0, .ofNat 0)), (2, 5, (4, .ofNat 1, .ofNat 0), (5, .ofNat 1, .ofNat 0), (0, .ofNat 0, .ofNat 0)), (0, 125, (2, .ofNat 1, .ofNat 0), (5, .ofNat 1, .ofNat 0), (0, .ofNat 0, .ofNat 0)), (0, 125, (1, .ofNat 1, .ofNat 0), (4, .ofNat 1, .ofNat 0), (0, .ofNat 0, .ofNat 0)), (0, 124, (1, .ofNat 1, .ofNat 0), (3, .ofNat 1, .ofNat 0), (0, .ofNat 0, .ofNat 0))], [(1, [(.ofNat 0, .ofNat 7)]), (2, [(.ofNat 0, .ofNat 7)]), (3, [(.ofNat 0, .ofNat 1)]), (4, [(.ofNat 0, .ofNat 9)]), (5, [(.ofNat 0, .ofNat 9)]), (6, [(.ofNat 0, .ofNat 0)]), (7, [(.ofNat 0, .ofNat 1)]), (8, [(.ofNat 1, .ofNat 18)]), (9, [(.ofNat 0, .ofNat 1000000)]), (10, [(.ofNat 0, .ofNat 1000000)])], [((4, .ofNat 1, .ofNat 0), (5, .ofNat 1, .ofNat 0), (8, .ofNat 1, .ofNat 0)), ((5, .ofNat 1, .ofNat 0), (4, .negSucc 0, .ofNat 0), (6, .ofNat 1, .ofNat 0))], []),
  (34, [(0, .inr (.inl [122])), (1, .inl (false, (1, .ofNat 1, .ofNat 0))), (2, .inl (false, (2, .ofNat 1, .ofNat 0))), (3, .inl (false, (0, .ofNat 0, .ofNat 1))), (4, .inl (false, (0, .ofNat 0, .ofNat 0)))], [], [(2, 4, (9, .ofNat 1, .ofNat 0), (10, .ofNat 1, .ofNat 0), (0, .ofNat 0, .ofNat 0)), (0, 123, (2, .ofNat 1, .ofNat 0), (10, .ofNat 1, .ofNat 0), (0, .ofNat 0, .ofNat 0)), (0, 123, (1, .ofNat 1, .ofNat 0), (9, .ofNat 1, .ofNat 0), (0, .ofNat 0, .ofNat 0)), (2, 1, (0, .ofNat 0, .ofNat 1), (0, .ofNat 0, .ofNat 0), (0, .ofNat 0, .ofNat 0)), (2, 4, (8, .ofNat 1, .ofNat 0), (0, .ofNat 0, .ofNat 0), (0, .ofNat 0, .ofNat 0)), (0, 125, (2, .ofNat 1, .ofNat 0), (5, .ofNat 1, .ofNat 0), (0, .ofNat 0, .ofNat 0)), (2, 0, (6, .ofNat 1, .ofNat 0), (0, .ofNat 0, .ofNat 0), (0, .ofNat 0, .ofNat 0)), (2, 1, (3, .ofNat 1, .ofNat 0), (7, .ofNat 1, .ofNat 0), (0, .ofNat 0, .ofNat 0)), (0, 124, (2, .ofNat 1, .ofNat 0), (7, .ofNat 1, .ofNat 0), (0, .ofNat 0, .ofNat 0)), (0, 125, (2, .ofNat 1, .ofNat 0), (5, .ofNat 1, .ofNat 0), (0, .ofNat 0, .ofNat 0)), (2, 5, (4, .ofNat 1, .ofNat 0), (5, .ofNat 1, .ofNat 0), (0, .ofNat 0, .ofNat 0)), (0, 125, (2, .ofNat 1, .ofNat 0), (5, .ofNat 1, .ofNat 0), (0, .ofNat 0, .ofNat 0)), (0, 125, (1, .ofNat 1, .ofNat 0), (4, .ofNat 1, .ofNat 0), (0, .ofNat 0, .ofNat 0)), (0, 124, (1, .ofNat 1, .ofNat 0), (3, .ofNat 1, .ofNat 0), (0, .ofNat 0, .ofNat 0))], [(1, [(.ofNat 0, .ofNat 7)]), (2, [(.ofNat 0, .ofNat 7)]), (3, [(.ofNat 0, .ofNat 1)]), (4, [(.ofNat 0, .ofNat 9)]), (5, [(.ofNat 0, .ofNat 9)]), (6, [(.ofNat 0, .ofNat 0)]), (7, [(.ofNat 0, .ofNat 1)]), (8, [(.ofNat 1, .ofNat 18)]), (9, [(.ofNat 1, .ofNat 1000000)]), (10, [(.ofNat 0, .ofNat 999999)])], [((4, .ofNat 1, .ofNat 0), (5, .ofNat 1, .ofNat 0), (8, .ofNat 1, .ofNat 0)), ((5, .ofNat 1, .ofNat 0), (4, .negSucc 0, .ofNat 0), (6, .ofNat 1, .ofNat 0))], []),
  (34, [(0, .inr (.inl [122])), (1, .inl (false, (1, .ofNat 1, .ofNat 0))), (2, .inl (false, (2, .ofNat 1, .ofNat 0))), (3, .inl (false, (0, .ofNat 0, .ofNat 0))), (4, .inl (false, (0, .ofNat 0, .ofNat 0)))], [], [(2, 0, (0, .ofNat 0, .ofNat 0), (0, .ofNat 0, .ofNat 0), (0, .ofNat 0, .ofNat 0)), (2, 1, (6, .ofNat 1, .ofNat 0), (0, .ofNat 0, .ofNat 2), (0, .ofNat 0, .ofNat 0)), (2, 1, (6, .ofNat 1, .ofNat 0), (0, .ofNat 0, .ofNat 0), (0, .ofNat 0, .ofNat 0)), (2, 1, (3, .ofNat 1, .ofNat 0), (7, .ofNat 1, .ofNat 0), (0, .ofNat 0, .ofNat 0)), (0, 124, (2, .ofNat 1, .ofNat 0), (7, .ofNat 1, .ofNat 0), (0, .ofNat 0, .ofNat 0)), (0, 125, (2, .ofNat 1, .ofNat 0), (5, .ofNat 1, .ofNat 0), (0, .ofNat 0, .ofNat 0)), (2, 5, (4, .ofNat 1, .ofNat 0), (5, .ofNat 1, .ofNat 0), (0, .ofNat 0, .ofNat 0)), (0, 125, (2, .ofNat 1, .ofNat 0), (5, .ofNat 1, .ofNat 0), (0, .ofNat 0, .ofNat 0)), (0, 125, (1, .ofNat 1, .ofNat 0), (4, .ofNat 1, .ofNat 0), (0, .ofNat 0, .ofNat 0)), (0, 124, (1, .ofNat 1, .ofNat 0), (3, .ofNat 1, .ofNat 0), (0, .ofNat 0, .ofNat 0))], [(1, [(.ofNat 0, .ofNat 7)]), (2, [(.ofNat 0, .ofNat 7)]), (3, [(.ofNat 0, .ofNat 1)]), (4, [(.ofNat 0, .ofNat 9)]), (5, [(.ofNat 0, .ofNat 9)]), (6, [(.negSucc 8, .negSucc 0), (.ofNat 1, .ofNat 1), (.ofNat 3, .ofNat 9)]), (7, [(.ofNat 0, .ofNat 1)])], [((5, .ofNat 1, .ofNat 0), (4, .negSucc 0, .ofNat 0), (6, .ofNat 1, .ofNat 0))], []),
  (34, [(0, .inr (.inl [122])), (1, .inl (false, (1, .ofNat 1, .ofNat 0))), (2, .inl (false, (2, .ofNat 1, .ofNat 0))), (3, .inl (false, (0, .ofNat 0, .ofNat 0))), (4, .inl (false, (0, .ofNat 0, .ofNat 0)))], [], [(2, 0, (0, .ofNat 0, .ofNat 0), (0, .ofNat 0, .ofNat 0), (0, .ofNat 0, .ofNat 0)), (2, 5, (8, .ofNat 1, .ofNat 0), (0, .ofNat 0, .ofNat 0), (0, .ofNat 0, .ofNat 0)), (0, 125, (2, .ofNat 1, .ofNat 0), (5, .ofNat 1, .ofNat 0), (0, .ofNat 0, .ofNat 0)), (2, 0, (6, .ofNat 1, .ofNat 0), (0, .ofNat 0, .ofNat 2), (0, .ofNat 0, .ofNat 0)), (2, 1, (6, .ofNat 1, .ofNat 0), (0, .ofNat 0, .ofNat 0), (0, .ofNat 0, .ofNat 0)), (2, 1, (3, .ofNat 1, .ofNat 0), (7, .ofNat 1, .ofNat 0), (0, .ofNat 0, .ofNat 0)), (0, 124, (2, .ofNat 1, .ofNat 0), (7, .ofNat 1, .ofNat 0), (0, .ofNat 0, .ofNat 0)), (0, 125, (2, .ofNat 1, .ofNat 0), (5, .ofNat 1, .ofNat 0), (0, .ofNat 0, .ofNat 0)), (2, 5, (4, .ofNat 1, .ofNat 0), (5, .ofNat 1, .ofNat 0), (0, .ofNat 0, .ofNat 0)), (0, 125, (2, .ofNat 1, .ofNat 0), (5, .ofNat 1, .ofNat 0), (0, .ofNat 0, .ofNat 0)), (0, 125, (1, .ofNat 1, .ofNat 0), (4, .ofNat 1, .ofNat 0), (0, .ofNat 0, .ofNat 0)), (0, 124, (1, .ofNat 1, .ofNat 0), (3, .ofNat 1, .ofNat 0), (0, .ofNat 0, .ofNat 0))], [(1, [(.ofNat 0, .ofNat 7)]), (2, [(.ofNat 0, .ofNat 7)]), (3, [(.ofNat 0, .ofNat 1)]), (4, [(.ofNat 0, .ofNat 9)]), (5, [(.ofNat 0, .ofNat 9)]), (6, [(.ofNat 2, .ofNat 2)]), (7, [(.ofNat 0, .ofNat 1)]), (8, [(.ofNat 0, .ofNat 0)])], [((4, .ofNat 1, .ofNat 0), (5, .ofNat 1, .ofNat 0), (8, .ofNat 1, .ofNat 0)), ((5, .ofNat 1, .ofNat 0), (4, .negSucc 0, .ofNat 0), (6, .ofNat 1, .ofNat 0))], []),
  (34, [(0, .inr (.inl [122])), (1, .inl (false, (1, .ofNat 1, .ofNat 0))), (2, .inl (false, (2, .ofNat 1, .ofNat 0))), (3, .inl (false, (0, .ofNat 0, .ofNat 0))), (4, .inl (false, (0, .ofNat 0, .ofNat 0)))], [], [(2, 5, (9, .ofNat 1, .ofNat 0), (10, .ofNat 1, .ofNat 0), (0, .ofNat 0, .ofNat 0)), (0, 123, (2, .ofNat 1, .ofNat 0), (10, .ofNat 1, .ofNat 0), (0, .ofNat 0, .ofNat 0)), (0, 123, (1, .ofNat 1, .ofNat 0), (9, .ofNat 1, .ofNat 0), (0, .ofNat 0, .ofNat 0)), (2, 1, (0, .ofNat 0, .ofNat 1), (0, .ofNat 0, .ofNat 0), (0, .ofNat 0, .ofNat 0)), (2, 4, (8, .ofNat 1, .ofNat 0), (0, .ofNat 0, .ofNat 0), (0, .ofNat 0, .ofNat 0)), (0, 125, (2, .ofNat 1, .ofNat 0), (5, .ofNat 1, .ofNat 0), (0, .ofNat 0, .ofNat 0)), (2, 0, (6, .ofNat 1, .ofNat 0), (0, .ofNat 0, .ofNat 2), (0, .ofNat 0, .ofNat 0)), (2, 1, (6, .ofNat 1, .ofNat 0), (0, .ofNat 0, .ofNat 0), (0, .ofNat 0, .ofNat 0)), (2, 1, (3, .ofNat 1, .ofNat 0), (7, .ofNat 1, .ofNat 0), (0, .ofNat 0, .ofNat 0)), (0, 124, (2, .ofNat 1, .ofNat 0), (7, .ofNat 1, .ofNat 0), (0, .ofNat 0, .ofNat 0)), (0, 125, (2, .ofNat 1, .ofNat 0), (5, .ofNat 1, .ofNat 0), (0, .ofNat 0, .ofNat 0)), (2, 5, (4, .ofNat 1, .ofNat 0), (5, .ofNat 1, .ofNat 0), (0, .ofNat 0, .ofNat 0)), (0, 125, (2, .ofNat 1, .ofNat 0), (5, .ofNat 1, .ofNat 0), (0, .ofNat 0, .ofNat 0)), (0, 125, (1, .ofNat 1, .ofNat 0), (4, .ofNat 1, .ofNat 0), (0, .ofNat 0, .ofNat 0)), (0, 124, (1, .ofNat 1, .ofNat 0), (3, .ofNat 1, .ofNat 0), (0, .ofNat 0, .ofNat 0))], [(1, [(.ofNat 0, .ofNat 7)]), (2, [(.ofNat 0, .ofNat 7)]), (3, [(.ofNat 0, .ofNat 1)]), (4, [(.ofNat 0, .ofNat 9)]), (5, [(.ofNat 0, .ofNat 9)]), (6, [(.ofNat 2, .ofNat 2)]), (7, [(.ofNat 0, .ofNat 1)]), (8, [(.ofNat 1, .ofNat 18)]), (9, [(.ofNat 0, .ofNat 1000000)]), (10, [(.ofNat 0, .ofNat 1000000)])], [((4, .ofNat 1, .ofNat 0), (5, .ofNat 1, .ofNat 0), (8, .ofNat 1, .ofNat 0)), ((5, .ofNat 1, .ofNat 0), (4, .negSucc 0, .ofNat 0), (6, .ofNat 1, .ofNat 0))], []),
  (34, [(0, .inr (.inl [122])), (1, .inl (false, (1, .ofNat 1, .ofNat 0))), (2, .inl (false, (2, .ofNat 1, .ofNat 0))), (3, .inl (false, (0, .ofNat 0, .ofNat 1))), (4, .inl (false, (0, .ofNat 0, .ofNat 0)))], [], [(2, 4, (9, .ofNat 1, .ofNat 0), (10, .ofNat 1, .ofNat 0), (0, .ofNat 0, .ofNat 0)), (0, 123, (2, .ofNat 1, .ofNat 0), (10, .ofNat 1, .ofNat 0), (0, .ofNat 0, .ofNat 0)), (0, 123, (1, .ofNat 1, .ofNat 0), (9, .ofNat 1, .ofNat 0), (0, .ofNat 0, .ofNat 0)), (2, 1, (0, .ofNat 0, .ofNat 1), (0, .ofNat 0, .ofNat 0), (0, .ofNat 0, .ofNat 0)), (2, 4, (8, .ofNat 1, .ofNat 0), (0, .ofNat 0, .ofNat 0), (0, .ofNat 0, .ofNat 0)), (0, 125, (2, .ofNat 1, .ofNat 0), (5, .ofNat 1, .ofNat 0), (0, .ofNat 0, .ofNat 0)), (2, 0, (6, .ofNat 1, .ofNat 0), (0, .ofNat 0, .ofNat 2), (0, .ofNat 0, .ofNat 0)), (2, 1, (6, .ofNat 1, .ofNat 0), (0, .ofNat 0, .ofNat 0), (0, .ofNat 0, .ofNat 0)), (2, 1, (3, .ofNat 1, .ofNat 0), (7, .ofNat 1, .ofNat 0), (0, .ofNat 0, .ofNat 0)), (0, 124, (2, .ofNat 1, .ofNat 0), (7, .ofNat 1, .ofNat 0), (0, .ofNat 0, .ofNat 0)), (0, 125, (2, .ofNat 1, .ofNat 0), (5, .ofNat 1, .ofNat 0), (0, .ofNat 0, .ofNat 0)), (2, 5, (4, .ofNat 1, .ofNat 0), (5, .ofNat 1, .ofNat 0), (0, .ofNat 0, .ofNat 0)), (0, 125, (2, .ofNat 1, .ofNat 0), (5, .ofNat 1, .ofNat 0), (0, .ofNat 0, .ofNat 0)), (0, 125, (1, .ofNat 1, .ofNat 0), (4, .ofNat 1, .ofNat 0), (0, .ofNat 0, .ofNat 0)), (0, 124, (1, .ofNat 1, .ofNat 0), (3, .ofNat 1, .ofNat 0), (0, .ofNat 0, .ofNat 0))], [(1, [(.ofNat 0, .ofNat 7)]), (2, [(.ofNat 0, .ofNat 7)]), (3, [(.ofNat 0, .ofNat 1)]), (4, [(.ofNat 0, .ofNat 9)]), (5, [(.ofNat 0, .ofNat 9)]), (6, [(.ofNat 2, .ofNat 2)]), (7, [(.ofNat 0, .ofNat 1)]), (8, [(.ofNat 1, .ofNat 18)]), (9, [(.ofNat 1, .ofNat 1000000)]), (10, [(.ofNat 0, .ofNat 999999)])], [((4, .ofNat 1, .ofNat 0), (5, .ofNat 1, .ofNat 0), (8, .ofNat 1, .ofNat 0)), ((5, .ofNat 1, .ofNat 0), (4, .negSucc 0, .ofNat 0), (6, .ofNat 1, .ofNat 0))], []),
  (34, [(0, .inr (.inl [122])), (1, .inl (false, (1, .ofNat 1, .ofNat 0))), (2, .inl (false, (2, .ofNat 1, .ofNat 0))), (3, .inl (false, (0, .ofNat 0, .ofNat 0))), (4, .inl (false, (0, .ofNat 0, .ofNat 0)))], [], [(2, 0, (0, .ofNat 0, .ofNat 0), (0, .ofNat 0, .ofNat 0), (0, .ofNat 0, .ofNat 0)), (2, 0, (3, .ofNat 1, .ofNat 0), (7, .ofNat 1, .ofNat 0), (0, .ofNat 0, .ofNat 0)), (0, 124, (2, .ofNat 1, .ofNat 0), (7, .ofNat 1, .ofNat 0), (0, .ofNat 0, .ofNat 0)), (0, 125, (2, .ofNat 1, .ofNat 0), (5, .ofNat 1, .ofNat 0), (0, .ofNat 0, .ofNat 0)), (2, 4, (4, .ofNat 1, .ofNat 0), (5, .ofNat 1, .ofNat 0), (0, .ofNat 0, .ofNat 0)), (0, 125, (2, .ofNat 1, .ofNat 0), (5, .ofNat 1, .ofNat 0), (0, .ofNat 0, .ofNat 0)), (0, 125, (1, .ofNat 1, .ofNat 0), (4, .ofNat 1, .ofNat 0), (0, .ofNat 0, .ofNat 0)), (0, 124, (1, .ofNat 1, .ofNat 0), (3, .ofNat 1, .ofNat 0), (0, .ofNat 0, .ofNat 0))], [(1, [(.ofNat 0, .ofNat 7)]), (2, [(.ofNat 0, .ofNat 7)]), (3, [(.ofNat 0, .ofNat 1)]), (4, [(.ofNat 1, .ofNat 9)]), (5, [(.ofNat 0, .ofNat 8)]), (7, [(.ofNat 0, .ofNat 1)])], [], []),
  (34, [(0, .inr (.inl [122])), (1, .inl (false, (1, .ofNat 1, .ofNat 0))), (2, .inl (false, (2, .ofNat 1, .ofNat 0))), (3, .inl (false, (0, .ofNat 0, .ofNat 0))), (4, .inl (false, (0, .ofNat 0, .ofNat 0)))], [], [(2, 5, (9, .ofNat 1, .ofNat 0), (10, .ofNat 1, .ofNat 0), (0, .ofNat 0, .ofNat 0)), (0, 123, (2, .ofNat 1, .ofNat 0), (10, .ofNat 1, .ofNat 0), (0, .ofNat 0, .ofNat 0)), (0, 123, (1, .ofNat 1, .ofNat 0), (9, .ofNat 1, .ofNat 0), (0, .ofNat 0, .ofNat 0)), (2, 1, (0, .ofNat 0, .ofNat 1), (0, .ofNat 0, .ofNat 0), (0, .ofNat 0, .ofNat 0)), (2, 4, (8, .ofNat 1, .ofNat 0), (0, .ofNat 0, .ofNat 0), (0, .ofNat 0, .ofNat 0)), (0, 125, (2, .ofNat 1, .ofNat 0), (5, .ofNat 1, .ofNat 0), (0, .ofNat 0, .ofNat 0)), (2, 0, (6, .ofNat 1, .ofNat 0), (0, .ofNat 0, .ofNat 0), (0, .ofNat 0, .ofNat 0)), (2, 1, (3, .ofNat 1, .ofNat 0), (7, .ofNat 1, .ofNat 0), (0, .ofNat 0, .ofNat 0)), (0, 124, (2, .ofNat 1, .ofNat 0), (7, .ofNat 1, .ofNat 0), (0, .ofNat 0, .ofNat 0)), (0, 125, (2, .ofNat 1, .ofNat 0), (5, .ofNat 1, .ofNat 0), (0, .ofNat 0, .ofNat 0)), (2, 4, (4, .ofNat 1, .ofNat 0), (5, .ofNat 1, .ofNat 0), (0, .ofNat 0, .ofNat 0)), (0, 125, (2, .ofNat 1, .ofNat 0), (5, .ofNat 1, .ofNat 0), (0, .ofNat 0, .ofNat 0)), (0, 125, (1, .ofNat 1, .ofNat 0), (4, .ofNat 1, .ofNat 0), (0, .ofNat 0, .ofNat 0)), (0, 124, (1, .ofNat 1, .ofNat 0), (3, .ofNat 1, .ofNat 0), (0, .ofNat 0, .ofNat 0))], [(1, [(.ofNat 0, .ofNat 7)]), (2, [(.ofNat 0, .ofNat 7)]), (3, [(.ofNat 0, .ofNat 1)]), (4, [(.ofNat 1, .ofNat 9)]), (5, [(.ofNat 0, .ofNat 8)]), (6, [(.ofNat 0, .ofNat 0)]), (7, [(.ofNat 0, .ofNat 1)]), (8, [(.ofNat 1, .ofNat 17)]), (9, [(.ofNat 0, .ofNat 1000000)]), (10, [(.ofNat 0, .ofNat 1000000)])], [((4, .ofNat 1, .ofNat 0), (5, .ofNat 1, .ofNat 0), (8, .ofNat 1, .ofNat 0)), ((4, .ofNat 1, .ofNat 0), (5, .negSucc 0, .ofNat 0), (6, .ofNat 1, .ofNat 0))], []),
  (34, [(0, .inr (.inl [122])), (1, .inl (false, (1, .ofNat 1, .ofNat 0))), (2, .inl (false, (2, .ofNat 1, .ofNat 0))), (3, .inl (false, (0, .ofNat 0, .ofNat 1))), (4, .inl (false, (0, .ofNat 0, .ofNat 0)))], [], [(2, 4, (9, .ofNat 1, .ofNat 0), (10, .ofNat 1, .ofNat 0), (0, .ofNat 0, .ofNat 0)), (0, 123, (2, .ofNat 1, .ofNat 0), (10, .ofNat 1, .ofNat 0), (0, .ofNat 0, .ofNat 0)), (0, 123, (1, .ofNat 1, .ofNat 0), (9, .ofNat 1, .ofNat 0), (0, .ofNat 0, .ofNat 0)), (2, 1, (0, .ofNat 0, .ofNat 1), (0, .ofNat 0, .ofNat 0), (0, .ofNat 0, .ofNat 0)), (2, 4, (8, .ofNat 1, .ofNat 0), (0, .ofNat 0, .ofNat 0), (0, .ofNat 0, .ofNat 0)), (0, 125, (2, .ofNat 1, .ofNat 0), (5, .ofNat 1, .ofNat 0), (0, .ofNat 0, .ofNat 0)), (2, 0, (6, .ofNat 1, .ofNat 0), (0, .ofNat 0, .ofNat 0), (0, .ofNat 0, .ofNat 0)), (2, 1, (3, .ofNat 1, .ofNat 0), (7, .ofNat 1, .ofNat 0), (0, .ofNat 0, .ofNat 0)), (0, 124, (2, .ofNat 1, .ofNat 0), (7, .ofNat 1, .ofNat 0), (0, .ofNat 0, .ofNat 0)), (0, 125, (2, .ofNat 1, .ofNat 0), (5, .ofNat 1, .ofNat 0), (0, .ofNat 0, .ofNat 0)), (2, 4, (4, .ofNat 1, .ofNat 0), (5, .ofNat 1, .ofNat 0), (0, .ofNat 0, .ofNat 0)), (0, 125, (2, .ofNat 1, .ofNat 0), (5, .ofNat 1, .ofNat 0), (0, .ofNat 0, .ofNat 0)), (0, 125, (1, .ofNat 1, .ofNat 0), (4, .ofNat 1, .ofNat 0), (0, .ofNat 0, .ofNat 0)), (0, 124, (1, .ofNat 1, .ofNat 0), (3, .ofNat 1, .ofNat 0), (0, .ofNat 0, .ofNat 0))], [(1, [(.ofNat 0, .ofNat 7)]), (2, [(.ofNat 0, .ofNat 7)]), (3, [(.ofNat 0, .ofNat 1)]), (4, [(.ofNat 1, .ofNat 9)]), (5, [(.ofNat 0, .ofNat 8)]), (6, [(.ofNat 0, .ofNat 0)]), (7, [(.ofNat 0, .ofNat 1)]), (8, [(.ofNat 1, .ofNat 17)]), (9, [(.ofNat 1, .ofNat 1000000)]), (10, [(.ofNat 0, .ofNat 999999)])], [((4, .ofNat 1, .ofNat 0), (5, .ofNat 1, .ofNat 0), (8, .ofNat 1, .ofNat 0)), ((4, .ofNat 1, .ofNat 0), (5, .negSucc 0, .ofNat 0), (6, .ofNat 1, .ofNat 0))], []),
  (34, [(0, .inr (.inl [122])), (1, .inl (false, (1, .ofNat 1, .ofNat 0))), (2, .inl (false, (2, .ofNat 1, .ofNat 0))), (3, .inl (false, (0, .ofNat 0, .ofNat 0))), (4, .inl (false, (0, .ofNat 0, .ofNat 0)))], [], [(2, 0, (0, .ofNat 0, .ofNat 0), (0, .ofNat 0, .ofNat 0), (0, .ofNat 0, .ofNat 0)), (2, 1, (6, .ofNat 1, .ofNat 0), (0, .ofNat 0, .ofNat 2), (0, .ofNat 0, .ofNat 0)), (2, 1, (6, .ofNat 1, .ofNat 0), (0, .ofNat 0, .ofNat 0), (0, .ofNat 0, .ofNat 0)), (2, 1, (3, .ofNat 1, .ofNat 0), (7, .ofNat 1, .ofNat 0), (0, .ofNat 0, .ofNat 0)), (0, 124, (2, .ofNat 1, .ofNat 0), (7, .ofNat 1, .ofNat 0), (0, .ofNat 0, .ofNat 0)), (0, 125, (2, .ofNat 1, .ofNat 0), (5, .ofNat 1, .ofNat 0), (0, .ofNat 0, .ofNat 0)), (2, 4, (4, .ofNat 1, .ofNat 0), (5, .ofNat 1, .ofNat 0), (0, .ofNat 0, .ofNat 0)), (0, 125, (2, .ofNat 1, .ofNat 0), (5, .ofNat 1, .ofNat 0), (0, .ofNat 0, .ofNat 0)), (0, 125, (1, .ofNat 1, .ofNat 0), (4, .ofNat 1, .ofNat 0), (0, .ofNat 0, .ofNat 0)), (0, 124, (1, .ofNat 1, .ofNat 0), (3, .ofNat 1, .ofNat 0), (0, .ofNat 0, .ofNat 0))], [(1, [(.ofNat 0, .ofNat 7)]), (2, [(.ofNat 0, .ofNat 7)]), (3, [(.ofNat 0, .ofNat 1)]), (4, [(.ofNat 1, .ofNat 9)]), (5, [(.ofNat 0, .ofNat 8)]), (6, [(.negSucc 6, .negSucc 0), (.ofNat 1, .ofNat 1), (.ofNat 3, .ofNat 9)]), (7, [(.ofNat 0, .ofNat 1)])], [((4, .ofNat 1, .ofNat 0), (5, .negSucc 0, .ofNat 0), (6, .ofNat 1, .ofNat 0))], []),
  (34, [(0, .inr (.inl [122])), (1, .inl (false, (1, .ofNat 1, .ofNat 0))), (2, .inl (false, (2, .ofNat 1, .ofNat 0))), (3, .inl (false, (0, .ofNat 0, .ofNat 0))), (4, .inl (false, (0, .ofNat 0, .ofNat 0)))], [], [(2, 5, (9, .ofNat 1, .ofNat 0), (10, .ofNat 1, .ofNat 0), (0, .ofNat 0, .ofNat 0)), (0, 123, (2, .ofNat 1, .ofNat 0), (10, .ofNat 1, .ofNat 0), (0, .ofNat 0, .ofNat 0)), (0, 123, (1, .ofNat 1, .ofNat 0), (9, .ofNat 1, .ofNat 0), (0, .ofNat 0, .ofNat 0)), (2, 1, (0, .ofNat 0, .ofNat 1), (0, .ofNat 0, .ofNat 0), (0, .ofNat 0, .ofNat 0)), (2, 4, (8, .ofNat 1, .ofNat 0), (0, .ofNat 0, .ofNat 0), (0, .ofNat 0, .ofNat 0)), (0, 125, (2, .ofNat 1, .ofNat 0), (5, .ofNat 1, .ofNat 0), (0, .ofNat 0, .ofNat 0)), (2, 0, (6, .ofNat 1, .ofNat 0), (0, .ofNat 0, .ofNat 2), (0, .ofNat 0, .ofNat 0)), (2, 1, (6, .ofNat 1, .ofNat 0), (0, .ofNat 0, .ofNat 0), (0, .ofNat 0, .ofNat 0)), (2, 1, (3, .ofNat 1, .ofNat 0), (7, .ofNat 1, .ofNat 0), (0, .ofNat 0, .ofNat 0)), (0, 124, (2, .ofNat 1, .ofNat 0), (7, .ofNat 1, .ofNat 0), (0, .ofNat 0, .ofNat 0)), (0, 125, (2, .ofNat 1, .ofNat 0), (5, .ofNat 1, .ofNat 0), (0, .ofNat 0, .ofNat 0)), (2, 4, (4, .ofNat 1, .ofNat 0), (5, .ofNat 1, .ofNat 0), (0, .ofNat 0, .ofNat 0)), (0, 125, (2, .ofNat 1, .ofNat 0), (5, .ofNat 1, .ofNat 0), (0, .ofNat 0, .ofNat 0)), (0, 125, (1, .ofNat 1, .ofNat 0), (4, .ofNat 1, .ofNat 0), (0, .ofNat 0, .ofNat 0)), (0, 124, (1, .ofNat 1, .ofNat 0), (3, .ofNat 1, .ofNat 0), (0, .ofNat 0, .ofNat 0))], [(1, [(.ofNat 0, .ofNat 7)]), (2, [(.ofNat 0, .ofNat 7)]), (3, [(.ofNat 0, .ofNat 1)]), (4, [(.ofNat 1, .ofNat 9)]), (5, [(.ofNat 0, .ofNat 8)]), (6, [(.ofNat 2, .ofNat 2)]), (7, [(.ofNat 0, .ofNat 1)]), (8, [(.ofNat 1, .ofNat 17)]), (9, [(.ofNat 0, .ofNat 1000000)]), (10, [(.ofNat 0, .ofNat 1000000)])], [((4, .ofNat 1, .ofNat 0), (5, .ofNat 1, .ofNat 0), (8, .ofNat 1, .ofNat 0)), ((4, .ofNat 1, .ofNat 0), (5, .negSucc 0, .ofNat 0), (6, .ofNat 1, .ofNat 0))], []),
  (34, [(0, .inr (.inl [122])), (1, .inl (false, (1, .ofNat 1, .ofNat 0))), (2, .inl (false, (2, .ofNat 1, .ofNat 0))), (3, .inl (false, (0, .ofNat 0, .ofNat 1))), (4, .inl (false, (0, .ofNat 0, .ofNat 0)))], [], [(2, 4, (9, .ofNat 1, .ofNat 0), (10, .ofNat 1, .ofNat 0), (0, .ofNat 0, .ofNat 0)), (0, 123, (2, .ofNat 1, .ofNat 0), (10, .ofNat 1, .ofNat 0), (0, .ofNat 0, .ofNat 0)), (0, 123, (1, .ofNat 1, .ofNat 0), (9, .ofNat 1, .ofNat 0), (0, .ofNat 0, .ofNat 0)), (2, 1, (0, .ofNat 0, .ofNat 1), (0, .ofNat 0, .ofNat 0), (0, .ofNat 0, .ofNat 0)), (2, 4, (8, .ofNat 1, .ofNat 0), (0, .ofNat 0, .ofNat 0), (0, .ofNat 0, .ofNat 0)), (0, 125, (2, .ofNat 1, .ofNat 0), (5, .ofNat 1, .ofNat 0), (0, .ofNat 0, .ofNat 0)), (2, 0, (6, .ofNat 1, .ofNat 0), (0, .ofNat 0, .ofNat 2), (0, .ofNat 0, .ofNat 0)), (2, 1, (6, .ofNat 1, .ofNat 0), (0, .ofNat 0, .ofNat 0), (0, .ofNat 0, .ofNat 0)), (2, 1, (3, .ofNat 1, .ofNat 0), (7, .ofNat 1, .ofNat 0), (0, .ofNat 0, .ofNat 0)), (0, 124, (2, .ofNat 1, .ofNat 0), (7, .ofNat 1, .ofNat 0), (0, .ofNat 0, .ofNat 0)), (0, 125, (2, .ofNat 1, .ofNat 0), (5, .ofNat 1, .ofNat 0), (0, .ofNat 0, .ofNat 0)), (2, 4, (4, .ofNat 1, .ofNat 0), (5, .ofNat 1, .ofNat 0), (0, .ofNat 0, .ofNat 0)), (0, 125, (2, .ofNat 1, .ofNat 0), (5, .ofNat 1, .ofNat 0), (0, .ofNat 0, .ofNat 0)), (0, 125, (1, .ofNat 1, .ofNat 0), (4, .ofNat 1, .ofNat 0), (0, .ofNat 0, .ofNat 0)), (0, 124, (1, .ofNat 1, .ofNat 0), (3, .ofNat 1, .ofNat 0), (0, .ofNat 0, .ofNat 0))], [(1, [(.ofNat 0, .ofNat 7)]), (2, [(.ofNat 0, .ofNat 7)]), (3, [(.ofNat 0, .ofNat 1)]), (4, [(.ofNat 1, .ofNat 9)]), (5, [(.ofNat 0, .ofNat 8)]), (6, [(.ofNat 2, .ofNat 2)]), (7, [(.ofNat 0, .ofNat 1)]), (8, [(.ofNat 1, .ofNat 17)]), (9, [(.ofNat 1, .ofNat 1000000)]), (10, [(.ofNat 0, .ofNat 999999)])], [((4, .ofNat 1, .ofNat 0), (5, .ofNat 1, .ofNat 0), (8, .ofNat 1, .ofNat 0)), ((4, .ofNat 1, .ofNat 0), (5, .negSucc 0, .ofNat 0), (6, .ofNat 1, .ofNat 0))], [])]
set_option maxRecDepth 1000000 in
theorem sg_if_a_g : sg_go [] [33] 3000 200 0 2 3 [(0, [(.ofNat 0, .ofNat 0)]), (1, [(.ofNat 0, .ofNat 7)]), (2, [(.ofNat 0, .ofNat 7)])] [] [] [] [(0, .inr (.inl [122])), (1, .inl (false, (1, .ofNat 1, .ofNat 0))), (2, .inl (false, (2, .ofNat 1, .ofNat 0)))] [] [] sg_if_a_Z = true := by decide +kernel
set_option maxRecDepth 100000 in
theorem sg_if_a {Q : Option Value × am_S → Prop} {d : Nat} {S : am_S} {L : am_L} {x1 x2 : Int} (hd : 2 ≤ d) (hP : ax_P0 none S) (l0 : lc L 0 122) (l1 : li L 1 x1) (l2 : li L 2 x2) (b1 : (0 ≤ x1 ∧ x1 ≤ 7)) (b2 : (0 ≤ x2 ∧ x2 ≤ 7))
    (k0 : ∀ (x3 x4 x5 x7 : Int) (L' : am_L), rd S 124 x1 = x3 → rd S 125 x1 = x4 → rd S 125 x2 = x5 → x4 ≤ x5 → rd S 124 x2 = x7 → x3 = x7 → (0 ≤ x1 ∧ x1 ≤ 7) → (0 ≤ x2 ∧ x2 ≤ 7) → (0 ≤ x3 ∧ x3 ≤ 1) → (0 ≤ x4 ∧ x4 ≤ 9) → (0 ≤ x5 ∧ x5 ≤ 9) → (0 ≤ x7 ∧ x7 ≤ 1) → lc L' 0 122 → li L' 1 x1 → li L' 2 x2 → li L' 3 0 → li L' 4 0 → am_V none d 200 33 L' ([]) S Q)
    (k1 : ∀ (x3 x4 x5 x6 x7 x8 : Int) (L' : am_L), rd S 124 x1 = x3 → rd S 125 x1 = x4 → rd S 125 x2 = x5 → x4 ≤ x5 → rd S 124 x2 = x7 → x3 ≠ x7 → x6 = 0 → x8 ≤ 0 → (0 ≤ x1 ∧ x1 ≤ 7) → (0 ≤ x2 ∧ x2 ≤ 7) → (0 ≤ x3 ∧ x3 ≤ 1) → (0 ≤ x4 ∧ x4 ≤ 9) → (0 ≤ x5 ∧ x5 ≤ 9) → (0 ≤ x6 ∧ x6 ≤ 0) → (0 ≤ x7 ∧ x7 ≤ 1) → (0 ≤ x8 ∧ x8 ≤ 0) → x4 + x5 = x8 → x5 + ((-1) * x4 + 0) = x6 → lc L' 0 122 → li L' 1 x1 → li L' 2 x2 → li L' 3 0 → li L' 4 0 → am_V none d 200 33 L' ([]) S Q)
    (k2 : ∀ (x3 x4 x5 x6 x7 x8 x9 x10 : Int) (L' : am_L), rd S 124 x1 = x3 → rd S 125 x1 = x4 → rd S 125 x2 = x5 → x4 ≤ x5 → rd S 124 x2 = x7 → x3 ≠ x7 → x6 = 0 → 0 < x8 → rd S 123 x1 = x9 → rd S 123 x2 = x10 → x9 ≤ x10 → (0 ≤ x1 ∧ x1 ≤ 7) → (0 ≤ x2 ∧ x2 ≤ 7) → (0 ≤ x3 ∧ x3 ≤ 1) → (0 ≤ x4 ∧ x4 ≤ 9) → (0 ≤ x5 ∧ x5 ≤ 9) → (0 ≤ x6 ∧ x6 ≤ 0) → (0 ≤ x7 ∧ x7 ≤ 1) → (1 ≤ x8 ∧ x8 ≤ 18) → (0 ≤ x9 ∧ x9 ≤ 1000000) → (0 ≤ x10 ∧ x10 ≤ 1000000) → x4 + x5 = x8 → x5 + ((-1) * x4 + 0) = x6 → lc L' 0 122 → li L' 1 x1 → li L' 2 x2 → li L' 3 0 → li L' 4 0 → am_V none d 200 33 L' ([]) S Q)
    (k3 : ∀ (x3 x4 x5 x6 x7 x8 x9 x10 : Int) (L' : am_L), rd S 124 x1 = x3 → rd S 125 x1 = x4 → rd S 125 x2 = x5 → x4 ≤ x5 → rd S 124 x2 = x7 → x3 ≠ x7 → x6 = 0 → 0 < x8 → rd S 123 x1 = x9 → rd S 123 x2 = x10 → x10 < x9 → (0 ≤ x1 ∧ x1 ≤ 7) → (0 ≤ x2 ∧ x2 ≤ 7) → (0 ≤ x3 ∧ x3 ≤ 1) → (0 ≤ x4 ∧ x4 ≤ 9) → (0 ≤ x5 ∧ x5 ≤ 9) → (0 ≤ x6 ∧ x6 ≤ 0) → (0 ≤ x7 ∧ x7 ≤ 1) → (1 ≤ x8 ∧ x8 ≤ 18) → (1 ≤ x9 ∧ x9 ≤ 1000000) → (0 ≤ x10 ∧ x10 ≤ 999999) → x4 + x5 = x8 → x5 + ((-1) * x4 + 0) = x6 → lc L' 0 122 → li L' 1 x1 → li L' 2 x2 → li L' 3 1 → li L' 4 0 → am_V none d 200 33 L' ([]) S Q)
    (k4 : ∀ (x3 x4 x5 x6 x7 : Int) (L' : am_L), rd S 124 x1 = x3 → rd S 125 x1 = x4 → rd S 125 x2 = x5 → x4 ≤ x5 → rd S 124 x2 = x7 → x3 ≠ x7 → x6 ≠ 0 → x6 ≠ 2 → (0 ≤ x1 ∧ x1 ≤ 7) → (0 ≤ x2 ∧ x2 ≤ 7) → (0 ≤ x3 ∧ x3 ≤ 1) → (0 ≤ x4 ∧ x4 ≤ 9) → (0 ≤ x5 ∧ x5 ≤ 9) → ((-9) ≤ x6 ∧ x6 ≤ (-1)) ∨ (1 ≤ x6 ∧ x6 ≤ 1) ∨ (3 ≤ x6 ∧ x6 ≤ 9) → (0 ≤ x7 ∧ x7 ≤ 1) → x5 + ((-1) * x4 + 0) = x6 → lc L' 0 122 → li L' 1 x1 → li L' 2 x2 → li L' 3 0 → li L' 4 0 → am_V none d 200 33 L' ([]) S Q)
    (k5 : ∀ (x3 x4 x5 x6 x7 x8 : Int) (L' : am_L), rd S 124 x1 = x3 → rd S 125 x1 = x4 → rd S 125 x2 = x5 → x4 ≤ x5 → rd S 124 x2 = x7 → x3 ≠ x7 → x6 ≠ 0 → x6 = 2 → x8 ≤ 0 → (0 ≤ x1 ∧ x1 ≤ 7) → (0 ≤ x2 ∧ x2 ≤ 7) → (0 ≤ x3 ∧ x3 ≤ 1) → (0 ≤ x4 ∧ x4 ≤ 9) → (0 ≤ x5 ∧ x5 ≤ 9) → (2 ≤ x6 ∧ x6 ≤ 2) → (0 ≤ x7 ∧ x7 ≤ 1) → (0 ≤ x8 ∧ x8 ≤ 0) → x4 + x5 = x8 → x5 + ((-1) * x4 + 0) = x6 → lc L' 0 122 → li L' 1 x1 → li L' 2 x2 → li L' 3 0 → li L' 4 0 → am_V none d 200 33 L' ([]) S Q)
    (k6 : ∀ (x3 x4 x5 x6 x7 x8 x9 x10 : Int) (L' : am_L), rd S 124 x1 = x3 → rd S 125 x1 = x4 → rd S 125 x2 = x5 → x4 ≤ x5 → rd S 124 x2 = x7 → x3 ≠ x7 → x6 ≠ 0 → x6 = 2 → 0 < x8 → rd S 123 x1 = x9 → rd S 123 x2 = x10 → x9 ≤ x10 → (0 ≤ x1 ∧ x1 ≤ 7) → (0 ≤ x2 ∧ x2 ≤ 7) → (0 ≤ x3 ∧ x3 ≤ 1) → (0 ≤ x4 ∧ x4 ≤ 9) → (0 ≤ x5 ∧ x5 ≤ 9) → (2 ≤ x6 ∧ x6 ≤ 2) → (0 ≤ x7 ∧ x7 ≤ 1) → (1 ≤ x8 ∧ x8 ≤ 18) → (0 ≤ x9 ∧ x9 ≤ 1000000) → (0 ≤ x10 ∧ x10 ≤ 1000000) → x4 + x5 = x8 → x5 + ((-1) * x4 + 0) = x6 → lc L' 0 122 → li L' 1 x1 → li L' 2 x2 → li L' 3 0 → li L' 4 0 → am_V none d 200 33 L' ([]) S Q)
    (k7 : ∀ (x3 x4 x5 x6 x7 x8 x9 x10 : Int) (L' : am_L), rd S 124 x1 = x3 → rd S 125 x1 = x4 → rd S 125 x2 = x5 → x4 ≤ x5 → rd S 124 x2 = x7 → x3 ≠ x7 → x6 ≠ 0 → x6 = 2 → 0 < x8 → rd S 123 x1 = x9 → rd S 123 x2 = x10 → x10 < x9 → (0 ≤ x1 ∧ x1 ≤ 7) → (0 ≤ x2 ∧ x2 ≤ 7) → (0 ≤ x3 ∧ x3 ≤ 1) → (0 ≤ x4 ∧ x4 ≤ 9) → (0 ≤ x5 ∧ x5 ≤ 9) → (2 ≤ x6 ∧ x6 ≤ 2) → (0 ≤ x7 ∧ x7 ≤ 1) → (1 ≤ x8 ∧ x8 ≤ 18) → (1 ≤ x9 ∧ x9 ≤ 1000000) → (0 ≤ x10 ∧ x10 ≤ 999999) → x4 + x5 = x8 → x5 + ((-1) * x4 + 0) = x6 → lc L' 0 122 → li L' 1 x1 → li L' 2 x2 → li L' 3 1 → li L' 4 0 → am_V none d 200 33 L' ([]) S Q)
    (k8 : ∀ (x3 x4 x5 x7 : Int) (L' : am_L), rd S 124 x1 = x3 → rd S 125 x1 = x4 → rd S 125 x2 = x5 → x5 < x4 → rd S 124 x2 = x7 → x3 = x7 → (0 ≤ x1 ∧ x1 ≤ 7) → (0 ≤ x2 ∧ x2 ≤ 7) → (0 ≤ x3 ∧ x3 ≤ 1) → (1 ≤ x4 ∧ x4 ≤ 9) → (0 ≤ x5 ∧ x5 ≤ 8) → (0 ≤ x7 ∧ x7 ≤ 1) → lc L' 0 122 → li L' 1 x1 → li L' 2 x2 → li L' 3 0 → li L' 4 0 → am_V none d 200 33 L' ([]) S Q)
    (k9 : ∀ (x3 x4 x5 x6 x7 x8 x9 x10 : Int) (L' : am_L), rd S 124 x1 = x3 → rd S 125 x1 = x4 → rd S 125 x2 = x5 → x5 < x4 → rd S 124 x2 = x7 → x3 ≠ x7 → x6 = 0 → 0 < x8 → rd S 123 x1 = x9 → rd S 123 x2 = x10 → x9 ≤ x10 → (0 ≤ x1 ∧ x1 ≤ 7) → (0 ≤ x2 ∧ x2 ≤ 7) → (0 ≤ x3 ∧ x3 ≤ 1) → (1 ≤ x4 ∧ x4 ≤ 9) → (0 ≤ x5 ∧ x5 ≤ 8) → (0 ≤ x6 ∧ x6 ≤ 0) → (0 ≤ x7 ∧ x7 ≤ 1) → (1 ≤ x8 ∧ x8 ≤ 17) → (0 ≤ x9 ∧ x9 ≤ 1000000) → (0 ≤ x10 ∧ x10 ≤ 1000000) → x4 + x5 = x8 → x4 + ((-1) * x5 + 0) = x6 → lc L' 0 122 → li L' 1 x1 → li L' 2 x2 → li L' 3 0 → li L' 4 0 → am_V none d 200 33 L' ([]) S Q)
    (k10 : ∀ (x3 x4 x5 x6 x7 x8 x9 x10 : Int) (L' : am_L), rd S 124 x1 = x3 → rd S 125 x1 = x4 → rd S 125 x2 = x5 → x5 < x4 → rd S 124 x2 = x7 → x3 ≠ x7 → x6 = 0 → 0 < x8 → rd S 123 x1 = x9 → rd S 123 x2 = x10 → x10 < x9 → (0 ≤ x1 ∧ x1 ≤ 7) → (0 ≤ x2 ∧ x2 ≤ 7) → (0 ≤ x3 ∧ x3 ≤ 1) → (1 ≤ x4 ∧ x4 ≤ 9) → (0 ≤ x5 ∧ x5 ≤ 8) → (0 ≤ x6 ∧ x6 ≤ 0) → (0 ≤ x7 ∧ x7 ≤ 1) → (1 ≤ x8 ∧ x8 ≤ 17) → (1 ≤ x9 ∧ x9 ≤ 1000000) → (0 ≤ x10 ∧ x10 ≤ 999999) → x4 + x5 = x8 → x4 + ((-1) * x5 + 0) = x6 → lc L' 0 122 → li L' 1 x1 → li L' 2 x2 → li L' 3 1 → li L' 4 0 → am_V none d 200 33 L' ([]) S Q)
    (k11 : ∀ (x3 x4 x5 x6 x7 : Int) (L' : am_L), rd S 124 x1 = x3 → rd S 125 x1 = x4 → rd S 125 x2 = x5 → x5 < x4 → rd S 124 x2 = x7 → x3 ≠ x7 → x6 ≠ 0 → x6 ≠ 2 → (0 ≤ x1 ∧ x1 ≤ 7) → (0 ≤ x2 ∧ x2 ≤ 7) → (0 ≤ x3 ∧ x3 ≤ 1) → (1 ≤ x4 ∧ x4 ≤ 9) → (0 ≤ x5 ∧ x5 ≤ 8) → ((-7) ≤ x6 ∧ x6 ≤ (-1)) ∨ (1 ≤ x6 ∧ x6 ≤ 1) ∨ (3 ≤ x6 ∧ x6 ≤ 9) → (0 ≤ x7 ∧ x7 ≤ 1) → x4 + ((-1) * x5 + 0) = x6 → lc L' 0 122 → li L' 1 x1 → li L' 2 x2 → li L' 3 0 → li L' 4 0 → am_V none d 200 33 L' ([]) S Q)
    (k12 : ∀ (x3 x4 x5 x6 x7 x8 x9 x10 : Int) (L' : am_L), rd S 124 x1 = x3 → rd S 125 x1 = x4 → rd S 125 x2 = x5 → x5 < x4 → rd S 124 x2 = x7 → x3 ≠ x7 → x6 ≠ 0 → x6 = 2 → 0 < x8 → rd S 123 x1 = x9 → rd S 123 x2 = x10 → x9 ≤ x10 → (0 ≤ x1 ∧ x1 ≤ 7) → (0 ≤ x2 ∧ x2 ≤ 7) → (0 ≤ x3 ∧ x3 ≤ 1) → (1 ≤ x4 ∧ x4 ≤ 9) → (0 ≤ x5 ∧ x5 ≤ 8) → (2 ≤ x6 ∧ x6 ≤ 2) → (0 ≤ x7 ∧ x7 ≤ 1) → (1 ≤ x8 ∧ x8 ≤ 17) → (0 ≤ x9 ∧ x9 ≤ 1000000) → (0 ≤ x10 ∧ x10 ≤ 1000000) → x4 + x5 = x8 → x4 + ((-1) * x5 + 0) = x6 → lc L' 0 122 → li L' 1 x1 → li L' 2 x2 → li L' 3 0 → li L' 4 0 → am_V none d 200 33 L' ([]) S Q)
    (k13 : ∀ (x3 x4 x5 x6 x7 x8 x9 x10 : Int) (L' : am_L), rd S 124 x1 = x3 → rd S 125 x1 = x4 → rd S 125 x2 = x5 → x5 < x4 → rd S 124 x2 = x7 → x3 ≠ x7 → x6 ≠ 0 → x6 = 2 → 0 < x8 → rd S 123 x1 = x9 → rd S 123 x2 = x10 → x10 < x9 → (0 ≤ x1 ∧ x1 ≤ 7) → (0 ≤ x2 ∧ x2 ≤ 7) → (0 ≤ x3 ∧ x3 ≤ 1) → (1 ≤ x4 ∧ x4 ≤ 9) → (0 ≤ x5 ∧ x5 ≤ 8) → (2 ≤ x6 ∧ x6 ≤ 2) → (0 ≤ x7 ∧ x7 ≤ 1) → (1 ≤ x8 ∧ x8 ≤ 17) → (1 ≤ x9 ∧ x9 ≤ 1000000) → (0 ≤ x10 ∧ x10 ≤ 999999) → x4 + x5 = x8 → x4 + ((-1) * x5 + 0) = x6 → lc L' 0 122 → li L' 1 x1 → li L' 2 x2 → li L' 3 1 → li L' 4 0 → am_V none d 200 33 L' ([]) S Q) : am_V none d 200 0 L ([]) S Q := by
  refine sg_use sg_if_a_g hd hP (sg_xs [0, x1, x2]) ⟨⟨Int.le_refl 0, Int.le_refl 0⟩, b1, b2, trivial⟩ trivial trivial trivial ⟨l0, l1, l2, trivial⟩ trivial ?_
  intro z hz x' L' st' S' hx hP' hW hL' hs' hJ hE' hT' hD'
  have q1 : x' 1 = x1 := hx 1 (by decide)
  subst q1
  have q2 : x' 2 = x2 := hx 2 (by decide)
  subst q2
  have eS : S' = S := hW.1 rfl
  subst eS
  simp only [sg_if_a_Z, List.mem_cons, List.not_mem_nil, or_false] at hz
  rcases hz with rfl | rfl | rfl | rfl | rfl | rfl | rfl | rfl | rfl | rfl | rfl | rfl | rfl | rfl
  · obtain ⟨f0, f1, f2, f3, -, f5, f6, -, hσ⟩ := hJ
    obtain ⟨e0, e1, e2, e3, e4, e5, -⟩ := hE'
    obtain ⟨p0, p1, p2, p3, p4, -⟩ := hL'
    obtain rfl := sg_tn hs'
    exact k0 (x' 3) (x' 4) (x' 5) (x' 7) L' f0 f1 f2 f3 f5 f6 e0 e1 e2 e3 e4 e5 p0 p1 p2 p3 p4
  · obtain ⟨f0, f1, f2, f3, -, f5, f6, f7, -, f9, -, hσ⟩ := hJ
    obtain ⟨e0, e1, e2, e3, e4, e5, e6, e7, -⟩ := hE'
    obtain ⟨t0, t1, -⟩ := hT'
    obtain ⟨p0, p1, p2, p3, p4, -⟩ := hL'
    obtain rfl := sg_tn hs'
    exact k1 (x' 3) (x' 4) (x' 5) (x' 6) (x' 7) (x' 8) L' f0 f1 f2 f3 f5 f6 f7 f9 e0 e1 e2 e3 e4 e5 e6 e7 t0 t1 p0 p1 p2 p3 p4
  · obtain ⟨f0, f1, f2, f3, -, f5, f6, f7, -, f9, -, f11, f12, f13, hσ⟩ := hJ
    obtain ⟨e0, e1, e2, e3, e4, e5, e6, e7, e8, e9, -⟩ := hE'
    obtain ⟨t0, t1, -⟩ := hT'
    obtain ⟨p0, p1, p2, p3, p4, -⟩ := hL'
    obtain rfl := sg_tn hs'
    exact k2 (x' 3) (x' 4) (x' 5) (x' 6) (x' 7) (x' 8) (x' 9) (x' 10) L' f0 f1 f2 f3 f5 f6 f7 f9 f11 f12 f13 e0 e1 e2 e3 e4 e5 e6 e7 e8 e9 t0 t1 p0 p1 p2 p3 p4
  · obtain ⟨f0, f1, f2, f3, -, f5, f6, f7, -, f9, -, f11, f12, f13, hσ⟩ := hJ
    obtain ⟨e0, e1, e2, e3, e4, e5, e6, e7, e8, e9, -⟩ := hE'
    obtain ⟨t0, t1, -⟩ := hT'
    obtain ⟨p0, p1, p2, p3, p4, -⟩ := hL'
    obtain rfl := sg_tn hs'
    exact k3 (x' 3) (x' 4) (x' 5) (x' 6) (x' 7) (x' 8) (x' 9) (x' 10) L' f0 f1 f2 f3 f5 f6 f7 f9 f11 f12 f13 e0 e1 e2 e3 e4 e5 e6 e7 e8 e9 t0 t1 p0 p1 p2 p3 p4
  · obtain ⟨f0, f1, f2, f3, -, f5, f6, f7, f8, -, hσ⟩ := hJ
    obtain ⟨e0, e1, e2, e3, e4, e5, e6, -⟩ := hE'
    obtain ⟨t0, -⟩ := hT'
    obtain ⟨p0, p1, p2, p3, p4, -⟩ := hL'
    obtain rfl := sg_tn hs'
    exact k4 (x' 3) (x' 4) (x' 5) (x' 6) (x' 7) L' f0 f1 f2 f3 f5 f6 f7 f8 e0 e1 e2 e3 e4 e5 e6 t0 p0 p1 p2 p3 p4
  · obtain ⟨f0, f1, f2, f3, -, f5, f6, f7, f8, -, f10, -, hσ⟩ := hJ
    obtain ⟨e0, e1, e2, e3, e4, e5, e6, e7, -⟩ := hE'
    obtain ⟨t0, t1, -⟩ := hT'
    obtain ⟨p0, p1, p2, p3, p4, -⟩ := hL'
    obtain rfl := sg_tn hs'
    exact k5 (x' 3) (x' 4) (x' 5) (x' 6) (x' 7) (x' 8) L' f0 f1 f2 f3 f5 f6 f7 f8 f10 e0 e1 e2 e3 e4 e5 e6 e7 t0 t1 p0 p1 p2 p3 p4
  · obtain ⟨f0, f1, f2, f3, -, f5, f6, f7, f8, -, f10, -, f12, f13, f14, hσ⟩ := hJ
    obtain ⟨e0, e1, e2, e3, e4, e5, e6, e7, e8, e9, -⟩ := hE'
    obtain ⟨t0, t1, -⟩ := hT'
    obtain ⟨p0, p1, p2, p3, p4, -⟩ := hL'
    obtain rfl := sg_tn hs'
    exact k6 (x' 3) (x' 4) (x' 5) (x' 6) (x' 7) (x' 8) (x' 9) (x' 10) L' f0 f1 f2 f3 f5 f6 f7 f8 f10 f12 f13 f14 e0 e1 e2 e3 e4 e5 e6 e7 e8 e9 t0 t1 p0 p1 p2 p3 p4
  · obtain ⟨f0, f1, f2, f3, -, f5, f6, f7, f8, -, f10, -, f12, f13, f14, hσ⟩ := hJ
    obtain ⟨e0, e1, e2, e3, e4, e5, e6, e7, e8, e9, -⟩ := hE'
    obtain ⟨t0, t1, -⟩ := hT'
    obtain ⟨p0, p1, p2, p3, p4, -⟩ := hL'
    obtain rfl := sg_tn hs'
    exact k7 (x' 3) (x' 4) (x' 5) (x' 6) (x' 7) (x' 8) (x' 9) (x' 10) L' f0 f1 f2 f3 f5 f6 f7 f8 f10 f12 f13 f14 e0 e1 e2 e3 e4 e5 e6 e7 e8 e9 t0 t1 p0 p1 p2 p3 p4
  · obtain ⟨f0, f1, f2, f3, -, f5, f6, -, hσ⟩ := hJ
    obtain ⟨e0, e1, e2, e3, e4, e5, -⟩ := hE'
    obtain ⟨p0, p1, p2, p3, p4, -⟩ := hL'
    obtain rfl := sg_tn hs'
    exact k8 (x' 3) (x' 4) (x' 5) (x' 7) L' f0 f1 f2 f3 f5 f6 e0 e1 e2 e3 e4 e5 p0 p1 p2 p3 p4
  · obtain ⟨f0, f1, f2, f3, -, f5, f6, f7, -, f9, -, f11, f12, f13, hσ⟩ := hJ
    obtain ⟨e0, e1, e2, e3, e4, e5, e6, e7, e8, e9, -⟩ := hE'
    obtain ⟨t0, t1, -⟩ := hT'
    obtain ⟨p0, p1, p2, p3, p4, -⟩ := hL'
    obtain rfl := sg_tn hs'
    exact k9 (x' 3) (x' 4) (x' 5) (x' 6) (x' 7) (x' 8) (x' 9) (x' 10) L' f0 f1 f2 f3 f5 f6 f7 f9 f11 f12 f13 e0 e1 e2 e3 e4 e5 e6 e7 e8 e9 t0 t1 p0 p1 p2 p3 p4
  · obtain ⟨f0, f1, f2, f3, -, f5, f6, f7, -, f9, -, f11, f12, f13, hσ⟩ := hJ
    obtain ⟨e0, e1, e2, e3, e4, e5, e6, e7, e8, e9, -⟩ := hE'
    obtain ⟨t0, t1, -⟩ := hT'
    obtain ⟨p0, p1, p2, p3, p4, -⟩ := hL'
    obtain rfl := sg_tn hs'
    exact k10 (x' 3) (x' 4) (x' 5) (x' 6) (x' 7) (x' 8) (x' 9) (x' 10) L' f0 f1 f2 f3 f5 f6 f7 f9 f11 f12 f13 e0 e1 e2 e3 e4 e5 e6 e7 e8 e9 t0 t1 p0 p1 p2 p3 p4
  · obtain ⟨f0, f1, f2, f3, -, f5, f6, f7, f8, -, hσ⟩ := hJ
    obtain ⟨e0, e1, e2, e3, e4, e5, e6, -⟩ := hE'
    obtain ⟨t0, -⟩ := hT'
    obtain ⟨p0, p1, p2, p3, p4, -⟩ := hL'
    obtain rfl := sg_tn hs'
    exact k11 (x' 3) (x' 4) (x' 5) (x' 6) (x' 7) L' f0 f1 f2 f3 f5 f6 f7 f8 e0 e1 e2 e3 e4 e5 e6 t0 p0 p1 p2 p3 p4
  · obtain ⟨f0, f1, f2, f3, -, f5, f6, f7, f8, -, f10, -, f12, f13, f14, hσ⟩ := hJ
    obtain ⟨e0, e1, e2, e3, e4, e5, e6, e7, e8, e9, -⟩ := hE'
    obtain ⟨t0, t1, -⟩ := hT'
    obtain ⟨p0, p1, p2, p3, p4, -⟩ := hL'
    obtain rfl := sg_tn hs'
    exact k12 (x' 3) (x' 4) (x' 5) (x' 6) (x' 7) (x' 8) (x' 9) (x' 10) L' f0 f1 f2 f3 f5 f6 f7 f8 f10 f12 f13 f14 e0 e1 e2 e3 e4 e5 e6 e7 e8 e9 t0 t1 p0 p1 p2 p3 p4
  · obtain ⟨f0, f1, f2, f3, -, f5, f6, f7, f8, -, f10, -, f12, f13, f14, hσ⟩ := hJ
    obtain ⟨e0, e1, e2, e3, e4, e5, e6, e7, e8, e9, -⟩ := hE'
    obtain ⟨t0, t1, -⟩ := hT'
    obtain ⟨p0, p1, p2, p3, p4, -⟩ := hL'
    obtain rfl := sg_tn hs'
    exact k13 (x' 3) (x' 4) (x' 5) (x' 6) (x' 7) (x' 8) (x' 9) (x' 10) L' f0 f1 f2 f3 f5 f6 f7 f8 f10 f12 f13 f14 e0 e1 e2 e3 e4 e5 e6 e7 e8 e9 t0 t1 p0 p1 p2 p3 p4
def sg_if_b_Z : List sg_z := [(0, [], [.inl (false, (3, .ofNat 1, .ofNat 0))], [(2, 3, (4, .ofNat 1, .ofNat 0), (5, .ofNat 1, .ofNat 0), (0, .ofNat 0, .ofNat 0)), (0, 122, (0, .ofNat 0, .ofNat 5), (5, .ofNat 1, .ofNat 0), (0, .ofNat 0, .ofNat 0))], [(1, [(.ofNat 0, .ofNat 7)]), (2, [(.ofNat 0, .ofNat 7)]), (3, [(.ofNat 0, .ofNat 1)]), (4, [(.ofNat 0, .ofNat 16)]), (5, [(.ofNat 0, .ofNat 16)])], [], []),
  (34, [(0, .inr (.inl [122])), (1, .inl (false, (1, .ofNat 1, .ofNat 0))), (2, .inl (false, (2, .ofNat 1, .ofNat 0))), (3, .inl (false, (0, .ofNat 0, .ofNat 0))), (4, .inl (false, (4, .ofNat 1, .ofNat 1)))], [], [(2, 0, (3, .ofNat 1, .ofNat 0), (0, .ofNat 0, .ofNat 0), (0, .ofNat 0, .ofNat 0)), (2, 2, (4, .ofNat 1, .ofNat 0), (5, .ofNat 1, .ofNat 0), (0, .ofNat 0, .ofNat 0)), (0, 122, (0, .ofNat 0, .ofNat 5), (5, .ofNat 1, .ofNat 0), (0, .ofNat 0, .ofNat 0))], [(1, [(.ofNat 0, .ofNat 7)]), (2, [(.ofNat 0, .ofNat 7)]), (3, [(.ofNat 0, .ofNat 0)]), (4, [(.ofNat 0, .ofNat 15)]), (5, [(.ofNat 1, .ofNat 16)])], [], []),
  (34, [(0, .inr (.inl [122])), (1, .inl (false, (1, .ofNat 1, .ofNat 0))), (2, .inl (false, (2, .ofNat 1, .ofNat 0))), (3, .inl (false, (0, .ofNat 0, .ofNat 1))), (4, .inl (false, (4, .ofNat 1, .ofNat 1)))], [], [(2, 1, (6, .ofNat 1, .ofNat 0), (1, .ofNat 1, .ofNat 0), (0, .ofNat 0, .ofNat 0)), (0, 130, (4, .ofNat 1, .ofNat 0), (6, .ofNat 1, .ofNat 0), (0, .ofNat 0, .ofNat 0)), (2, 1, (3, .ofNat 1, .ofNat 0), (0, .ofNat 0, .ofNat 0), (0, .ofNat 0, .ofNat 0)), (2, 2, (4, .ofNat 1, .ofNat 0), (5, .ofNat 1, .ofNat 0), (0, .ofNat 0, .ofNat 0)), (0, 122, (0, .ofNat 0, .ofNat 5), (5, .ofNat 1, .ofNat 0), (0, .ofNat 0, .ofNat 0))], [(1, [(.ofNat 0, .ofNat 7)]), (2, [(.ofNat 0, .ofNat 7)]), (3, [(.ofNat 1, .ofNat 1)]), (4, [(.ofNat 0, .ofNat 15)]), (5, [(.ofNat 1, .ofNat 16)]), (6, [(.negSucc 3, .negSucc 3), (.ofNat 0, .ofNat 7)])], [], []),
  (34, [(0, .inr (.inl [122])), (1, .inl (false, (1, .ofNat 1, .ofNat 0))), (2, .inl (false, (2, .ofNat 1, .ofNat 0))), (3, .inl (false, (0, .ofNat 0, .ofNat 0))), (4, .inl (false, (4, .ofNat 1, .ofNat 1)))], [], [(2, 0, (7, .ofNat 1, .ofNat 0), (2, .ofNat 1, .ofNat 0), (0, .ofNat 0, .ofNat 0)), (0, 131, (4, .ofNat 1, .ofNat 0), (7, .ofNat 1, .ofNat 0), (0, .ofNat 0, .ofNat 0)), (2, 0, (6, .ofNat 1, .ofNat 0), (1, .ofNat 1, .ofNat 0), (0, .ofNat 0, .ofNat 0)), (0, 130, (4, .ofNat 1, .ofNat 0), (6, .ofNat 1, .ofNat 0), (0, .ofNat 0, .ofNat 0)), (2, 1, (3, .ofNat 1, .ofNat 0), (0, .ofNat 0, .ofNat 0), (0, .ofNat 0, .ofNat 0)), (2, 2, (4, .ofNat 1, .ofNat 0), (5, .ofNat 1, .ofNat 0), (0, .ofNat 0, .ofNat 0)), (0, 122, (0, .ofNat 0, .ofNat 5), (5, .ofNat 1, .ofNat 0), (0, .ofNat 0, .ofNat 0))], [(1, [(.ofNat 0, .ofNat 7)]), (2, [(.ofNat 0, .ofNat 7)]), (3, [(.ofNat 1, .ofNat 1)]), (4, [(.ofNat 0, .ofNat 15)]), (5, [(.ofNat 1, .ofNat 16)]), (6, [(.ofNat 0, .ofNat 7)]), (7, [(.ofNat 0, .ofNat 7)])], [], []),
  (34, [(0, .inr (.inl [122])), (1, .inl (false, (1, .ofNat 1, .ofNat 0))), (2, .inl (false, (2, .ofNat 1, .ofNat 0))), (3, .inl (false, (0, .ofNat 0, .ofNat 1))), (4, .inl (false, (4, .ofNat 1, .ofNat 1)))], [], [(2, 1, (7, .ofNat 1, .ofNat 0), (2, .ofNat 1, .ofNat 0), (0, .ofNat 0, .ofNat 0)), (0, 131, (4, .ofNat 1, .ofNat 0), (7, .ofNat 1, .ofNat 0), (0, .ofNat 0, .ofNat 0)), (2, 0, (6, .ofNat 1, .ofNat 0), (1, .ofNat 1, .ofNat 0), (0, .ofNat 0, .ofNat 0)), (0, 130, (4, .ofNat 1, .ofNat 0), (6, .ofNat 1, .ofNat 0), (0, .ofNat 0, .ofNat 0)), (2, 1, (3, .ofNat 1, .ofNat 0), (0, .ofNat 0, .ofNat 0), (0, .ofNat 0, .ofNat 0)), (2, 2, (4, .ofNat 1, .ofNat 0), (5, .ofNat 1, .ofNat 0), (0, .ofNat 0, .ofNat 0)), (0, 122, (0, .ofNat 0, .ofNat 5), (5, .ofNat 1, .ofNat 0), (0, .ofNat 0, .ofNat 0))], [(1, [(.ofNat 0, .ofNat 7)]), (2, [(.ofNat 0, .ofNat 7)]), (3, [(.ofNat 1, .ofNat 1)]), (4, [(.ofNat 0, .ofNat 15)]), (5, [(.ofNat 1, .ofNat 16)]), (6, [(.ofNat 0, .ofNat 7)]), (7, [(.ofNat 0, .ofNat 7)])], [], [])]
set_option maxRecDepth 1000000 in
theorem sg_if_b_g : sg_go [] [33] 3000 200 33 0 5 [(0, [(.ofNat 0, .ofNat 0)]), (1, [(.ofNat 0, .ofNat 7)]), (2, [(.ofNat 0, .ofNat 7)]), (3, [(.ofNat 0, .ofNat 1)]), (4, [(.ofNat 0, .ofNat 16)])] [] [] [] [(0, .inr (.inl [122])), (1, .inl (false, (1, .ofNat 1, .ofNat 0))), (2, .inl (false, (2, .ofNat 1, .ofNat 0))), (3, .inl (false, (3, .ofNat 1, .ofNat 0))), (4, .inl (false, (4, .ofNat 1, .ofNat 0)))] [] [] sg_if_b_Z = true := by decide +kernel
set_option maxRecDepth 100000 in
theorem sg_if_b {Q : Option Value × am_S → Prop} {d : Nat} {S : am_S} {L : am_L} {x1 x2 x3 x4 : Int} (hd : 0 ≤ d) (hP : ax_P0 none S) (l0 : lc L 0 122) (l1 : li L 1 x1) (l2 : li L 2 x2) (l3 : li L 3 x3) (l4 : li L 4 x4) (b1 : (0 ≤ x1 ∧ x1 ≤ 7)) (b2 : (0 ≤ x2 ∧ x2 ≤ 7)) (b3 : (0 ≤ x3 ∧ x3 ≤ 1)) (b4 : (0 ≤ x4 ∧ x4 ≤ 16))
    (k0 : ∀ (x5 : Int) (i1 : Int32), rd S 122 5 = x5 → x5 ≤ x4 → (0 ≤ x1 ∧ x1 ≤ 7) → (0 ≤ x2 ∧ x2 ≤ 7) → (0 ≤ x3 ∧ x3 ≤ 1) → (0 ≤ x4 ∧ x4 ≤ 16) → (0 ≤ x5 ∧ x5 ≤ 16) → i1.toInt = x3 → Q (some (.int i1), S))
    (k1 : ∀ (x5 : Int) (L' : am_L), rd S 122 5 = x5 → x4 < x5 → x3 = 0 → (0 ≤ x1 ∧ x1 ≤ 7) → (0 ≤ x2 ∧ x2 ≤ 7) → (0 ≤ x3 ∧ x3 ≤ 0) → (0 ≤ x4 ∧ x4 ≤ 15) → (1 ≤ x5 ∧ x5 ≤ 16) → lc L' 0 122 → li L' 1 x1 → li L' 2 x2 → li L' 3 0 → li L' 4 (x4 + 1) → am_V none d 200 33 L' ([]) S Q)
    (k2 : ∀ (x5 x6 : Int) (L' : am_L), rd S 122 5 = x5 → x4 < x5 → x3 ≠ 0 → rd S 130 x4 = x6 → x6 ≠ x1 → (0 ≤ x1 ∧ x1 ≤ 7) → (0 ≤ x2 ∧ x2 ≤ 7) → (1 ≤ x3 ∧ x3 ≤ 1) → (0 ≤ x4 ∧ x4 ≤ 15) → (1 ≤ x5 ∧ x5 ≤ 16) → ((-4) ≤ x6 ∧ x6 ≤ (-4)) ∨ (0 ≤ x6 ∧ x6 ≤ 7) → lc L' 0 122 → li L' 1 x1 → li L' 2 x2 → li L' 3 1 → li L' 4 (x4 + 1) → am_V none d 200 33 L' ([]) S Q)
    (k3 : ∀ (x5 x6 x7 : Int) (L' : am_L), rd S 122 5 = x5 → x4 < x5 → x3 ≠ 0 → rd S 130 x4 = x6 → x6 = x1 → rd S 131 x4 = x7 → x7 = x2 → (0 ≤ x1 ∧ x1 ≤ 7) → (0 ≤ x2 ∧ x2 ≤ 7) → (1 ≤ x3 ∧ x3 ≤ 1) → (0 ≤ x4 ∧ x4 ≤ 15) → (1 ≤ x5 ∧ x5 ≤ 16) → (0 ≤ x6 ∧ x6 ≤ 7) → (0 ≤ x7 ∧ x7 ≤ 7) → lc L' 0 122 → li L' 1 x1 → li L' 2 x2 → li L' 3 0 → li L' 4 (x4 + 1) → am_V none d 200 33 L' ([]) S Q)
    (k4 : ∀ (x5 x6 x7 : Int) (L' : am_L), rd S 122 5 = x5 → x4 < x5 → x3 ≠ 0 → rd S 130 x4 = x6 → x6 = x1 → rd S 131 x4 = x7 → x7 ≠ x2 → (0 ≤ x1 ∧ x1 ≤ 7) → (0 ≤ x2 ∧ x2 ≤ 7) → (1 ≤ x3 ∧ x3 ≤ 1) → (0 ≤ x4 ∧ x4 ≤ 15) → (1 ≤ x5 ∧ x5 ≤ 16) → (0 ≤ x6 ∧ x6 ≤ 7) → (0 ≤ x7 ∧ x7 ≤ 7) → lc L' 0 122 → li L' 1 x1 → li L' 2 x2 → li L' 3 1 → li L' 4 (x4 + 1) → am_V none d 200 33 L' ([]) S Q) : am_V none d 200 33 L ([]) S Q := by
  refine sg_use sg_if_b_g hd hP (sg_xs [0, x1, x2, x3, x4]) ⟨⟨Int.le_refl 0, Int.le_refl 0⟩, b1, b2, b3, b4, trivial⟩ trivial trivial trivial ⟨l0, l1, l2, l3, l4, trivial⟩ trivial ?_
  intro z hz x' L' st' S' hx hP' hW hL' hs' hJ hE' hT' hD'
  have q1 : x' 1 = x1 := hx 1 (by decide)
  subst q1
  have q2 : x' 2 = x2 := hx 2 (by decide)
  subst q2
  have q3 : x' 3 = x3 := hx 3 (by decide)
  subst q3
  have q4 : x' 4 = x4 := hx 4 (by decide)
  subst q4
  have eS : S' = S := hW.1 rfl
  subst eS
  simp only [sg_if_b_Z, List.mem_cons, List.not_mem_nil, or_false] at hz
  rcases hz with rfl | rfl | rfl | rfl | rfl
  · obtain ⟨f0, f1, hσ⟩ := hJ
    obtain ⟨e0, e1, e2, e3, e4, -⟩ := hE'
    intro v hv
    subst hv
    cases v with
    | none => exact hs'.elim
    | some v1 =>
      obtain ⟨⟨i1, rfl, g1⟩, -⟩ := hs'
      exact k0 (x' 5) i1 f0 f1 e0 e1 e2 e3 e4 g1
  · obtain ⟨f0, f1, f2, hσ⟩ := hJ
    obtain ⟨e0, e1, e2, e3, e4, -⟩ := hE'
    obtain ⟨p0, p1, p2, p3, p4, -⟩ := hL'
    obtain rfl := sg_tn hs'
    exact k1 (x' 5) L' f0 f1 f2 e0 e1 e2 e3 e4 p0 p1 p2 p3 p4
  · obtain ⟨f0, f1, f2, f3, f4, hσ⟩ := hJ
    obtain ⟨e0, e1, e2, e3, e4, e5, -⟩ := hE'
    obtain ⟨p0, p1, p2, p3, p4, -⟩ := hL'
    obtain rfl := sg_tn hs'
    exact k2 (x' 5) (x' 6) L' f0 f1 f2 f3 f4 e0 e1 e2 e3 e4 e5 p0 p1 p2 p3 p4
  · obtain ⟨f0, f1, f2, f3, f4, f5, f6, hσ⟩ := hJ
    obtain ⟨e0, e1, e2, e3, e4, e5, e6, -⟩ := hE'
    obtain ⟨p0, p1, p2, p3, p4, -⟩ := hL'
    obtain rfl := sg_tn hs'
    exact k3 (x' 5) (x' 6) (x' 7) L' f0 f1 f2 f3 f4 f5 f6 e0 e1 e2 e3 e4 e5 e6 p0 p1 p2 p3 p4
  · obtain ⟨f0, f1, f2, f3, f4, f5, f6, hσ⟩ := hJ
    obtain ⟨e0, e1, e2, e3, e4, e5, e6, -⟩ := hE'
    obtain ⟨p0, p1, p2, p3, p4, -⟩ := hL'
    obtain rfl := sg_tn hs'
    exact k4 (x' 5) (x' 6) (x' 7) L' f0 f1 f2 f3 f4 f5 f6 e0 e1 e2 e3 e4 e5 e6 p0 p1 p2 p3 p4
def sg_mf_a_Z : List sg_z := [(5, [(0, .inr (.inl [122])), (1, .inl (false, (0, .ofNat 0, .ofNat 0))), (2, .inl (false, (0, .ofNat 0, .ofNat 0)))], [], [], [], [], [])]
set_option maxRecDepth 1000000 in
theorem sg_mf_a_g : sg_go [] [4] 3000 201 0 0 1 [(0, [(.ofNat 0, .ofNat 0)])] [] [] [] [(0, .inr (.inl [122]))] [] [] sg_mf_a_Z = true := by decide +kernel
set_option maxRecDepth 100000 in
theorem sg_mf_a {Q : Option Value × am_S → Prop} {d : Nat} {S : am_S} {L : am_L} (hd : 0 ≤ d) (hP : ax_P0 none S) (l0 : lc L 0 122)
    (k0 : ∀ (L' : am_L), lc L' 0 122 → li L' 1 0 → li L' 2 0 → am_V none d 201 4 L' ([]) S Q) : am_V none d 201 0 L ([]) S Q := by
  refine sg_use sg_mf_a_g hd hP (sg_xs [0]) ⟨⟨Int.le_refl 0, Int.le_refl 0⟩, trivial⟩ trivial trivial trivial ⟨l0, trivial⟩ trivial ?_
  intro z hz x' L' st' S' hx hP' hW hL' hs' hJ hE' hT' hD'
  have eS : S' = S := hW.1 rfl
  subst eS
  simp only [sg_mf_a_Z, List.mem_cons, List.not_mem_nil, or_false] at hz
  rcases hz with rfl
  · have hσ := hJ
    obtain ⟨p0, p1, p2, -⟩ := hL'
    obtain rfl := sg_tn hs'
    exact k0 L' p0 p1 p2
def sg_mf_b_Z : List sg_z := [(0, [], [.inl (false, (1, .ofNat 1, .ofNat 0))], [(2, 3, (2, .ofNat 1, .ofNat 0), (0, .ofNat 0, .ofNat 64), (0, .ofNat 0, .ofNat 0))], [(1, [(.ofNat 0, .ofNat 64)]), (2, [(.ofNat 64, .ofNat 64)])], [], []),
  (5, [(0, .inr (.inl [122])), (1, .inl (false, (1, .ofNat 1, .ofNat 0))), (2, .inl (false, (2, .ofNat 1, .ofNat 1)))], [], [(2, 3, (3, .ofNat 1, .ofNat 0), (4, .ofNat 1, .ofNat 0), (0, .ofNat 0, .ofNat 0)), (0, 122, (0, .ofNat 0, .ofNat 0), (4, .ofNat 1, .ofNat 0), (0, .ofNat 0, .ofNat 0)), (3, 1, (2, .ofNat 1, .ofNat 0), (0, .ofNat 0, .ofNat 8), (3, .ofNat 1, .ofNat 0)), (2, 2, (2, .ofNat 1, .ofNat 0), (0, .ofNat 0, .ofNat 64), (0, .ofNat 0, .ofNat 0))], [(1, [(.ofNat 0, .ofNat 64)]), (2, [(.ofNat 0, .ofNat 63)]), (3, [(.ofNat 0, .ofNat 7)]), (4, [(.ofNat 0, .ofNat 7)])], [], []),
  (5, [(0, .inr (.inl [122])), (1, .inl (false, (1, .ofNat 1, .ofNat 0))), (2, .inl (false, (2, .ofNat 1, .ofNat 1)))], [], [(2, 3, (5, .ofNat 1, .ofNat 0), (4, .ofNat 1, .ofNat 0), (0, .ofNat 0, .ofNat 0)), (0, 122, (0, .ofNat 0, .ofNat 0), (4, .ofNat 1, .ofNat 0), (0, .ofNat 0, .ofNat 0)), (3, 2, (2, .ofNat 1, .ofNat 0), (0, .ofNat 0, .ofNat 8), (5, .ofNat 1, .ofNat 0)), (2, 2, (3, .ofNat 1, .ofNat 0), (4, .ofNat 1, .ofNat 0), (0, .ofNat 0, .ofNat 0)), (0, 122, (0, .ofNat 0, .ofNat 0), (4, .ofNat 1, .ofNat 0), (0, .ofNat 0, .ofNat 0)), (3, 1, (2, .ofNat 1, .ofNat 0), (0, .ofNat 0, .ofNat 8), (3, .ofNat 1, .ofNat 0)), (2, 2, (2, .ofNat 1, .ofNat 0), (0, .ofNat 0, .ofNat 64), (0, .ofNat 0, .ofNat 0))], [(1, [(.ofNat 0, .ofNat 64)]), (2, [(.ofNat 0, .ofNat 63)]), (3, [(.ofNat 0, .ofNat 7)]), (4, [(.ofNat 1, .ofNat 7)]), (5, [(.ofNat 1, .ofNat 7)])], [], []),
  (43, [(0, .inr (.inl [122])), (1, .inl (false, (1, .ofNat 1, .ofNat 0))), (2, .inl (false, (2, .ofNat 1, .ofNat 0)))], [.inl (false, (7, .ofNat 1, .ofNat 0)), .inl (false, (6, .ofNat 1, .ofNat 0)), .inr (.inl [122]), .inl (false, (1, .ofNat 1, .ofNat 0))], [(3, 2, (2, .ofNat 1, .ofNat 0), (0, .ofNat 0, .ofNat 8), (7, .ofNat 1, .ofNat 0)), (3, 1, (2, .ofNat 1, .ofNat 0), (0, .ofNat 0, .ofNat 8), (6, .ofNat 1, .ofNat 0)), (2, 2, (5, .ofNat 1, .ofNat 0), (4, .ofNat 1, .ofNat 0), (0, .ofNat 0, .ofNat 0)), (0, 122, (0, .ofNat 0, .ofNat 0), (4, .ofNat 1, .ofNat 0), (0, .ofNat 0, .ofNat 0)), (3, 2, (2, .ofNat 1, .ofNat 0), (0, .ofNat 0, .ofNat 8), (5, .ofNat 1, .ofNat 0)), (2, 2, (3, .ofNat 1, .ofNat 0), (4, .ofNat 1, .ofNat 0), (0, .ofNat 0, .ofNat 0)), (0, 122, (0, .ofNat 0, .ofNat 0), (4, .ofNat 1, .ofNat 0), (0, .ofNat 0, .ofNat 0)), (3, 1, (2, .ofNat 1, .ofNat 0), (0, .ofNat 0, .ofNat 8), (3, .ofNat 1, .ofNat 0)), (2, 2, (2, .ofNat 1, .ofNat 0), (0, .ofNat 0, .ofNat 64), (0, .ofNat 0, .ofNat 0))], [(1, [(.ofNat 0, .ofNat 64)]), (2, [(.ofNat 0, .ofNat 63)]), (3, [(.ofNat 0, .ofNat 7)]), (4, [(.ofNat 1, .ofNat 8)]), (5, [(.ofNat 0, .ofNat 7)]), (6, [(.ofNat 0, .ofNat 7)]), (7, [(.ofNat 0, .ofNat 7)])], [], [])]
set_option maxRecDepth 1000000 in
theorem sg_mf_b_g : sg_go [] [4, 42] 3000 201 4 0 3 [(0, [(.ofNat 0, .ofNat 0)]), (1, [(.ofNat 0, .ofNat 64)]), (2, [(.ofNat 0, .ofNat 64)])] [] [] [] [(0, .inr (.inl [122])), (1, .inl (false, (1, .ofNat 1, .ofNat 0))), (2, .inl (false, (2, .ofNat 1, .ofNat 0)))] [] [] sg_mf_b_Z = true := by decide +kernel
set_option maxRecDepth 100000 in
theorem sg_mf_b {Q : Option Value × am_S → Prop} {d : Nat} {S : am_S} {L : am_L} {x1 x2 : Int} (hd : 0 ≤ d) (hP : ax_P0 none S) (l0 : lc L 0 122) (l1 : li L 1 x1) (l2 : li L 2 x2) (b1 : (0 ≤ x1 ∧ x1 ≤ 64)) (b2 : (0 ≤ x2 ∧ x2 ≤ 64))
    (k0 : ∀ (i1 : Int32), 64 ≤ x2 → (0 ≤ x1 ∧ x1 ≤ 64) → (64 ≤ x2 ∧ x2 ≤ 64) → i1.toInt = x1 → Q (some (.int i1), S))
    (k1 : ∀ (x3 x4 : Int) (L' : am_L), x2 < 64 → (∃ a b : Int32, a.toInt = x2 ∧ b.toInt = 8 ∧ (a / b).toInt = x3) → rd S 122 0 = x4 → x4 ≤ x3 → (0 ≤ x1 ∧ x1 ≤ 64) → (0 ≤ x2 ∧ x2 ≤ 63) → (0 ≤ x3 ∧ x3 ≤ 7) → (0 ≤ x4 ∧ x4 ≤ 7) → lc L' 0 122 → li L' 1 x1 → li L' 2 (x2 + 1) → am_V none d 201 4 L' ([]) S Q)
    (k2 : ∀ (x3 x4 x5 : Int) (L' : am_L), x2 < 64 → (∃ a b : Int32, a.toInt = x2 ∧ b.toInt = 8 ∧ (a / b).toInt = x3) → rd S 122 0 = x4 → x3 < x4 → (∃ a b : Int32, a.toInt = x2 ∧ b.toInt = 8 ∧ (a - a / b * b).toInt = x5) → x4 ≤ x5 → (0 ≤ x1 ∧ x1 ≤ 64) → (0 ≤ x2 ∧ x2 ≤ 63) → (0 ≤ x3 ∧ x3 ≤ 7) → (1 ≤ x4 ∧ x4 ≤ 7) → (1 ≤ x5 ∧ x5 ≤ 7) → lc L' 0 122 → li L' 1 x1 → li L' 2 (x2 + 1) → am_V none d 201 4 L' ([]) S Q)
    (k3 : ∀ (x3 x4 x5 x6 x7 : Int) (L' : am_L) (i1 : Int32) (i2 : Int32) (i4 : Int32), x2 < 64 → (∃ a b : Int32, a.toInt = x2 ∧ b.toInt = 8 ∧ (a / b).toInt = x3) → rd S 122 0 = x4 → x3 < x4 → (∃ a b : Int32, a.toInt = x2 ∧ b.toInt = 8 ∧ (a - a / b * b).toInt = x5) → x5 < x4 → (∃ a b : Int32, a.toInt = x2 ∧ b.toInt = 8 ∧ (a / b).toInt = x6) → (∃ a b : Int32, a.toInt = x2 ∧ b.toInt = 8 ∧ (a - a / b * b).toInt = x7) → (0 ≤ x1 ∧ x1 ≤ 64) → (0 ≤ x2 ∧ x2 ≤ 63) → (0 ≤ x3 ∧ x3 ≤ 7) → (1 ≤ x4 ∧ x4 ≤ 8) → (0 ≤ x5 ∧ x5 ≤ 7) → (0 ≤ x6 ∧ x6 ≤ 7) → (0 ≤ x7 ∧ x7 ≤ 7) → lc L' 0 122 → li L' 1 x1 → li L' 2 x2 → i1.toInt = x7 → i2.toInt = x6 → i4.toInt = x1 → am_V none d 201 42 L' ((.int i1) :: (.int i2) :: (.ref 122) :: (.int i4) :: []) S Q) : am_V none d 201 4 L ([]) S Q := by
  refine sg_use sg_mf_b_g hd hP (sg_xs [0, x1, x2]) ⟨⟨Int.le_refl 0, Int.le_refl 0⟩, b1, b2, trivial⟩ trivial trivial trivial ⟨l0, l1, l2, trivial⟩ trivial ?_
  intro z hz x' L' st' S' hx hP' hW hL' hs' hJ hE' hT' hD'
  have q1 : x' 1 = x1 := hx 1 (by decide)
  subst q1
  have q2 : x' 2 = x2 := hx 2 (by decide)
  subst q2
  have eS : S' = S := hW.1 rfl
  subst eS
  simp only [sg_mf_b_Z, List.mem_cons, List.not_mem_nil, or_false] at hz
  rcases hz with rfl | rfl | rfl | rfl
  · obtain ⟨f0, hσ⟩ := hJ
    obtain ⟨e0, e1, -⟩ := hE'
    intro v hv
    subst hv
    cases v with
    | none => exact hs'.elim
    | some v1 =>
      obtain ⟨⟨i1, rfl, g1⟩, -⟩ := hs'
      exact k0 i1 f0 e0 e1 g1
  · obtain ⟨f0, f1, f2, f3, hσ⟩ := hJ
    obtain ⟨e0, e1, e2, e3, -⟩ := hE'
    obtain ⟨p0, p1, p2, -⟩ := hL'
    obtain rfl := sg_tn hs'
    exact k1 (x' 3) (x' 4) L' f0 f1 f2 f3 e0 e1 e2 e3 p0 p1 p2
  · obtain ⟨f0, f1, f2, f3, f4, -, f6, hσ⟩ := hJ
    obtain ⟨e0, e1, e2, e3, e4, -⟩ := hE'
    obtain ⟨p0, p1, p2, -⟩ := hL'
    obtain rfl := sg_tn hs'
    exact k2 (x' 3) (x' 4) (x' 5) L' f0 f1 f2 f3 f4 f6 e0 e1 e2 e3 e4 p0 p1 p2
  · obtain ⟨f0, f1, f2, f3, f4, -, f6, f7, f8, hσ⟩ := hJ
    obtain ⟨e0, e1, e2, e3, e4, e5, e6, -⟩ := hE'
    obtain ⟨p0, p1, p2, -⟩ := hL'
    obtain ⟨v1, r1, rfl, ⟨i1, rfl, g1⟩, hs1⟩ := sg_tc hs'
    obtain ⟨v2, r2, rfl, ⟨i2, rfl, g2⟩, hs2⟩ := sg_tc hs1
    obtain ⟨v3, r3, rfl, rfl, hs3⟩ := sg_tc hs2
    obtain ⟨v4, r4, rfl, ⟨i4, rfl, g4⟩, hs4⟩ := sg_tc hs3
    obtain rfl := sg_tn hs4
    exact k3 (x' 3) (x' 4) (x' 5) (x' 6) (x' 7) L' i1 i2 i4 f0 f1 f2 f3 f4 f6 f7 f8 e0 e1 e2 e3 e4 e5 e6 p0 p1 p2 g1 g2 g4
def sg_mf_c_Z : List sg_z := [(5, [(0, .inr (.inl [122])), (1, .inl (false, (3, .ofNat 1, .ofNat 0))), (2, .inl (false, (1, .ofNat 1, .ofNat 1)))], [], [(2, 0, (2, .ofNat 1, .ofNat 0), (0, .ofNat 0, .ofNat 0), (0, .ofNat 0, .ofNat 0))], [(1, [(.ofNat 0, .ofNat 63)]), (2, [(.ofNat 0, .ofNat 0)]), (3, [(.ofNat 0, .ofNat 64)])], [], []),
  (5, [(0, .inr (.inl [122])), (1, .inl (false, (3, .ofNat 1, .ofNat 1))), (2, .inl (false, (1, .ofNat 1, .ofNat 1)))], [], [(2, 1, (2, .ofNat 1, .ofNat 0), (0, .ofNat 0, .ofNat 0), (0, .ofNat 0, .ofNat 0))], [(1, [(.ofNat 0, .ofNat 63)]), (2, [(.ofNat 1, .ofNat 1)]), (3, [(.ofNat 0, .ofNat 64)])], [], [])]
set_option maxRecDepth 1000000 in
theorem sg_mf_c_g : sg_go [] [4] 3000 201 45 0 4 [(0, [(.ofNat 0, .ofNat 0)]), (1, [(.ofNat 0, .ofNat 63)]), (2, [(.ofNat 0, .ofNat 1)]), (3, [(.ofNat 0, .ofNat 64)])] [] [] [] [(0, .inr (.inl [122])), (2, .inl (false, (1, .ofNat 1, .ofNat 0)))] [.inl (false, (2, .ofNat 1, .ofNat 0)), .inl (false, (3, .ofNat 1, .ofNat 0))] [] sg_mf_c_Z = true := by decide +kernel
set_option maxRecDepth 100000 in
theorem sg_mf_c {Q : Option Value × am_S → Prop} {d : Nat} {S : am_S} {L : am_L} {x1 x2 x3 : Int} {i1 : Int32} {i2 : Int32} (hd : 0 ≤ d) (hP : ax_P0 none S) (l0 : lc L 0 122) (l2 : li L 2 x1) (b1 : (0 ≤ x1 ∧ x1 ≤ 63)) (b2 : (0 ≤ x2 ∧ x2 ≤ 1)) (b3 : (0 ≤ x3 ∧ x3 ≤ 64)) (s1 : i1.toInt = x2) (s2 : i2.toInt = x3)
    (k0 : ∀ (L' : am_L), x2 = 0 → (0 ≤ x1 ∧ x1 ≤ 63) → (0 ≤ x2 ∧ x2 ≤ 0) → (0 ≤ x3 ∧ x3 ≤ 64) → lc L' 0 122 → li L' 1 x3 → li L' 2 (x1 + 1) → am_V none d 201 4 L' ([]) S Q)
    (k1 : ∀ (L' : am_L), x2 ≠ 0 → (0 ≤ x1 ∧ x1 ≤ 63) → (1 ≤ x2 ∧ x2 ≤ 1) → (0 ≤ x3 ∧ x3 ≤ 64) → lc L' 0 122 → li L' 1 (x3 + 1) → li L' 2 (x1 + 1) → am_V none d 201 4 L' ([]) S Q) : am_V none d 201 45 L ((.int i1) :: (.int i2) :: []) S Q := by
  refine sg_use sg_mf_c_g hd hP (sg_xs [0, x1, x2, x3]) ⟨⟨Int.le_refl 0, Int.le_refl 0⟩, b1, b2, b3, trivial⟩ trivial trivial trivial ⟨l0, l2, trivial⟩ ⟨⟨_, rfl, s1⟩, ⟨_, rfl, s2⟩, trivial⟩ ?_
  intro z hz x' L' st' S' hx hP' hW hL' hs' hJ hE' hT' hD'
  have q1 : x' 1 = x1 := hx 1 (by decide)
  subst q1
  have q2 : x' 2 = x2 := hx 2 (by decide)
  subst q2
  have q3 : x' 3 = x3 := hx 3 (by decide)
  subst q3
  have eS : S' = S := hW.1 rfl
  subst eS
  simp only [sg_mf_c_Z, List.mem_cons, List.not_mem_nil, or_false] at hz
  rcases hz with rfl | rfl
  · obtain ⟨f0, hσ⟩ := hJ
    obtain ⟨e0, e1, e2, -⟩ := hE'
    obtain ⟨p0, p1, p2, -⟩ := hL'
    obtain rfl := sg_tn hs'
    exact k0 L' f0 e0 e1 e2 p0 p1 p2
  · obtain ⟨f0, hσ⟩ := hJ
    obtain ⟨e0, e1, e2, -⟩ := hE'
    obtain ⟨p0, p1, p2, -⟩ := hL'
    obtain rfl := sg_tn hs'
    exact k1 L' f0 e0 e1 e2 p0 p1 p2
def sg_fm_a_Z : List sg_z := [(0, [], [.inl (false, (0, .ofNat 0, .negSucc 0))], [(2, 2, (1, .ofNat 1, .ofNat 0), (0, .ofNat 0, .ofNat 0), (0, .ofNat 0, .ofNat 0))], [(1, [(.negSucc 2147483647, .negSucc 0)])], [], []),
  (0, [], [.inl (false, (0, .ofNat 0, .negSucc 0))], [(2, 0, (0, .ofNat 0, .ofNat 0), (0, .ofNat 0, .ofNat 0), (0, .ofNat 0, .ofNat 0)), (2, 2, (2, .ofNat 1, .ofNat 0), (0, .ofNat 0, .ofNat 0), (0, .ofNat 0, .ofNat 0)), (2, 3, (1, .ofNat 1, .ofNat 0), (0, .ofNat 0, .ofNat 0), (0, .ofNat 0, .ofNat 0))], [(1, [(.ofNat 0, .ofNat 2147483647)]), (2, [(.negSucc 2147483647, .negSucc 0)])], [], []),
  (0, [], [.inl (false, (0, .ofNat 0, .negSucc 0))], [(2, 0, (0, .ofNat 0, .ofNat 0), (0, .ofNat 0, .ofNat 0), (0, .ofNat 0, .ofNat 0)), (2, 4, (2, .ofNat 1, .ofNat 0), (0, .ofNat 0, .ofNat 3), (0, .ofNat 0, .ofNat 0)), (2, 3, (2, .ofNat 1, .ofNat 0), (0, .ofNat 0, .ofNat 0), (0, .ofNat 0, .ofNat 0)), (2, 3, (1, .ofNat 1, .ofNat 0), (0, .ofNat 0, .ofNat 0), (0, .ofNat 0, .ofNat 0))], [(1, [(.ofNat 0, .ofNat 2147483647)]), (2, [(.ofNat 4, .ofNat 2147483647)])], [], []),
  (21, [(0, .inr (.inl [122])), (1, .inl (false, (1, .ofNat 1, .ofNat 0))), (2, .inl (false, (2, .ofNat 1, .ofNat 0))), (3, .inl (false, (0, .ofNat 0, .ofNat 0)))], [], [(2, 1, (0, .ofNat 0, .ofNat 1), (0, .ofNat 0, .ofNat 0), (0, .ofNat 0, .ofNat 0)), (2, 5, (2, .ofNat 1, .ofNat 0), (0, .ofNat 0, .ofNat 3), (0, .ofNat 0, .ofNat 0)), (2, 3, (2, .ofNat 1, .ofNat 0), (0, .ofNat 0, .ofNat 0), (0, .ofNat 0, .ofNat 0)), (2, 3, (1, .ofNat 1, .ofNat 0), (0, .ofNat 0, .ofNat 0), (0, .ofNat 0, .ofNat 0))], [(1, [(.ofNat 0, .ofNat 2147483647)]), (2, [(.ofNat 0, .ofNat 3)])], [], [])]
set_option maxRecDepth 1000000 in
theorem sg_fm_a_g : sg_go [] [20] 3000 203 0 1 3 [(0, [(.ofNat 0, .ofNat 0)]), (1, [(.negSucc 2147483647, .ofNat 2147483647)]), (2, [(.negSucc 2147483647, .ofNat 2147483647)])] [] [] [] [(0, .inr (.inl [122])), (1, .inl (false, (1, .ofNat 1, .ofNat 0))), (2, .inl (false, (2, .ofNat 1, .ofNat 0)))] [] [] sg_fm_a_Z = true := by decide +kernel
set_option maxRecDepth 100000 in
theorem sg_fm_a {Q : Option Value × am_S → Prop} {d : Nat} {S : am_S} {L : am_L} {x1 x2 : Int} (hd : 1 ≤ d) (hP : ax_P0 none S) (l0 : lc L 0 122) (l1 : li L 1 x1) (l2 : li L 2 x2) (b1 : ((-2147483648) ≤ x1 ∧ x1 ≤ 2147483647)) (b2 : ((-2147483648) ≤ x2 ∧ x2 ≤ 2147483647))
    (k0 : ∀ (i1 : Int32), x1 < 0 → ((-2147483648) ≤ x1 ∧ x1 ≤ (-1)) → i1.toInt = (-1) → Q (some (.int i1), S))
    (k1 : ∀ (i1 : Int32), 0 ≤ x1 → x2 < 0 → (0 ≤ x1 ∧ x1 ≤ 2147483647) → ((-2147483648) ≤ x2 ∧ x2 ≤ (-1)) → i1.toInt = (-1) → Q (some (.int i1), S))
    (k2 : ∀ (i1 : Int32), 0 ≤ x1 → 0 ≤ x2 → 3 < x2 → (0 ≤ x1 ∧ x1 ≤ 2147483647) → (4 ≤ x2 ∧ x2 ≤ 2147483647) → i1.toInt = (-1) → Q (some (.int i1), S))
    (k3 : ∀ (L' : am_L), 0 ≤ x1 → 0 ≤ x2 → x2 ≤ 3 → (0 ≤ x1 ∧ x1 ≤ 2147483647) → (0 ≤ x2 ∧ x2 ≤ 3) → lc L' 0 122 → li L' 1 x1 → li L' 2 x2 → li L' 3 0 → am_V none d 203 20 L' ([]) S Q) : am_V none d 203 0 L ([]) S Q := by
  refine sg_use sg_fm_a_g hd hP (sg_xs [0, x1, x2]) ⟨⟨Int.le_refl 0, Int.le_refl 0⟩, b1, b2, trivial⟩ trivial trivial trivial ⟨l0, l1, l2, trivial⟩ trivial ?_
  intro z hz x' L' st' S' hx hP' hW hL' hs' hJ hE' hT' hD'
  have q1 : x' 1 = x1 := hx 1 (by decide)
  subst q1
  have q2 : x' 2 = x2 := hx 2 (by decide)
  subst q2
  have eS : S' = S := hW.1 rfl
  subst eS
  simp only [sg_fm_a_Z, List.mem_cons, List.not_mem_nil, or_false] at hz
  rcases hz with rfl | rfl | rfl | rfl
  · obtain ⟨f0, hσ⟩ := hJ
    obtain ⟨e0, -⟩ := hE'
    intro v hv
    subst hv
    cases v with
    | none => exact hs'.elim
    | some v1 =>
      obtain ⟨⟨i1, rfl, g1⟩, -⟩ := hs'
      exact k0 i1 f0 e0 g1
  · obtain ⟨f0, f1, -, hσ⟩ := hJ
    obtain ⟨e0, e1, -⟩ := hE'
    intro v hv
    subst hv
    cases v with
    | none => exact hs'.elim
    | some v1 =>
      obtain ⟨⟨i1, rfl, g1⟩, -⟩ := hs'
      exact k1 i1 f0 f1 e0 e1 g1
  · obtain ⟨f0, f1, f2, -, hσ⟩ := hJ
    obtain ⟨e0, e1, -⟩ := hE'
    intro v hv
    subst hv
    cases v with
    | none => exact hs'.elim
    | some v1 =>
      obtain ⟨⟨i1, rfl, g1⟩, -⟩ := hs'
      exact k2 i1 f0 f1 f2 e0 e1 g1
  · obtain ⟨f0, f1, f2, -, hσ⟩ := hJ
    obtain ⟨e0, e1, -⟩ := hE'
    obtain ⟨p0, p1, p2, p3, -⟩ := hL'
    obtain rfl := sg_tn hs'
    exact k3 L' f0 f1 f2 e0 e1 p0 p1 p2 p3
def sg_fm_b_Z : List sg_z := [(0, [], [.inl (false, (0, .ofNat 0, .negSucc 3))], [(2, 3, (3, .ofNat 1, .ofNat 0), (0, .ofNat 0, .ofNat 64), (0, .ofNat 0, .ofNat 0))], [(1, [(.ofNat 0, .ofNat 2147483647)]), (2, [(.ofNat 0, .ofNat 3)]), (3, [(.ofNat 64, .ofNat 64)])], [], []),
  (21, [(0, .inr (.inl [122])), (1, .inl (false, (1, .ofNat 1, .ofNat 0))), (2, .inl (false, (2, .ofNat 1, .ofNat 0))), (3, .inl (false, (3, .ofNat 1, .ofNat 1)))], [], [(2, 3, (4, .ofNat 1, .ofNat 0), (5, .ofNat 1, .ofNat 0), (0, .ofNat 0, .ofNat 0)), (0, 122, (0, .ofNat 0, .ofNat 0), (5, .ofNat 1, .ofNat 0), (0, .ofNat 0, .ofNat 0)), (3, 1, (3, .ofNat 1, .ofNat 0), (0, .ofNat 0, .ofNat 8), (4, .ofNat 1, .ofNat 0)), (2, 2, (3, .ofNat 1, .ofNat 0), (0, .ofNat 0, .ofNat 64), (0, .ofNat 0, .ofNat 0))], [(1, [(.ofNat 0, .ofNat 2147483647)]), (2, [(.ofNat 0, .ofNat 3)]), (3, [(.ofNat 0, .ofNat 63)]), (4, [(.ofNat 0, .ofNat 7)]), (5, [(.ofNat 0, .ofNat 7)])], [], []),
  (21, [(0, .inr (.inl [122])), (1, .inl (false, (1, .ofNat 1, .ofNat 0))), (2, .inl (false, (2, .ofNat 1, .ofNat 0))), (3, .inl (false, (3, .ofNat 1, .ofNat 1)))], [], [(2, 3, (6, .ofNat 1, .ofNat 0), (5, .ofNat 1, .ofNat 0), (0, .ofNat 0, .ofNat 0)), (0, 122, (0, .ofNat 0, .ofNat 0), (5, .ofNat 1, .ofNat 0), (0, .ofNat 0, .ofNat 0)), (3, 2, (3, .ofNat 1, .ofNat 0), (0, .ofNat 0, .ofNat 8), (6, .ofNat 1, .ofNat 0)), (2, 2, (4, .ofNat 1, .ofNat 0), (5, .ofNat 1, .ofNat 0), (0, .ofNat 0, .ofNat 0)), (0, 122, (0, .ofNat 0, .ofNat 0), (5, .ofNat 1, .ofNat 0), (0, .ofNat 0, .ofNat 0)), (3, 1, (3, .ofNat 1, .ofNat 0), (0, .ofNat 0, .ofNat 8), (4, .ofNat 1, .ofNat 0)), (2, 2, (3, .ofNat 1, .ofNat 0), (0, .ofNat 0, .ofNat 64), (0, .ofNat 0, .ofNat 0))], [(1, [(.ofNat 0, .ofNat 2147483647)]), (2, [(.ofNat 0, .ofNat 3)]), (3, [(.ofNat 0, .ofNat 63)]), (4, [(.ofNat 0, .ofNat 7)]), (5, [(.ofNat 1, .ofNat 7)]), (6, [(.ofNat 1, .ofNat 7)])], [], []),
  (58, [(0, .inr (.inl [122])), (1, .inl (false, (1, .ofNat 1, .ofNat 0))), (2, .inl (false, (2, .ofNat 1, .ofNat 0))), (3, .inl (false, (3, .ofNat 1, .ofNat 0)))], [.inl (false, (8, .ofNat 1, .ofNat 0)), .inl (false, (7, .ofNat 1, .ofNat 0)), .inr (.inl [122])], [(3, 2, (3, .ofNat 1, .ofNat 0), (0, .ofNat 0, .ofNat 8), (8, .ofNat 1, .ofNat 0)), (3, 1, (3, .ofNat 1, .ofNat 0), (0, .ofNat 0, .ofNat 8), (7, .ofNat 1, .ofNat 0)), (2, 2, (6, .ofNat 1, .ofNat 0), (5, .ofNat 1, .ofNat 0), (0, .ofNat 0, .ofNat 0)), (0, 122, (0, .ofNat 0, .ofNat 0), (5, .ofNat 1, .ofNat 0), (0, .ofNat 0, .ofNat 0)), (3, 2, (3, .ofNat 1, .ofNat 0), (0, .ofNat 0, .ofNat 8), (6, .ofNat 1, .ofNat 0)), (2, 2, (4, .ofNat 1, .ofNat 0), (5, .ofNat 1, .ofNat 0), (0, .ofNat 0, .ofNat 0)), (0, 122, (0, .ofNat 0, .ofNat 0), (5, .ofNat 1, .ofNat 0), (0, .ofNat 0, .ofNat 0)), (3, 1, (3, .ofNat 1, .ofNat 0), (0, .ofNat 0, .ofNat 8), (4, .ofNat 1, .ofNat 0)), (2, 2, (3, .ofNat 1, .ofNat 0), (0, .ofNat 0, .ofNat 64), (0, .ofNat 0, .ofNat 0))], [(1, [(.ofNat 0, .ofNat 2147483647)]), (2, [(.ofNat 0, .ofNat 3)]), (3, [(.ofNat 0, .ofNat 63)]), (4, [(.ofNat 0, .ofNat 7)]), (5, [(.ofNat 1, .ofNat 8)]), (6, [(.ofNat 0, .ofNat 7)]), (7, [(.ofNat 0, .ofNat 7)]), (8, [(.ofNat 0, .ofNat 7)])], [], [])]
set_option maxRecDepth 1000000 in
theorem sg_fm_b_g : sg_go [] [20, 57] 3000 203 20 0 4 [(0, [(.ofNat 0, .ofNat 0)]), (1, [(.ofNat 0, .ofNat 2147483647)]), (2, [(.ofNat 0, .ofNat 3)]), (3, [(.ofNat 0, .ofNat 64)])] [] [] [] [(0, .inr (.inl [122])), (1, .inl (false, (1, .ofNat 1, .ofNat 0))), (2, .inl (false, (2, .ofNat 1, .ofNat 0))), (3, .inl (false, (3, .ofNat 1, .ofNat 0)))] [] [] sg_fm_b_Z = true := by decide +kernel
set_option maxRecDepth 100000 in
theorem sg_fm_b {Q : Option Value × am_S → Prop} {d : Nat} {S : am_S} {L : am_L} {x1 x2 x3 : Int} (hd : 0 ≤ d) (hP : ax_P0 none S) (l0 : lc L 0 122) (l1 : li L 1 x1) (l2 : li L 2 x2) (l3 : li L 3 x3) (b1 : (0 ≤ x1 ∧ x1 ≤ 2147483647)) (b2 : (0 ≤ x2 ∧ x2 ≤ 3)) (b3 : (0 ≤ x3 ∧ x3 ≤ 64))
    (k0 : ∀ (i1 : Int32), 64 ≤ x3 → (0 ≤ x1 ∧ x1 ≤ 2147483647) → (0 ≤ x2 ∧ x2 ≤ 3) → (64 ≤ x3 ∧ x3 ≤ 64) → i1.toInt = (-4) → Q (some (.int i1), S))
    (k1 : ∀ (x4 x5 : Int) (L' : am_L), x3 < 64 → (∃ a b : Int32, a.toInt = x3 ∧ b.toInt = 8 ∧ (a / b).toInt = x4) → rd S 122 0 = x5 → x5 ≤ x4 → (0 ≤ x1 ∧ x1 ≤ 2147483647) → (0 ≤ x2 ∧ x2 ≤ 3) → (0 ≤ x3 ∧ x3 ≤ 63) → (0 ≤ x4 ∧ x4 ≤ 7) → (0 ≤ x5 ∧ x5 ≤ 7) → lc L' 0 122 → li L' 1 x1 → li L' 2 x2 → li L' 3 (x3 + 1) → am_V none d 203 20 L' ([]) S Q)
    (k2 : ∀ (x4 x5 x6 : Int) (L' : am_L), x3 < 64 → (∃ a b : Int32, a.toInt = x3 ∧ b.toInt = 8 ∧ (a / b).toInt = x4) → rd S 122 0 = x5 → x4 < x5 → (∃ a b : Int32, a.toInt = x3 ∧ b.toInt = 8 ∧ (a - a / b * b).toInt = x6) → x5 ≤ x6 → (0 ≤ x1 ∧ x1 ≤ 2147483647) → (0 ≤ x2 ∧ x2 ≤ 3) → (0 ≤ x3 ∧ x3 ≤ 63) → (0 ≤ x4 ∧ x4 ≤ 7) → (1 ≤ x5 ∧ x5 ≤ 7) → (1 ≤ x6 ∧ x6 ≤ 7) → lc L' 0 122 → li L' 1 x1 → li L' 2 x2 → li L' 3 (x3 + 1) → am_V none d 203 20 L' ([]) S Q)
    (k3 : ∀ (x4 x5 x6 x7 x8 : Int) (L' : am_L) (i1 : Int32) (i2 : Int32), x3 < 64 → (∃ a b : Int32, a.toInt = x3 ∧ b.toInt = 8 ∧ (a / b).toInt = x4) → rd S 122 0 = x5 → x4 < x5 → (∃ a b : Int32, a.toInt = x3 ∧ b.toInt = 8 ∧ (a - a / b * b).toInt = x6) → x6 < x5 → (∃ a b : Int32, a.toInt = x3 ∧ b.toInt = 8 ∧ (a / b).toInt = x7) → (∃ a b : Int32, a.toInt = x3 ∧ b.toInt = 8 ∧ (a - a / b * b).toInt = x8) → (0 ≤ x1 ∧ x1 ≤ 2147483647) → (0 ≤ x2 ∧ x2 ≤ 3) → (0 ≤ x3 ∧ x3 ≤ 63) → (0 ≤ x4 ∧ x4 ≤ 7) → (1 ≤ x5 ∧ x5 ≤ 8) → (0 ≤ x6 ∧ x6 ≤ 7) → (0 ≤ x7 ∧ x7 ≤ 7) → (0 ≤ x8 ∧ x8 ≤ 7) → lc L' 0 122 → li L' 1 x1 → li L' 2 x2 → li L' 3 x3 → i1.toInt = x8 → i2.toInt = x7 → am_V none d 203 57 L' ((.int i1) :: (.int i2) :: (.ref 122) :: []) S Q) : am_V none d 203 20 L ([]) S Q := by
  refine sg_use sg_fm_b_g hd hP (sg_xs [0, x1, x2, x3]) ⟨⟨Int.le_refl 0, Int.le_refl 0⟩, b1, b2, b3, trivial⟩ trivial trivial trivial ⟨l0, l1, l2, l3, trivial⟩ trivial ?_
  intro z hz x' L' st' S' hx hP' hW hL' hs' hJ hE' hT' hD'
  have q1 : x' 1 = x1 := hx 1 (by decide)
  subst q1
  have q2 : x' 2 = x2 := hx 2 (by decide)
  subst q2
  have q3 : x' 3 = x3 := hx 3 (by decide)
  subst q3
  have eS : S' = S := hW.1 rfl
  subst eS
  simp only [sg_fm_b_Z, List.mem_cons, List.not_mem_nil, or_false] at hz
  rcases hz with rfl | rfl | rfl | rfl
  · obtain ⟨f0, hσ⟩ := hJ
    obtain ⟨e0, e1, e2, -⟩ := hE'
    intro v hv
    subst hv
    cases v with
    | none => exact hs'.elim
    | some v1 =>
      obtain ⟨⟨i1, rfl, g1⟩, -⟩ := hs'
      exact k0 i1 f0 e0 e1 e2 g1
  · obtain ⟨f0, f1, f2, f3, hσ⟩ := hJ
    obtain ⟨e0, e1, e2, e3, e4, -⟩ := hE'
    obtain ⟨p0, p1, p2, p3, -⟩ := hL'
    obtain rfl := sg_tn hs'
    exact k1 (x' 4) (x' 5) L' f0 f1 f2 f3 e0 e1 e2 e3 e4 p0 p1 p2 p3
  · obtain ⟨f0, f1, f2, f3, f4, -, f6, hσ⟩ := hJ
    obtain ⟨e0, e1, e2, e3, e4, e5, -⟩ := hE'
    obtain ⟨p0, p1, p2, p3, -⟩ := hL'
    obtain rfl := sg_tn hs'
    exact k2 (x' 4) (x' 5) (x' 6) L' f0 f1 f2 f3 f4 f6 e0 e1 e2 e3 e4 e5 p0 p1 p2 p3
  · obtain ⟨f0, f1, f2, f3, f4, -, f6, f7, f8, hσ⟩ := hJ
    obtain ⟨e0, e1, e2, e3, e4, e5, e6, e7, -⟩ := hE'
    obtain ⟨p0, p1, p2, p3, -⟩ := hL'
    obtain ⟨v1, r1, rfl, ⟨i1, rfl, g1⟩, hs1⟩ := sg_tc hs'
    obtain ⟨v2, r2, rfl, ⟨i2, rfl, g2⟩, hs2⟩ := sg_tc hs1
    obtain ⟨v3, r3, rfl, rfl, hs3⟩ := sg_tc hs2
    obtain rfl := sg_tn hs3
    exact k3 (x' 4) (x' 5) (x' 6) (x' 7) (x' 8) L' i1 i2 f0 f1 f2 f3 f4 f6 f7 f8 e0 e1 e2 e3 e4 e5 e6 e7 p0 p1 p2 p3 g1 g2
def sg_fm_c_Z : List sg_z := [(21, [(0, .inr (.inl [122])), (1, .inl (false, (1, .ofNat 1, .ofNat 0))), (2, .inl (false, (2, .ofNat 1, .ofNat 0))), (3, .inl (false, (3, .ofNat 1, .ofNat 1)))], [], [(2, 0, (4, .ofNat 1, .ofNat 0), (0, .ofNat 0, .ofNat 0), (0, .ofNat 0, .ofNat 0))], [(1, [(.ofNat 0, .ofNat 2147483647)]), (2, [(.ofNat 0, .ofNat 3)]), (3, [(.ofNat 0, .ofNat 63)]), (4, [(.ofNat 0, .ofNat 0)])], [], []),
  (70, [(0, .inr (.inl [122])), (1, .inl (false, (1, .ofNat 1, .ofNat 0))), (2, .inl (false, (2, .ofNat 1, .ofNat 0))), (3, .inl (false, (3, .ofNat 1, .ofNat 0))), (4, .inl (false, (0, .ofNat 0, .ofNat 0))), (5, .inl (false, (0, .ofNat 0, .ofNat 0)))], [], [(2, 1, (4, .ofNat 1, .ofNat 0), (0, .ofNat 0, .ofNat 0), (0, .ofNat 0, .ofNat 0))], [(1, [(.ofNat 0, .ofNat 2147483647)]), (2, [(.ofNat 0, .ofNat 3)]), (3, [(.ofNat 0, .ofNat 63)]), (4, [(.ofNat 1, .ofNat 1)])], [], [])]
set_option maxRecDepth 1000000 in
theorem sg_fm_c_g : sg_go [] [69, 20] 3000 203 60 0 5 [(0, [(.ofNat 0, .ofNat 0)]), (1, [(.ofNat 0, .ofNat 2147483647)]), (2, [(.ofNat 0, .ofNat 3)]), (3, [(.ofNat 0, .ofNat 63)]), (4, [(.ofNat 0, .ofNat 1)])] [] [] [] [(0, .inr (.inl [122])), (1, .inl (false, (1, .ofNat 1, .ofNat 0))), (2, .inl (false, (2, .ofNat 1, .ofNat 0))), (3, .inl (false, (3, .ofNat 1, .ofNat 0)))] [.inl (false, (4, .ofNat 1, .ofNat 0))] [] sg_fm_c_Z = true := by decide +kernel
set_option maxRecDepth 100000 in
theorem sg_fm_c {Q : Option Value × am_S → Prop} {d : Nat} {S : am_S} {L : am_L} {x1 x2 x3 x4 : Int} {i1 : Int32} (hd : 0 ≤ d) (hP : ax_P0 none S) (l0 : lc L 0 122) (l1 : li L 1 x1) (l2 : li L 2 x2) (l3 : li L 3 x3) (b1 : (0 ≤ x1 ∧ x1 ≤ 2147483647)) (b2 : (0 ≤ x2 ∧ x2 ≤ 3)) (b3 : (0 ≤ x3 ∧ x3 ≤ 63)) (b4 : (0 ≤ x4 ∧ x4 ≤ 1)) (s1 : i1.toInt = x4)
    (k0 : ∀ (L' : am_L), x4 = 0 → (0 ≤ x1 ∧ x1 ≤ 2147483647) → (0 ≤ x2 ∧ x2 ≤ 3) → (0 ≤ x3 ∧ x3 ≤ 63) → (0 ≤ x4 ∧ x4 ≤ 0) → lc L' 0 122 → li L' 1 x1 → li L' 2 x2 → li L' 3 (x3 + 1) → am_V none d 203 20 L' ([]) S Q)
    (k1 : ∀ (L' : am_L), x4 ≠ 0 → (0 ≤ x1 ∧ x1 ≤ 2147483647) → (0 ≤ x2 ∧ x2 ≤ 3) → (0 ≤ x3 ∧ x3 ≤ 63) → (1 ≤ x4 ∧ x4 ≤ 1) → lc L' 0 122 → li L' 1 x1 → li L' 2 x2 → li L' 3 x3 → li L' 4 0 → li L' 5 0 → am_V none d 203 69 L' ([]) S Q) : am_V none d 203 60 L ((.int i1) :: []) S Q := by
  refine sg_use sg_fm_c_g hd hP (sg_xs [0, x1, x2, x3, x4]) ⟨⟨Int.le_refl 0, Int.le_refl 0⟩, b1, b2, b3, b4, trivial⟩ trivial trivial trivial ⟨l0, l1, l2, l3, trivial⟩ ⟨⟨_, rfl, s1⟩, trivial⟩ ?_
  intro z hz x' L' st' S' hx hP' hW hL' hs' hJ hE' hT' hD'
  have q1 : x' 1 = x1 := hx 1 (by decide)
  subst q1
  have q2 : x' 2 = x2 := hx 2 (by decide)
  subst q2
  have q3 : x' 3 = x3 := hx 3 (by decide)
  subst q3
  have q4 : x' 4 = x4 := hx 4 (by decide)
  subst q4
  have eS : S' = S := hW.1 rfl
  subst eS
  simp only [sg_fm_c_Z, List.mem_cons, List.not_mem_nil, or_false] at hz
  rcases hz with rfl | rfl
  · obtain ⟨f0, hσ⟩ := hJ
    obtain ⟨e0, e1, e2, e3, -⟩ := hE'
    obtain ⟨p0, p1, p2, p3, -⟩ := hL'
    obtain rfl := sg_tn hs'
    exact k0 L' f0 e0 e1 e2 e3 p0 p1 p2 p3
  · obtain ⟨f0, hσ⟩ := hJ
    obtain ⟨e0, e1, e2, e3, -⟩ := hE'
    obtain ⟨p0, p1, p2, p3, p4, p5, -⟩ := hL'
    obtain rfl := sg_tn hs'
    exact k1 L' f0 e0 e1 e2 e3 p0 p1 p2 p3 p4 p5
def sg_fm_d_Z : List sg_z := [(21, [(0, .inr (.inl [122])), (1, .inl (false, (1, .ofNat 1, .ofNat 0))), (2, .inl (false, (2, .ofNat 1, .ofNat 0))), (3, .inl (false, (3, .ofNat 1, .ofNat 1))), (4, .inl (false, (4, .ofNat 1, .ofNat 0))), (5, .inl (false, (0, .ofNat 0, .ofNat 64)))], [], [(2, 1, (4, .ofNat 1, .ofNat 0), (1, .ofNat 1, .ofNat 0), (0, .ofNat 0, .ofNat 0)), (2, 3, (5, .ofNat 1, .ofNat 0), (0, .ofNat 0, .ofNat 64), (0, .ofNat 0, .ofNat 0))], [(1, [(.ofNat 0, .ofNat 2147483647)]), (2, [(.ofNat 0, .ofNat 3)]), (3, [(.ofNat 0, .ofNat 63)]), (4, [(.ofNat 0, .ofNat 64)]), (5, [(.ofNat 64, .ofNat 64)])], [], []),
  (189, [(0, .inr (.inl [122])), (1, .inl (false, (1, .ofNat 1, .ofNat 0))), (2, .inl (false, (2, .ofNat 1, .ofNat 0))), (3, .inl (false, (3, .ofNat 1, .ofNat 0))), (4, .inl (false, (4, .ofNat 1, .ofNat 0))), (5, .inl (false, (0, .ofNat 0, .ofNat 64)))], [.inl (false, (2, .ofNat 1, .ofNat 0)), .inl (false, (3, .ofNat 1, .ofNat 0)), .inr (.inl [122])], [(2, 0, (4, .ofNat 1, .ofNat 0), (1, .ofNat 1, .ofNat 0), (0, .ofNat 0, .ofNat 0)), (2, 3, (5, .ofNat 1, .ofNat 0), (0, .ofNat 0, .ofNat 64), (0, .ofNat 0, .ofNat 0))], [(1, [(.ofNat 0, .ofNat 64)]), (2, [(.ofNat 0, .ofNat 3)]), (3, [(.ofNat 0, .ofNat 63)]), (4, [(.ofNat 0, .ofNat 64)]), (5, [(.ofNat 64, .ofNat 64)])], [], []),
  (70, [(0, .inr (.inl [122])), (1, .inl (false, (1, .ofNat 1, .ofNat 0))), (2, .inl (false, (2, .ofNat 1, .ofNat 0))), (3, .inl (false, (3, .ofNat 1, .ofNat 0))), (4, .inl (false, (4, .ofNat 1, .ofNat 0))), (5, .inl (false, (5, .ofNat 1, .ofNat 1))), (6, .inl (false, (0, .ofNat 0, .ofNat 0)))], [], [(2, 0, (0, .ofNat 0, .ofNat 0), (0, .ofNat 0, .ofNat 0), (0, .ofNat 0, .ofNat 0)), (2, 3, (6, .ofNat 1, .ofNat 0), (7, .ofNat 1, .ofNat 0), (0, .ofNat 0, .ofNat 0)), (0, 122, (0, .ofNat 0, .ofNat 0), (7, .ofNat 1, .ofNat 0), (0, .ofNat 0, .ofNat 0)), (3, 1, (5, .ofNat 1, .ofNat 0), (0, .ofNat 0, .ofNat 8), (6, .ofNat 1, .ofNat 0)), (2, 2, (5, .ofNat 1, .ofNat 0), (0, .ofNat 0, .ofNat 64), (0, .ofNat 0, .ofNat 0))], [(1, [(.ofNat 0, .ofNat 2147483647)]), (2, [(.ofNat 0, .ofNat 3)]), (3, [(.ofNat 0, .ofNat 63)]), (4, [(.ofNat 0, .ofNat 64)]), (5, [(.ofNat 0, .ofNat 63)]), (6, [(.ofNat 0, .ofNat 7)]), (7, [(.ofNat 0, .ofNat 7)])], [], []),
  (70, [(0, .inr (.inl [122])), (1, .inl (false, (1, .ofNat 1, .ofNat 0))), (2, .inl (false, (2, .ofNat 1, .ofNat 0))), (3, .inl (false, (3, .ofNat 1, .ofNat 0))), (4, .inl (false, (4, .ofNat 1, .ofNat 0))), (5, .inl (false, (5, .ofNat 1, .ofNat 1))), (6, .inl (false, (0, .ofNat 0, .ofNat 0)))], [], [(2, 0, (0, .ofNat 0, .ofNat 0), (0, .ofNat 0, .ofNat 0), (0, .ofNat 0, .ofNat 0)), (2, 3, (8, .ofNat 1, .ofNat 0), (7, .ofNat 1, .ofNat 0), (0, .ofNat 0, .ofNat 0)), (0, 122, (0, .ofNat 0, .ofNat 0), (7, .ofNat 1, .ofNat 0), (0, .ofNat 0, .ofNat 0)), (3, 2, (5, .ofNat 1, .ofNat 0), (0, .ofNat 0, .ofNat 8), (8, .ofNat 1, .ofNat 0)), (2, 2, (6, .ofNat 1, .ofNat 0), (7, .ofNat 1, .ofNat 0), (0, .ofNat 0, .ofNat 0)), (0, 122, (0, .ofNat 0, .ofNat 0), (7, .ofNat 1, .ofNat 0), (0, .ofNat 0, .ofNat 0)), (3, 1, (5, .ofNat 1, .ofNat 0), (0, .ofNat 0, .ofNat 8), (6, .ofNat 1, .ofNat 0)), (2, 2, (5, .ofNat 1, .ofNat 0), (0, .ofNat 0, .ofNat 64), (0, .ofNat 0, .ofNat 0))], [(1, [(.ofNat 0, .ofNat 2147483647)]), (2, [(.ofNat 0, .ofNat 3)]), (3, [(.ofNat 0, .ofNat 63)]), (4, [(.ofNat 0, .ofNat 64)]), (5, [(.ofNat 0, .ofNat 63)]), (6, [(.ofNat 0, .ofNat 7)]), (7, [(.ofNat 1, .ofNat 7)]), (8, [(.ofNat 1, .ofNat 7)])], [], []),
  (112, [(0, .inr (.inl [122])), (1, .inl (false, (1, .ofNat 1, .ofNat 0))), (2, .inl (false, (2, .ofNat 1, .ofNat 0))), (3, .inl (false, (3, .ofNat 1, .ofNat 0))), (4, .inl (false, (4, .ofNat 1, .ofNat 0))), (5, .inl (false, (5, .ofNat 1, .ofNat 0)))], [.inl (false, (10, .ofNat 1, .ofNat 0)), .inl (false, (9, .ofNat 1, .ofNat 0)), .inr (.inl [122])], [(3, 2, (5, .ofNat 1, .ofNat 0), (0, .ofNat 0, .ofNat 8), (10, .ofNat 1, .ofNat 0)), (3, 1, (5, .ofNat 1, .ofNat 0), (0, .ofNat 0, .ofNat 8), (9, .ofNat 1, .ofNat 0)), (2, 2, (8, .ofNat 1, .ofNat 0), (7, .ofNat 1, .ofNat 0), (0, .ofNat 0, .ofNat 0)), (0, 122, (0, .ofNat 0, .ofNat 0), (7, .ofNat 1, .ofNat 0), (0, .ofNat 0, .ofNat 0)), (3, 2, (5, .ofNat 1, .ofNat 0), (0, .ofNat 0, .ofNat 8), (8, .ofNat 1, .ofNat 0)), (2, 2, (6, .ofNat 1, .ofNat 0), (7, .ofNat 1, .ofNat 0), (0, .ofNat 0, .ofNat 0)), (0, 122, (0, .ofNat 0, .ofNat 0), (7, .ofNat 1, .ofNat 0), (0, .ofNat 0, .ofNat 0)), (3, 1, (5, .ofNat 1, .ofNat 0), (0, .ofNat 0, .ofNat 8), (6, .ofNat 1, .ofNat 0)), (2, 2, (5, .ofNat 1, .ofNat 0), (0, .ofNat 0, .ofNat 64), (0, .ofNat 0, .ofNat 0))], [(1, [(.ofNat 0, .ofNat 2147483647)]), (2, [(.ofNat 0, .ofNat 3)]), (3, [(.ofNat 0, .ofNat 63)]), (4, [(.ofNat 0, .ofNat 64)]), (5, [(.ofNat 0, .ofNat 63)]), (6, [(.ofNat 0, .ofNat 7)]), (7, [(.ofNat 1, .ofNat 8)]), (8, [(.ofNat 0, .ofNat 7)]), (9, [(.ofNat 0, .ofNat 7)]), (10, [(.ofNat 0, .ofNat 7)])], [], [])]
set_option maxRecDepth 1000000 in
theorem sg_fm_d_g : sg_go [] [69, 111, 188, 20] 3000 203 69 0 6 [(0, [(.ofNat 0, .ofNat 0)]), (1, [(.ofNat 0, .ofNat 2147483647)]), (2, [(.ofNat 0, .ofNat 3)]), (3, [(.ofNat 0, .ofNat 63)]), (4, [(.ofNat 0, .ofNat 64)]), (5, [(.ofNat 0, .ofNat 64)])] [] [] [] [(0, .inr (.inl [122])), (1, .inl (false, (1, .ofNat 1, .ofNat 0))), (2, .inl (false, (2, .ofNat 1, .ofNat 0))), (3, .inl (false, (3, .ofNat 1, .ofNat 0))), (4, .inl (false, (4, .ofNat 1, .ofNat 0))), (5, .inl (false, (5, .ofNat 1, .ofNat 0)))] [] [] sg_fm_d_Z = true := by decide +kernel
set_option maxRecDepth 100000 in
theorem sg_fm_d {Q : Option Value × am_S → Prop} {d : Nat} {S : am_S} {L : am_L} {x1 x2 x3 x4 x5 : Int} (hd : 0 ≤ d) (hP : ax_P0 none S) (l0 : lc L 0 122) (l1 : li L 1 x1) (l2 : li L 2 x2) (l3 : li L 3 x3) (l4 : li L 4 x4) (l5 : li L 5 x5) (b1 : (0 ≤ x1 ∧ x1 ≤ 2147483647)) (b2 : (0 ≤ x2 ∧ x2 ≤ 3)) (b3 : (0 ≤ x3 ∧ x3 ≤ 63)) (b4 : (0 ≤ x4 ∧ x4 ≤ 64)) (b5 : (0 ≤ x5 ∧ x5 ≤ 64))
    (k0 : ∀ (L' : am_L), 64 ≤ x5 → x4 ≠ x1 → (0 ≤ x1 ∧ x1 ≤ 2147483647) → (0 ≤ x2 ∧ x2 ≤ 3) → (0 ≤ x3 ∧ x3 ≤ 63) → (0 ≤ x4 ∧ x4 ≤ 64) → (64 ≤ x5 ∧ x5 ≤ 64) → lc L' 0 122 → li L' 1 x1 → li L' 2 x2 → li L' 3 (x3 + 1) → li L' 4 x4 → li L' 5 64 → am_V none d 203 20 L' ([]) S Q)
    (k1 : ∀ (L' : am_L) (i1 : Int32) (i2 : Int32), 64 ≤ x5 → x4 = x1 → (0 ≤ x1 ∧ x1 ≤ 64) → (0 ≤ x2 ∧ x2 ≤ 3) → (0 ≤ x3 ∧ x3 ≤ 63) → (0 ≤ x4 ∧ x4 ≤ 64) → (64 ≤ x5 ∧ x5 ≤ 64) → lc L' 0 122 → li L' 1 x1 → li L' 2 x2 → li L' 3 x3 → li L' 4 x4 → li L' 5 64 → i1.toInt = x2 → i2.toInt = x3 → am_V none d 203 188 L' ((.int i1) :: (.int i2) :: (.ref 122) :: []) S Q)
    (k2 : ∀ (x6 x7 : Int) (L' : am_L), x5 < 64 → (∃ a b : Int32, a.toInt = x5 ∧ b.toInt = 8 ∧ (a / b).toInt = x6) → rd S 122 0 = x7 → x7 ≤ x6 → (0 ≤ x1 ∧ x1 ≤ 2147483647) → (0 ≤ x2 ∧ x2 ≤ 3) → (0 ≤ x3 ∧ x3 ≤ 63) → (0 ≤ x4 ∧ x4 ≤ 64) → (0 ≤ x5 ∧ x5 ≤ 63) → (0 ≤ x6 ∧ x6 ≤ 7) → (0 ≤ x7 ∧ x7 ≤ 7) → lc L' 0 122 → li L' 1 x1 → li L' 2 x2 → li L' 3 x3 → li L' 4 x4 → li L' 5 (x5 + 1) → li L' 6 0 → am_V none d 203 69 L' ([]) S Q)
    (k3 : ∀ (x6 x7 x8 : Int) (L' : am_L), x5 < 64 → (∃ a b : Int32, a.toInt = x5 ∧ b.toInt = 8 ∧ (a / b).toInt = x6) → rd S 122 0 = x7 → x6 < x7 → (∃ a b : Int32, a.toInt = x5 ∧ b.toInt = 8 ∧ (a - a / b * b).toInt = x8) → x7 ≤ x8 → (0 ≤ x1 ∧ x1 ≤ 2147483647) → (0 ≤ x2 ∧ x2 ≤ 3) → (0 ≤ x3 ∧ x3 ≤ 63) → (0 ≤ x4 ∧ x4 ≤ 64) → (0 ≤ x5 ∧ x5 ≤ 63) → (0 ≤ x6 ∧ x6 ≤ 7) → (1 ≤ x7 ∧ x7 ≤ 7) → (1 ≤ x8 ∧ x8 ≤ 7) → lc L' 0 122 → li L' 1 x1 → li L' 2 x2 → li L' 3 x3 → li L' 4 x4 → li L' 5 (x5 + 1) → li L' 6 0 → am_V none d 203 69 L' ([]) S Q)
    (k4 : ∀ (x6 x7 x8 x9 x10 : Int) (L' : am_L) (i1 : Int32) (i2 : Int32), x5 < 64 → (∃ a b : Int32, a.toInt = x5 ∧ b.toInt = 8 ∧ (a / b).toInt = x6) → rd S 122 0 = x7 → x6 < x7 → (∃ a b : Int32, a.toInt = x5 ∧ b.toInt = 8 ∧ (a - a / b * b).toInt = x8) → x8 < x7 → (∃ a b : Int32, a.toInt = x5 ∧ b.toInt = 8 ∧ (a / b).toInt = x9) → (∃ a b : Int32, a.toInt = x5 ∧ b.toInt = 8 ∧ (a - a / b * b).toInt = x10) → (0 ≤ x1 ∧ x1 ≤ 2147483647) → (0 ≤ x2 ∧ x2 ≤ 3) → (0 ≤ x3 ∧ x3 ≤ 63) → (0 ≤ x4 ∧ x4 ≤ 64) → (0 ≤ x5 ∧ x5 ≤ 63) → (0 ≤ x6 ∧ x6 ≤ 7) → (1 ≤ x7 ∧ x7 ≤ 8) → (0 ≤ x8 ∧ x8 ≤ 7) → (0 ≤ x9 ∧ x9 ≤ 7) → (0 ≤ x10 ∧ x10 ≤ 7) → lc L' 0 122 → li L' 1 x1 → li L' 2 x2 → li L' 3 x3 → li L' 4 x4 → li L' 5 x5 → i1.toInt = x10 → i2.toInt = x9 → am_V none d 203 111 L' ((.int i1) :: (.int i2) :: (.ref 122) :: []) S Q) : am_V none d 203 69 L ([]) S Q := by
  refine sg_use sg_fm_d_g hd hP (sg_xs [0, x1, x2, x3, x4, x5]) ⟨⟨Int.le_refl 0, Int.le_refl 0⟩, b1, b2, b3, b4, b5, trivial⟩ trivial trivial trivial ⟨l0, l1, l2, l3, l4, l5, trivial⟩ trivial ?_
  intro z hz x' L' st' S' hx hP' hW hL' hs' hJ hE' hT' hD'
  have q1 : x' 1 = x1 := hx 1 (by decide)
  subst q1
  have q2 : x' 2 = x2 := hx 2 (by decide)
  subst q2
  have q3 : x' 3 = x3 := hx 3 (by decide)
  subst q3
  have q4 : x' 4 = x4 := hx 4 (by decide)
  subst q4
  have q5 : x' 5 = x5 := hx 5 (by decide)
  subst q5
  have eS : S' = S := hW.1 rfl
  subst eS
  simp only [sg_fm_d_Z, List.mem_cons, List.not_mem_nil, or_false] at hz
  rcases hz with rfl | rfl | rfl | rfl | rfl
  · obtain ⟨f0, f1, hσ⟩ := hJ
    obtain ⟨e0, e1, e2, e3, e4, -⟩ := hE'
    obtain ⟨p0, p1, p2, p3, p4, p5, -⟩ := hL'
    obtain rfl := sg_tn hs'
    exact k0 L' f0 f1 e0 e1 e2 e3 e4 p0 p1 p2 p3 p4 p5
  · obtain ⟨f0, f1, hσ⟩ := hJ
    obtain ⟨e0, e1, e2, e3, e4, -⟩ := hE'
    obtain ⟨p0, p1, p2, p3, p4, p5, -⟩ := hL'
    obtain ⟨v1, r1, rfl, ⟨i1, rfl, g1⟩, hs1⟩ := sg_tc hs'
    obtain ⟨v2, r2, rfl, ⟨i2, rfl, g2⟩, hs2⟩ := sg_tc hs1
    obtain ⟨v3, r3, rfl, rfl, hs3⟩ := sg_tc hs2
    obtain rfl := sg_tn hs3
    exact k1 L' i1 i2 f0 f1 e0 e1 e2 e3 e4 p0 p1 p2 p3 p4 p5 g1 g2
  · obtain ⟨f0, f1, f2, f3, -, hσ⟩ := hJ
    obtain ⟨e0, e1, e2, e3, e4, e5, e6, -⟩ := hE'
    obtain ⟨p0, p1, p2, p3, p4, p5, p6, -⟩ := hL'
    obtain rfl := sg_tn hs'
    exact k2 (x' 6) (x' 7) L' f0 f1 f2 f3 e0 e1 e2 e3 e4 e5 e6 p0 p1 p2 p3 p4 p5 p6
  · obtain ⟨f0, f1, f2, f3, f4, -, f6, -, hσ⟩ := hJ
    obtain ⟨e0, e1, e2, e3, e4, e5, e6, e7, -⟩ := hE'
    obtain ⟨p0, p1, p2, p3, p4, p5, p6, -⟩ := hL'
    obtain rfl := sg_tn hs'
    exact k3 (x' 6) (x' 7) (x' 8) L' f0 f1 f2 f3 f4 f6 e0 e1 e2 e3 e4 e5 e6 e7 p0 p1 p2 p3 p4 p5 p6
  · obtain ⟨f0, f1, f2, f3, f4, -, f6, f7, f8, hσ⟩ := hJ
    obtain ⟨e0, e1, e2, e3, e4, e5, e6, e7, e8, e9, -⟩ := hE'
    obtain ⟨p0, p1, p2, p3, p4, p5, -⟩ := hL'
    obtain ⟨v1, r1, rfl, ⟨i1, rfl, g1⟩, hs1⟩ := sg_tc hs'
    obtain ⟨v2, r2, rfl, ⟨i2, rfl, g2⟩, hs2⟩ := sg_tc hs1
    obtain ⟨v3, r3, rfl, rfl, hs3⟩ := sg_tc hs2
    obtain rfl := sg_tn hs3
    exact k4 (x' 6) (x' 7) (x' 8) (x' 9) (x' 10) L' i1 i2 f0 f1 f2 f3 f4 f6 f7 f8 e0 e1 e2 e3 e4 e5 e6 e7 e8 e9 p0 p1 p2 p3 p4 p5 g1 g2
def sg_fm_e_Z : List sg_z := [(70, [(0, .inr (.inl [122])), (1, .inl (false, (1, .ofNat 1, .ofNat 0))), (2, .inl (false, (2, .ofNat 1, .ofNat 0))), (3, .inl (false, (3, .ofNat 1, .ofNat 0))), (4, .inl (false, (4, .ofNat 1, .ofNat 0))), (5, .inl (false, (5, .ofNat 1, .ofNat 1))), (6, .inl (false, (0, .ofNat 0, .ofNat 0)))], [], [(2, 0, (0, .ofNat 0, .ofNat 0), (0, .ofNat 0, .ofNat 0), (0, .ofNat 0, .ofNat 0)), (2, 0, (6, .ofNat 1, .ofNat 0), (0, .ofNat 0, .ofNat 0), (0, .ofNat 0, .ofNat 0))], [(1, [(.ofNat 0, .ofNat 2147483647)]), (2, [(.ofNat 0, .ofNat 3)]), (3, [(.ofNat 0, .ofNat 63)]), (4, [(.ofNat 0, .ofNat 64)]), (5, [(.ofNat 0, .ofNat 63)]), (6, [(.ofNat 0, .ofNat 0)])], [], []),
  (70, [(0, .inr (.inl [122])), (1, .inl (false, (1, .ofNat 1, .ofNat 0))), (2, .inl (false, (2, .ofNat 1, .ofNat 0))), (3, .inl (false, (3, .ofNat 1, .ofNat 0))), (4, .inl (false, (4, .ofNat 1, .ofNat 1))), (5, .inl (false, (5, .ofNat 1, .ofNat 1))), (6, .inl (false, (0, .ofNat 0, .ofNat 1)))], [], [(2, 2, (11, .ofNat 1, .ofNat 0), (16, .ofNat 1, .ofNat 0), (0, .ofNat 0, .ofNat 0)), (0, 123, (14, .ofNat 1, .ofNat 0), (15, .ofNat 1, .ofNat 0), (0, .ofNat 0, .ofNat 0)), (3, 2, (3, .ofNat 1, .ofNat 0), (0, .ofNat 0, .ofNat 8), (14, .ofNat 1, .ofNat 0)), (0, 123, (12, .ofNat 1, .ofNat 0), (13, .ofNat 1, .ofNat 0), (0, .ofNat 0, .ofNat 0)), (3, 1, (3, .ofNat 1, .ofNat 0), (0, .ofNat 0, .ofNat 8), (12, .ofNat 1, .ofNat 0)), (0, 123, (9, .ofNat 1, .ofNat 0), (10, .ofNat 1, .ofNat 0), (0, .ofNat 0, .ofNat 0)), (3, 2, (5, .ofNat 1, .ofNat 0), (0, .ofNat 0, .ofNat 8), (9, .ofNat 1, .ofNat 0)), (0, 123, (7, .ofNat 1, .ofNat 0), (8, .ofNat 1, .ofNat 0), (0, .ofNat 0, .ofNat 0)), (3, 1, (5, .ofNat 1, .ofNat 0), (0, .ofNat 0, .ofNat 8), (7, .ofNat 1, .ofNat 0)), (2, 1, (0, .ofNat 0, .ofNat 1), (0, .ofNat 0, .ofNat 0), (0, .ofNat 0, .ofNat 0)), (2, 1, (6, .ofNat 1, .ofNat 0), (0, .ofNat 0, .ofNat 0), (0, .ofNat 0, .ofNat 0))], [(1, [(.ofNat 0, .ofNat 2147483647)]), (2, [(.ofNat 0, .ofNat 3)]), (3, [(.ofNat 0, .ofNat 63)]), (4, [(.ofNat 0, .ofNat 64)]), (5, [(.ofNat 0, .ofNat 63)]), (6, [(.ofNat 1, .ofNat 1)]), (7, [(.ofNat 0, .ofNat 7)]), (8, [(.ofNat 0, .ofNat 1000000)]), (9, [(.ofNat 0, .ofNat 7)]), (10, [(.ofNat 0, .ofNat 1000000)]), (11, [(.negSucc 999999, .ofNat 999999)]), (12, [(.ofNat 0, .ofNat 7)]), (13, [(.ofNat 0, .ofNat 1000000)]), (14, [(.ofNat 0, .ofNat 7)]), (15, [(.ofNat 0, .ofNat 1000000)]), (16, [(.negSucc 999998, .ofNat 1000000)])], [((13, .ofNat 1, .ofNat 0), (15, .negSucc 0, .ofNat 0), (16, .ofNat 1, .ofNat 0)), ((8, .ofNat 1, .ofNat 0), (10, .negSucc 0, .ofNat 0), (11, .ofNat 1, .ofNat 0))], []),
  (70, [(0, .inr (.inl [122])), (1, .inl (false, (1, .ofNat 1, .ofNat 0))), (2, .inl (false, (2, .ofNat 1, .ofNat 0))), (3, .inl (false, (3, .ofNat 1, .ofNat 0))), (4, .inl (false, (4, .ofNat 1, .ofNat 0))), (5, .inl (false, (5, .ofNat 1, .ofNat 1))), (6, .inl (false, (0, .ofNat 0, .ofNat 1)))], [], [(2, 1, (21, .ofNat 1, .ofNat 0), (26, .ofNat 1, .ofNat 0), (0, .ofNat 0, .ofNat 0)), (0, 123, (24, .ofNat 1, .ofNat 0), (25, .ofNat 1, .ofNat 0), (0, .ofNat 0, .ofNat 0)), (3, 2, (3, .ofNat 1, .ofNat 0), (0, .ofNat 0, .ofNat 8), (24, .ofNat 1, .ofNat 0)), (0, 123, (22, .ofNat 1, .ofNat 0), (23, .ofNat 1, .ofNat 0), (0, .ofNat 0, .ofNat 0)), (3, 1, (3, .ofNat 1, .ofNat 0), (0, .ofNat 0, .ofNat 8), (22, .ofNat 1, .ofNat 0)), (0, 123, (19, .ofNat 1, .ofNat 0), (20, .ofNat 1, .ofNat 0), (0, .ofNat 0, .ofNat 0)), (3, 2, (5, .ofNat 1, .ofNat 0), (0, .ofNat 0, .ofNat 8), (19, .ofNat 1, .ofNat 0)), (0, 123, (17, .ofNat 1, .ofNat 0), (18, .ofNat 1, .ofNat 0), (0, .ofNat 0, .ofNat 0)), (3, 1, (5, .ofNat 1, .ofNat 0), (0, .ofNat 0, .ofNat 8), (17, .ofNat 1, .ofNat 0)), (2, 3, (11, .ofNat 1, .ofNat 0), (16, .ofNat 1, .ofNat 0), (0, .ofNat 0, .ofNat 0)), (0, 123, (14, .ofNat 1, .ofNat 0), (15, .ofNat 1, .ofNat 0), (0, .ofNat 0, .ofNat 0)), (3, 2, (3, .ofNat 1, .ofNat 0), (0, .ofNat 0, .ofNat 8), (14, .ofNat 1, .ofNat 0)), (0, 123, (12, .ofNat 1, .ofNat 0), (13, .ofNat 1, .ofNat 0), (0, .ofNat 0, .ofNat 0)), (3, 1, (3, .ofNat 1, .ofNat 0), (0, .ofNat 0, .ofNat 8), (12, .ofNat 1, .ofNat 0)), (0, 123, (9, .ofNat 1, .ofNat 0), (10, .ofNat 1, .ofNat 0), (0, .ofNat 0, .ofNat 0)), (3, 2, (5, .ofNat 1, .ofNat 0), (0, .ofNat 0, .ofNat 8), (9, .ofNat 1, .ofNat 0)), (0, 123, (7, .ofNat 1, .ofNat 0), (8, .ofNat 1, .ofNat 0), (0, .ofNat 0, .ofNat 0)), (3, 1, (5, .ofNat 1, .ofNat 0), (0, .ofNat 0, .ofNat 8), (7, .ofNat 1, .ofNat 0)), (2, 1, (0, .ofNat 0, .ofNat 1), (0, .ofNat 0, .ofNat 0), (0, .ofNat 0, .ofNat 0)), (2, 1, (6, .ofNat 1, .ofNat 0), (0, .ofNat 0, .ofNat 0), (0, .ofNat 0, .ofNat 0))], [(1, [(.ofNat 0, .ofNat 2147483647)]), (2, [(.ofNat 0, .ofNat 3)]), (3, [(.ofNat 0, .ofNat 63)]), (4, [(.ofNat 0, .ofNat 64)]), (5, [(.ofNat 0, .ofNat 63)]), (6, [(.ofNat 1, .ofNat 1)]), (7, [(.ofNat 0, .ofNat 7)]), (8, [(.ofNat 0, .ofNat 1000000)]), (9, [(.ofNat 0, .ofNat 7)]), (10, [(.ofNat 0, .ofNat 1000000)]), (11, [(.negSucc 999999, .ofNat 1000000)]), (12, [(.ofNat 0, .ofNat 7)]), (13, [(.ofNat 0, .ofNat 1000000)]), (14, [(.ofNat 0, .ofNat 7)]), (15, [(.ofNat 0, .ofNat 1000000)]), (16, [(.negSucc 999999, .ofNat 1000000)]), (17, [(.ofNat 0, .ofNat 7)]), (18, [(.ofNat 0, .ofNat 1000000)]), (19, [(.ofNat 0, .ofNat 7)]), (20, [(.ofNat 0, .ofNat 1000000)]), (21, [(.negSucc 999999, .ofNat 1000000)]), (22, [(.ofNat 0, .ofNat 7)]), (23, [(.ofNat 0, .ofNat 1000000)]), (24, [(.ofNat 0, .ofNat 7)]), (25, [(.ofNat 0, .ofNat 1000000)]), (26, [(.negSucc 999999, .ofNat 1000000)])], [((23, .ofNat 1, .ofNat 0), (25, .negSucc 0, .ofNat 0), (26, .ofNat 1, .ofNat 0)), ((18, .ofNat 1, .ofNat 0), (20, .negSucc 0, .ofNat 0), (21, .ofNat 1, .ofNat 0)), ((13, .ofNat 1, .ofNat 0), (15, .negSucc 0, .ofNat 0), (16, .ofNat 1, .ofNat 0)), ((8, .ofNat 1, .ofNat 0), (10, .negSucc 0, .ofNat 0), (11, .ofNat 1, .ofNat 0))], []),
  (70, [(0, .inr (.inl [122])), (1, .inl (false, (1, .ofNat 1, .ofNat 0))), (2, .inl (false, (2, .ofNat 1, .ofNat 0))), (3, .inl (false, (3, .ofNat 1, .ofNat 0))), (4, .inl (false, (4, .ofNat 1, .ofNat 0))), (5, .inl (false, (5, .ofNat 1, .ofNat 1))), (6, .inl (false, (0, .ofNat 0, .ofNat 1)))], [], [(2, 3, (5, .ofNat 1, .ofNat 0), (3, .ofNat 1, .ofNat 0), (0, .ofNat 0, .ofNat 0)), (2, 0, (21, .ofNat 1, .ofNat 0), (26, .ofNat 1, .ofNat 0), (0, .ofNat 0, .ofNat 0)), (0, 123, (24, .ofNat 1, .ofNat 0), (25, .ofNat 1, .ofNat 0), (0, .ofNat 0, .ofNat 0)), (3, 2, (3, .ofNat 1, .ofNat 0), (0, .ofNat 0, .ofNat 8), (24, .ofNat 1, .ofNat 0)), (0, 123, (22, .ofNat 1, .ofNat 0), (23, .ofNat 1, .ofNat 0), (0, .ofNat 0, .ofNat 0)), (3, 1, (3, .ofNat 1, .ofNat 0), (0, .ofNat 0, .ofNat 8), (22, .ofNat 1, .ofNat 0)), (0, 123, (19, .ofNat 1, .ofNat 0), (20, .ofNat 1, .ofNat 0), (0, .ofNat 0, .ofNat 0)), (3, 2, (5, .ofNat 1, .ofNat 0), (0, .ofNat 0, .ofNat 8), (19, .ofNat 1, .ofNat 0)), (0, 123, (17, .ofNat 1, .ofNat 0), (18, .ofNat 1, .ofNat 0), (0, .ofNat 0, .ofNat 0)), (3, 1, (5, .ofNat 1, .ofNat 0), (0, .ofNat 0, .ofNat 8), (17, .ofNat 1, .ofNat 0)), (2, 3, (11, .ofNat 1, .ofNat 0), (16, .ofNat 1, .ofNat 0), (0, .ofNat 0, .ofNat 0)), (0, 123, (14, .ofNat 1, .ofNat 0), (15, .ofNat 1, .ofNat 0), (0, .ofNat 0, .ofNat 0)), (3, 2, (3, .ofNat 1, .ofNat 0), (0, .ofNat 0, .ofNat 8), (14, .ofNat 1, .ofNat 0)), (0, 123, (12, .ofNat 1, .ofNat 0), (13, .ofNat 1, .ofNat 0), (0, .ofNat 0, .ofNat 0)), (3, 1, (3, .ofNat 1, .ofNat 0), (0, .ofNat 0, .ofNat 8), (12, .ofNat 1, .ofNat 0)), (0, 123, (9, .ofNat 1, .ofNat 0), (10, .ofNat 1, .ofNat 0), (0, .ofNat 0, .ofNat 0)), (3, 2, (5, .ofNat 1, .ofNat 0), (0, .ofNat 0, .ofNat 8), (9, .ofNat 1, .ofNat 0)), (0, 123, (7, .ofNat 1, .ofNat 0), (8, .ofNat 1, .ofNat 0), (0, .ofNat 0, .ofNat 0)), (3, 1, (5, .ofNat 1, .ofNat 0), (0, .ofNat 0, .ofNat 8), (7, .ofNat 1, .ofNat 0)), (2, 1, (0, .ofNat 0, .ofNat 1), (0, .ofNat 0, .ofNat 0), (0, .ofNat 0, .ofNat 0)), (2, 1, (6, .ofNat 1, .ofNat 0), (0, .ofNat 0, .ofNat 0), (0, .ofNat 0, .ofNat 0))], [(1, [(.ofNat 0, .ofNat 2147483647)]), (2, [(.ofNat 0, .ofNat 3)]), (3, [(.ofNat 0, .ofNat 63)]), (4, [(.ofNat 0, .ofNat 64)]), (5, [(.ofNat 0, .ofNat 63)]), (6, [(.ofNat 1, .ofNat 1)]), (7, [(.ofNat 0, .ofNat 7)]), (8, [(.ofNat 0, .ofNat 1000000)]), (9, [(.ofNat 0, .ofNat 7)]), (10, [(.ofNat 0, .ofNat 1000000)]), (11, [(.negSucc 999999, .ofNat 1000000)]), (12, [(.ofNat 0, .ofNat 7)]), (13, [(.ofNat 0, .ofNat 1000000)]), (14, [(.ofNat 0, .ofNat 7)]), (15, [(.ofNat 0, .ofNat 1000000)]), (16, [(.negSucc 999999, .ofNat 1000000)]), (17, [(.ofNat 0, .ofNat 7)]), (18, [(.ofNat 0, .ofNat 1000000)]), (19, [(.ofNat 0, .ofNat 7)]), (20, [(.ofNat 0, .ofNat 1000000)]), (21, [(.negSucc 999999, .ofNat 1000000)]), (22, [(.ofNat 0, .ofNat 7)]), (23, [(.ofNat 0, .ofNat 1000000)]), (24, [(.ofNat 0, .ofNat 7)]), (25, [(.ofNat 0, .ofNat 1000000)]), (26, [(.negSucc 999999, .ofNat 1000000)])], [((23, .ofNat 1, .ofNat 0), (25, .negSucc 0, .ofNat 0), (26, .ofNat 1, .ofNat 0)), ((18, .ofNat 1, .ofNat 0), (20, .negSucc 0, .ofNat 0), (21, .ofNat 1, .ofNat 0)), ((13, .ofNat 1, .ofNat 0), (15, .negSucc 0, .ofNat 0), (16, .ofNat 1, .ofNat 0)), ((8, .ofNat 1, .ofNat 0), (10, .negSucc 0, .ofNat 0), (11, .ofNat 1, .ofNat 0))], []),
  (70, [(0, .inr (.inl [122])), (1, .inl (false, (1, .ofNat 1, .ofNat 0))), (2, .inl (false, (2, .ofNat 1, .ofNat 0))), (3, .inl (false, (3, .ofNat 1, .ofNat 0))), (4, .inl (false, (4, .ofNat 1, .ofNat 1))), (5, .inl (false, (5, .ofNat 1, .ofNat 1))), (6, .inl (false, (0, .ofNat 0, .ofNat 1)))], [], [(2, 2, (5, .ofNat 1, .ofNat 0), (3, .ofNat 1, .ofNat 0), (0, .ofNat 0, .ofNat 0)), (2, 0, (21, .ofNat 1, .ofNat 0), (26, .ofNat 1, .ofNat 0), (0, .ofNat 0, .ofNat 0)), (0, 123, (24, .ofNat 1, .ofNat 0), (25, .ofNat 1, .ofNat 0), (0, .ofNat 0, .ofNat 0)), (3, 2, (3, .ofNat 1, .ofNat 0), (0, .ofNat 0, .ofNat 8), (24, .ofNat 1, .ofNat 0)), (0, 123, (22, .ofNat 1, .ofNat 0), (23, .ofNat 1, .ofNat 0), (0, .ofNat 0, .ofNat 0)), (3, 1, (3, .ofNat 1, .ofNat 0), (0, .ofNat 0, .ofNat 8), (22, .ofNat 1, .ofNat 0)), (0, 123, (19, .ofNat 1, .ofNat 0), (20, .ofNat 1, .ofNat 0), (0, .ofNat 0, .ofNat 0)), (3, 2, (5, .ofNat 1, .ofNat 0), (0, .ofNat 0, .ofNat 8), (19, .ofNat 1, .ofNat 0)), (0, 123, (17, .ofNat 1, .ofNat 0), (18, .ofNat 1, .ofNat 0), (0, .ofNat 0, .ofNat 0)), (3, 1, (5, .ofNat 1, .ofNat 0), (0, .ofNat 0, .ofNat 8), (17, .ofNat 1, .ofNat 0)), (2, 3, (11, .ofNat 1, .ofNat 0), (16, .ofNat 1, .ofNat 0), (0, .ofNat 0, .ofNat 0)), (0, 123, (14, .ofNat 1, .ofNat 0), (15, .ofNat 1, .ofNat 0), (0, .ofNat 0, .ofNat 0)), (3, 2, (3, .ofNat 1, .ofNat 0), (0, .ofNat 0, .ofNat 8), (14, .ofNat 1, .ofNat 0)), (0, 123, (12, .ofNat 1, .ofNat 0), (13, .ofNat 1, .ofNat 0), (0, .ofNat 0, .ofNat 0)), (3, 1, (3, .ofNat 1, .ofNat 0), (0, .ofNat 0, .ofNat 8), (12, .ofNat 1, .ofNat 0)), (0, 123, (9, .ofNat 1, .ofNat 0), (10, .ofNat 1, .ofNat 0), (0, .ofNat 0, .ofNat 0)), (3, 2, (5, .ofNat 1, .ofNat 0), (0, .ofNat 0, .ofNat 8), (9, .ofNat 1, .ofNat 0)), (0, 123, (7, .ofNat 1, .ofNat 0), (8, .ofNat 1, .ofNat 0), (0, .ofNat 0, .ofNat 0)), (3, 1, (5, .ofNat 1, .ofNat 0), (0, .ofNat 0, .ofNat 8), (7, .ofNat 1, .ofNat 0)), (2, 1, (0, .ofNat 0, .ofNat 1), (0, .ofNat 0, .ofNat 0), (0, .ofNat 0, .ofNat 0)), (2, 1, (6, .ofNat 1, .ofNat 0), (0, .ofNat 0, .ofNat 0), (0, .ofNat 0, .ofNat 0))], [(1, [(.ofNat 0, .ofNat 2147483647)]), (2, [(.ofNat 0, .ofNat 3)]), (3, [(.ofNat 1, .ofNat 63)]), (4, [(.ofNat 0, .ofNat 64)]), (5, [(.ofNat 0, .ofNat 62)]), (6, [(.ofNat 1, .ofNat 1)]), (7, [(.ofNat 0, .ofNat 7)]), (8, [(.ofNat 0, .ofNat 1000000)]), (9, [(.ofNat 0, .ofNat 7)]), (10, [(.ofNat 0, .ofNat 1000000)]), (11, [(.negSucc 999999, .ofNat 1000000)]), (12, [(.ofNat 0, .ofNat 7)]), (13, [(.ofNat 0, .ofNat 1000000)]), (14, [(.ofNat 0, .ofNat 7)]), (15, [(.ofNat 0, .ofNat 1000000)]), (16, [(.negSucc 999999, .ofNat 1000000)]), (17, [(.ofNat 0, .ofNat 7)]), (18, [(.ofNat 0, .ofNat 1000000)]), (19, [(.ofNat 0, .ofNat 7)]), (20, [(.ofNat 0, .ofNat 1000000)]), (21, [(.negSucc 999999, .ofNat 1000000)]), (22, [(.ofNat 0, .ofNat 7)]), (23, [(.ofNat 0, .ofNat 1000000)]), (24, [(.ofNat 0, .ofNat 7)]), (25, [(.ofNat 0, .ofNat 1000000)]), (26, [(.negSucc 999999, .ofNat 1000000)])], [((23, .ofNat 1, .ofNat 0), (25, .negSucc 0, .ofNat 0), (26, .ofNat 1, .ofNat 0)), ((18, .ofNat 1, .ofNat 0), (20, .negSucc 0, .ofNat 0), (21, .ofNat 1, .ofNat 0)), ((13, .ofNat 1, .ofNat 0), (15, .negSucc 0, .ofNat 0), (16, .ofNat 1, .ofNat 0)), ((8, .ofNat 1, .ofNat 0), (10, .negSucc 0, .ofNat 0), (11, .ofNat 1, .ofNat 0))], [])]
set_option maxRecDepth 1000000 in
theorem sg_fm_e_g : sg_go [] [69] 3000 203 114 1 7 [(0, [(.ofNat 0, .ofNat 0)]), (1, [(.ofNat 0, .ofNat 2147483647)]), (2, [(.ofNat 0, .ofNat 3)]), (3, [(.ofNat 0, .ofNat 63)]), (4, [(.ofNat 0, .ofNat 64)]), (5, [(.ofNat 0, .ofNat 63)]), (6, [(.ofNat 0, .ofNat 1)])] [] [] [] [(0, .inr (.inl [122])), (1, .inl (false, (1, .ofNat 1, .ofNat 0))), (2, .inl (false, (2, .ofNat 1, .ofNat 0))), (3, .inl (false, (3, .ofNat 1, .ofNat 0))), (4, .inl (false, (4, .ofNat 1, .ofNat 0))), (5, .inl (false, (5, .ofNat 1, .ofNat 0)))] [.inl (false, (6, .ofNat 1, .ofNat 0))] [] sg_fm_e_Z = true := by decide +kernel
set_option maxRecDepth 100000 in
theorem sg_fm_e {Q : Option Value × am_S → Prop} {d : Nat} {S : am_S} {L : am_L} {x1 x2 x3 x4 x5 x6 : Int} {i1 : Int32} (hd : 1 ≤ d) (hP : ax_P0 none S) (l0 : lc L 0 122) (l1 : li L 1 x1) (l2 : li L 2 x2) (l3 : li L 3 x3) (l4 : li L 4 x4) (l5 : li L 5 x5) (b1 : (0 ≤ x1 ∧ x1 ≤ 2147483647)) (b2 : (0 ≤ x2 ∧ x2 ≤ 3)) (b3 : (0 ≤ x3 ∧ x3 ≤ 63)) (b4 : (0 ≤ x4 ∧ x4 ≤ 64)) (b5 : (0 ≤ x5 ∧ x5 ≤ 63)) (b6 : (0 ≤ x6 ∧ x6 ≤ 1)) (s1 : i1.toInt = x6)
    (k0 : ∀ (L' : am_L), x6 = 0 → (0 ≤ x1 ∧ x1 ≤ 2147483647) → (0 ≤ x2 ∧ x2 ≤ 3) → (0 ≤ x3 ∧ x3 ≤ 63) → (0 ≤ x4 ∧ x4 ≤ 64) → (0 ≤ x5 ∧ x5 ≤ 63) → (0 ≤ x6 ∧ x6 ≤ 0) → lc L' 0 122 → li L' 1 x1 → li L' 2 x2 → li L' 3 x3 → li L' 4 x4 → li L' 5 (x5 + 1) → li L' 6 0 → am_V none d 203 69 L' ([]) S Q)
    (k1 : ∀ (x7 x8 x9 x10 x11 x12 x13 x14 x15 x16 : Int) (L' : am_L), x6 ≠ 0 → (∃ a b : Int32, a.toInt = x5 ∧ b.toInt = 8 ∧ (a / b).toInt = x7) → rd S 123 x7 = x8 → (∃ a b : Int32, a.toInt = x5 ∧ b.toInt = 8 ∧ (a - a / b * b).toInt = x9) → rd S 123 x9 = x10 → (∃ a b : Int32, a.toInt = x3 ∧ b.toInt = 8 ∧ (a / b).toInt = x12) → rd S 123 x12 = x13 → (∃ a b : Int32, a.toInt = x3 ∧ b.toInt = 8 ∧ (a - a / b * b).toInt = x14) → rd S 123 x14 = x15 → x11 < x16 → (0 ≤ x1 ∧ x1 ≤ 2147483647) → (0 ≤ x2 ∧ x2 ≤ 3) → (0 ≤ x3 ∧ x3 ≤ 63) → (0 ≤ x4 ∧ x4 ≤ 64) → (0 ≤ x5 ∧ x5 ≤ 63) → (1 ≤ x6 ∧ x6 ≤ 1) → (0 ≤ x7 ∧ x7 ≤ 7) → (0 ≤ x8 ∧ x8 ≤ 1000000) → (0 ≤ x9 ∧ x9 ≤ 7) → (0 ≤ x10 ∧ x10 ≤ 1000000) → ((-1000000) ≤ x11 ∧ x11 ≤ 999999) → (0 ≤ x12 ∧ x12 ≤ 7) → (0 ≤ x13 ∧ x13 ≤ 1000000) → (0 ≤ x14 ∧ x14 ≤ 7) → (0 ≤ x15 ∧ x15 ≤ 1000000) → ((-999999) ≤ x16 ∧ x16 ≤ 1000000) → x13 + ((-1) * x15 + 0) = x16 → x8 + ((-1) * x10 + 0) = x11 → lc L' 0 122 → li L' 1 x1 → li L' 2 x2 → li L' 3 x3 → li L' 4 (x4 + 1) → li L' 5 (x5 + 1) → li L' 6 1 → am_V none d 203 69 L' ([]) S Q)
    (k2 : ∀ (x7 x8 x9 x10 x11 x12 x13 x14 x15 x16 x17 x18 x19 x20 x21 x22 x23 x24 x25 x26 : Int) (L' : am_L), x6 ≠ 0 → (∃ a b : Int32, a.toInt = x5 ∧ b.toInt = 8 ∧ (a / b).toInt = x7) → rd S 123 x7 = x8 → (∃ a b : Int32, a.toInt = x5 ∧ b.toInt = 8 ∧ (a - a / b * b).toInt = x9) → rd S 123 x9 = x10 → (∃ a b : Int32, a.toInt = x3 ∧ b.toInt = 8 ∧ (a / b).toInt = x12) → rd S 123 x12 = x13 → (∃ a b : Int32, a.toInt = x3 ∧ b.toInt = 8 ∧ (a - a / b * b).toInt = x14) → rd S 123 x14 = x15 → x16 ≤ x11 → (∃ a b : Int32, a.toInt = x5 ∧ b.toInt = 8 ∧ (a / b).toInt = x17) → rd S 123 x17 = x18 → (∃ a b : Int32, a.toInt = x5 ∧ b.toInt = 8 ∧ (a - a / b * b).toInt = x19) → rd S 123 x19 = x20 → (∃ a b : Int32, a.toInt = x3 ∧ b.toInt = 8 ∧ (a / b).toInt = x22) → rd S 123 x22 = x23 → (∃ a b : Int32, a.toInt = x3 ∧ b.toInt = 8 ∧ (a - a / b * b).toInt = x24) → rd S 123 x24 = x25 → x21 ≠ x26 → (0 ≤ x1 ∧ x1 ≤ 2147483647) → (0 ≤ x2 ∧ x2 ≤ 3) → (0 ≤ x3 ∧ x3 ≤ 63) → (0 ≤ x4 ∧ x4 ≤ 64) → (0 ≤ x5 ∧ x5 ≤ 63) → (1 ≤ x6 ∧ x6 ≤ 1) → (0 ≤ x7 ∧ x7 ≤ 7) → (0 ≤ x8 ∧ x8 ≤ 1000000) → (0 ≤ x9 ∧ x9 ≤ 7) → (0 ≤ x10 ∧ x10 ≤ 1000000) → ((-1000000) ≤ x11 ∧ x11 ≤ 1000000) → (0 ≤ x12 ∧ x12 ≤ 7) → (0 ≤ x13 ∧ x13 ≤ 1000000) → (0 ≤ x14 ∧ x14 ≤ 7) → (0 ≤ x15 ∧ x15 ≤ 1000000) → ((-1000000) ≤ x16 ∧ x16 ≤ 1000000) → (0 ≤ x17 ∧ x17 ≤ 7) → (0 ≤ x18 ∧ x18 ≤ 1000000) → (0 ≤ x19 ∧ x19 ≤ 7) → (0 ≤ x20 ∧ x20 ≤ 1000000) → ((-1000000) ≤ x21 ∧ x21 ≤ 1000000) → (0 ≤ x22 ∧ x22 ≤ 7) → (0 ≤ x23 ∧ x23 ≤ 1000000) → (0 ≤ x24 ∧ x24 ≤ 7) → (0 ≤ x25 ∧ x25 ≤ 1000000) → ((-1000000) ≤ x26 ∧ x26 ≤ 1000000) → x23 + ((-1) * x25 + 0) = x26 → x18 + ((-1) * x20 + 0) = x21 → x13 + ((-1) * x15 + 0) = x16 → x8 + ((-1) * x10 + 0) = x11 → lc L' 0 122 → li L' 1 x1 → li L' 2 x2 → li L' 3 x3 → li L' 4 x4 → li L' 5 (x5 + 1) → li L' 6 1 → am_V none d 203 69 L' ([]) S Q)
    (k3 : ∀ (x7 x8 x9 x10 x11 x12 x13 x14 x15 x16 x17 x18 x19 x20 x21 x22 x23 x24 x25 x26 : Int) (L' : am_L), x6 ≠ 0 → (∃ a b : Int32, a.toInt = x5 ∧ b.toInt = 8 ∧ (a / b).toInt = x7) → rd S 123 x7 = x8 → (∃ a b : Int32, a.toInt = x5 ∧ b.toInt = 8 ∧ (a - a / b * b).toInt = x9) → rd S 123 x9 = x10 → (∃ a b : Int32, a.toInt = x3 ∧ b.toInt = 8 ∧ (a / b).toInt = x12) → rd S 123 x12 = x13 → (∃ a b : Int32, a.toInt = x3 ∧ b.toInt = 8 ∧ (a - a / b * b).toInt = x14) → rd S 123 x14 = x15 → x16 ≤ x11 → (∃ a b : Int32, a.toInt = x5 ∧ b.toInt = 8 ∧ (a / b).toInt = x17) → rd S 123 x17 = x18 → (∃ a b : Int32, a.toInt = x5 ∧ b.toInt = 8 ∧ (a - a / b * b).toInt = x19) → rd S 123 x19 = x20 → (∃ a b : Int32, a.toInt = x3 ∧ b.toInt = 8 ∧ (a / b).toInt = x22) → rd S 123 x22 = x23 → (∃ a b : Int32, a.toInt = x3 ∧ b.toInt = 8 ∧ (a - a / b * b).toInt = x24) → rd S 123 x24 = x25 → x21 = x26 → x3 ≤ x5 → (0 ≤ x1 ∧ x1 ≤ 2147483647) → (0 ≤ x2 ∧ x2 ≤ 3) → (0 ≤ x3 ∧ x3 ≤ 63) → (0 ≤ x4 ∧ x4 ≤ 64) → (0 ≤ x5 ∧ x5 ≤ 63) → (1 ≤ x6 ∧ x6 ≤ 1) → (0 ≤ x7 ∧ x7 ≤ 7) → (0 ≤ x8 ∧ x8 ≤ 1000000) → (0 ≤ x9 ∧ x9 ≤ 7) → (0 ≤ x10 ∧ x10 ≤ 1000000) → ((-1000000) ≤ x11 ∧ x11 ≤ 1000000) → (0 ≤ x12 ∧ x12 ≤ 7) → (0 ≤ x13 ∧ x13 ≤ 1000000) → (0 ≤ x14 ∧ x14 ≤ 7) → (0 ≤ x15 ∧ x15 ≤ 1000000) → ((-1000000) ≤ x16 ∧ x16 ≤ 1000000) → (0 ≤ x17 ∧ x17 ≤ 7) → (0 ≤ x18 ∧ x18 ≤ 1000000) → (0 ≤ x19 ∧ x19 ≤ 7) → (0 ≤ x20 ∧ x20 ≤ 1000000) → ((-1000000) ≤ x21 ∧ x21 ≤ 1000000) → (0 ≤ x22 ∧ x22 ≤ 7) → (0 ≤ x23 ∧ x23 ≤ 1000000) → (0 ≤ x24 ∧ x24 ≤ 7) → (0 ≤ x25 ∧ x25 ≤ 1000000) → ((-1000000) ≤ x26 ∧ x26 ≤ 1000000) → x23 + ((-1) * x25 + 0) = x26 → x18 + ((-1) * x20 + 0) = x21 → x13 + ((-1) * x15 + 0) = x16 → x8 + ((-1) * x10 + 0) = x11 → lc L' 0 122 → li L' 1 x1 → li L' 2 x2 → li L' 3 x3 → li L' 4 x4 → li L' 5 (x5 + 1) → li L' 6 1 → am_V none d 203 69 L' ([]) S Q)
    (k4 : ∀ (x7 x8 x9 x10 x11 x12 x13 x14 x15 x16 x17 x18 x19 x20 x21 x22 x23 x24 x25 x26 : Int) (L' : am_L), x6 ≠ 0 → (∃ a b : Int32, a.toInt = x5 ∧ b.toInt = 8 ∧ (a / b).toInt = x7) → rd S 123 x7 = x8 → (∃ a b : Int32, a.toInt = x5 ∧ b.toInt = 8 ∧ (a - a / b * b).toInt = x9) → rd S 123 x9 = x10 → (∃ a b : Int32, a.toInt = x3 ∧ b.toInt = 8 ∧ (a / b).toInt = x12) → rd S 123 x12 = x13 → (∃ a b : Int32, a.toInt = x3 ∧ b.toInt = 8 ∧ (a - a / b * b).toInt = x14) → rd S 123 x14 = x15 → x16 ≤ x11 → (∃ a b : Int32, a.toInt = x5 ∧ b.toInt = 8 ∧ (a / b).toInt = x17) → rd S 123 x17 = x18 → (∃ a b : Int32, a.toInt = x5 ∧ b.toInt = 8 ∧ (a - a / b * b).toInt = x19) → rd S 123 x19 = x20 → (∃ a b : Int32, a.toInt = x3 ∧ b.toInt = 8 ∧ (a / b).toInt = x22) → rd S 123 x22 = x23 → (∃ a b : Int32, a.toInt = x3 ∧ b.toInt = 8 ∧ (a - a / b * b).toInt = x24) → rd S 123 x24 = x25 → x21 = x26 → x5 < x3 → (0 ≤ x1 ∧ x1 ≤ 2147483647) → (0 ≤ x2 ∧ x2 ≤ 3) → (1 ≤ x3 ∧ x3 ≤ 63) → (0 ≤ x4 ∧ x4 ≤ 64) → (0 ≤ x5 ∧ x5 ≤ 62) → (1 ≤ x6 ∧ x6 ≤ 1) → (0 ≤ x7 ∧ x7 ≤ 7) → (0 ≤ x8 ∧ x8 ≤ 1000000) → (0 ≤ x9 ∧ x9 ≤ 7) → (0 ≤ x10 ∧ x10 ≤ 1000000) → ((-1000000) ≤ x11 ∧ x11 ≤ 1000000) → (0 ≤ x12 ∧ x12 ≤ 7) → (0 ≤ x13 ∧ x13 ≤ 1000000) → (0 ≤ x14 ∧ x14 ≤ 7) → (0 ≤ x15 ∧ x15 ≤ 1000000) → ((-1000000) ≤ x16 ∧ x16 ≤ 1000000) → (0 ≤ x17 ∧ x17 ≤ 7) → (0 ≤ x18 ∧ x18 ≤ 1000000) → (0 ≤ x19 ∧ x19 ≤ 7) → (0 ≤ x20 ∧ x20 ≤ 1000000) → ((-1000000) ≤ x21 ∧ x21 ≤ 1000000) → (0 ≤ x22 ∧ x22 ≤ 7) → (0 ≤ x23 ∧ x23 ≤ 1000000) → (0 ≤ x24 ∧ x24 ≤ 7) → (0 ≤ x25 ∧ x25 ≤ 1000000) → ((-1000000) ≤ x26 ∧ x26 ≤ 1000000) → x23 + ((-1) * x25 + 0) = x26 → x18 + ((-1) * x20 + 0) = x21 → x13 + ((-1) * x15 + 0) = x16 → x8 + ((-1) * x10 + 0) = x11 → lc L' 0 122 → li L' 1 x1 → li L' 2 x2 → li L' 3 x3 → li L' 4 (x4 + 1) → li L' 5 (x5 + 1) → li L' 6 1 → am_V none d 203 69 L' ([]) S Q) : am_V none d 203 114 L ((.int i1) :: []) S Q := by
  refine sg_use sg_fm_e_g hd hP (sg_xs [0, x1, x2, x3, x4, x5, x6]) ⟨⟨Int.le_refl 0, Int.le_refl 0⟩, b1, b2, b3, b4, b5, b6, trivial⟩ trivial trivial trivial ⟨l0, l1, l2, l3, l4, l5, trivial⟩ ⟨⟨_, rfl, s1⟩, trivial⟩ ?_
  intro z hz x' L' st' S' hx hP' hW hL' hs' hJ hE' hT' hD'
  have q1 : x' 1 = x1 := hx 1 (by decide)
  subst q1
  have q2 : x' 2 = x2 := hx 2 (by decide)
  subst q2
  have q3 : x' 3 = x3 := hx 3 (by decide)
  subst q3
  have q4 : x' 4 = x4 := hx 4 (by decide)
  subst q4
  have q5 : x' 5 = x5 := hx 5 (by decide)
  subst q5
  have q6 : x' 6 = x6 := hx 6 (by decide)
  subst q6
  have eS : S' = S := hW.1 rfl
  subst eS
  simp only [sg_fm_e_Z, List.mem_cons, List.not_mem_nil, or_false] at hz
  rcases hz with rfl | rfl | rfl | rfl | rfl
  · obtain ⟨f0, -, hσ⟩ := hJ
    obtain ⟨e0, e1, e2, e3, e4, e5, -⟩ := hE'
    obtain ⟨p0, p1, p2, p3, p4, p5, p6, -⟩ := hL'
    obtain rfl := sg_tn hs'
    exact k0 L' f0 e0 e1 e2 e3 e4 e5 p0 p1 p2 p3 p4 p5 p6
  · obtain ⟨f0, -, f2, f3, f4, f5, f6, f7, f8, f9, f10, hσ⟩ := hJ
    obtain ⟨e0, e1, e2, e3, e4, e5, e6, e7, e8, e9, e10, e11, e12, e13, e14, e15, -⟩ := hE'
    obtain ⟨t0, t1, -⟩ := hT'
    obtain ⟨p0, p1, p2, p3, p4, p5, p6, -⟩ := hL'
    obtain rfl := sg_tn hs'
    exact k1 (x' 7) (x' 8) (x' 9) (x' 10) (x' 11) (x' 12) (x' 13) (x' 14) (x' 15) (x' 16) L' f0 f2 f3 f4 f5 f6 f7 f8 f9 f10 e0 e1 e2 e3 e4 e5 e6 e7 e8 e9 e10 e11 e12 e13 e14 e15 t0 t1 p0 p1 p2 p3 p4 p5 p6
  · obtain ⟨f0, -, f2, f3, f4, f5, f6, f7, f8, f9, f10, f11, f12, f13, f14, f15, f16, f17, f18, f19, hσ⟩ := hJ
    obtain ⟨e0, e1, e2, e3, e4, e5, e6, e7, e8, e9, e10, e11, e12, e13, e14, e15, e16, e17, e18, e19, e20, e21, e22, e23, e24, e25, -⟩ := hE'
    obtain ⟨t0, t1, t2, t3, -⟩ := hT'
    obtain ⟨p0, p1, p2, p3, p4, p5, p6, -⟩ := hL'
    obtain rfl := sg_tn hs'
    exact k2 (x' 7) (x' 8) (x' 9) (x' 10) (x' 11) (x' 12) (x' 13) (x' 14) (x' 15) (x' 16) (x' 17) (x' 18) (x' 19) (x' 20) (x' 21) (x' 22) (x' 23) (x' 24) (x' 25) (x' 26) L' f0 f2 f3 f4 f5 f6 f7 f8 f9 f10 f11 f12 f13 f14 f15 f16 f17 f18 f19 e0 e1 e2 e3 e4 e5 e6 e7 e8 e9 e10 e11 e12 e13 e14 e15 e16 e17 e18 e19 e20 e21 e22 e23 e24 e25 t0 t1 t2 t3 p0 p1 p2 p3 p4 p5 p6
  · obtain ⟨f0, -, f2, f3, f4, f5, f6, f7, f8, f9, f10, f11, f12, f13, f14, f15, f16, f17, f18, f19, f20, hσ⟩ := hJ
    obtain ⟨e0, e1, e2, e3, e4, e5, e6, e7, e8, e9, e10, e11, e12, e13, e14, e15, e16, e17, e18, e19, e20, e21, e22, e23, e24, e25, -⟩ := hE'
    obtain ⟨t0, t1, t2, t3, -⟩ := hT'
    obtain ⟨p0, p1, p2, p3, p4, p5, p6, -⟩ := hL'
    obtain rfl := sg_tn hs'
    exact k3 (x' 7) (x' 8) (x' 9) (x' 10) (x' 11) (x' 12) (x' 13) (x' 14) (x' 15) (x' 16) (x' 17) (x' 18) (x' 19) (x' 20) (x' 21) (x' 22) (x' 23) (x' 24) (x' 25) (x' 26) L' f0 f2 f3 f4 f5 f6 f7 f8 f9 f10 f11 f12 f13 f14 f15 f16 f17 f18 f19 f20 e0 e1 e2 e3 e4 e5 e6 e7 e8 e9 e10 e11 e12 e13 e14 e15 e16 e17 e18 e19 e20 e21 e22 e23 e24 e25 t0 t1 t2 t3 p0 p1 p2 p3 p4 p5 p6
  · obtain ⟨f0, -, f2, f3, f4, f5, f6, f7, f8, f9, f10, f11, f12, f13, f14, f15, f16, f17, f18, f19, f20, hσ⟩ := hJ
    obtain ⟨e0, e1, e2, e3, e4, e5, e6, e7, e8, e9, e10, e11, e12, e13, e14, e15, e16, e17, e18, e19, e20, e21, e22, e23, e24, e25, -⟩ := hE'
    obtain ⟨t0, t1, t2, t3, -⟩ := hT'
    obtain ⟨p0, p1, p2, p3, p4, p5, p6, -⟩ := hL'
    obtain rfl := sg_tn hs'
    exact k4 (x' 7) (x' 8) (x' 9) (x' 10) (x' 11) (x' 12) (x' 13) (x' 14) (x' 15) (x' 16) (x' 17) (x' 18) (x' 19) (x' 20) (x' 21) (x' 22) (x' 23) (x' 24) (x' 25) (x' 26) L' f0 f2 f3 f4 f5 f6 f7 f8 f9 f10 f11 f12 f13 f14 f15 f16 f17 f18 f19 f20 e0 e1 e2 e3 e4 e5 e6 e7 e8 e9 e10 e11 e12 e13 e14 e15 e16 e17 e18 e19 e20 e21 e22 e23 e24 e25 t0 t1 t2 t3 p0 p1 p2 p3 p4 p5 p6
def sg_to_a_Z : List sg_z := [(6, [(0, .inr (.inl [122])), (1, .inl (false, (1, .ofNat 1, .ofNat 0))), (2, .inl (false, (2, .ofNat 1, .ofNat 0))), (3, .inl (false, (0, .ofNat 0, .ofNat 0))), (4, .inl (false, (0, .ofNat 0, .ofNat 0)))], [], [], [(1, [(.ofNat 0, .ofNat 63)]), (2, [(.ofNat 0, .ofNat 3)])], [], [])]
set_option maxRecDepth 1000000 in
theorem sg_to_a_g : sg_go [] [5] 3000 204 0 0 3 [(0, [(.ofNat 0, .ofNat 0)]), (1, [(.ofNat 0, .ofNat 63)]), (2, [(.ofNat 0, .ofNat 3)])] [] [] [] [(0, .inr (.inl [122])), (1, .inl (false, (1, .ofNat 1, .ofNat 0))), (2, .inl (false, (2, .ofNat 1, .ofNat 0)))] [] [] sg_to_a_Z = true := by decide +kernel
set_option maxRecDepth 100000 in
theorem sg_to_a {Q : Option Value × am_S → Prop} {d : Nat} {S : am_S} {L : am_L} {x1 x2 : Int} (hd : 0 ≤ d) (hP : ax_P0 none S) (l0 : lc L 0 122) (l1 : li L 1 x1) (l2 : li L 2 x2) (b1 : (0 ≤ x1 ∧ x1 ≤ 63)) (b2 : (0 ≤ x2 ∧ x2 ≤ 3))
    (k0 : ∀ (L' : am_L), (0 ≤ x1 ∧ x1 ≤ 63) → (0 ≤ x2 ∧ x2 ≤ 3) → lc L' 0 122 → li L' 1 x1 → li L' 2 x2 → li L' 3 0 → li L' 4 0 → am_V none d 204 5 L' ([]) S Q) : am_V none d 204 0 L ([]) S Q := by
  refine sg_use sg_to_a_g hd hP (sg_xs [0, x1, x2]) ⟨⟨Int.le_refl 0, Int.le_refl 0⟩, b1, b2, trivial⟩ trivial trivial trivial ⟨l0, l1, l2, trivial⟩ trivial ?_
  intro z hz x' L' st' S' hx hP' hW hL' hs' hJ hE' hT' hD'
  have q1 : x' 1 = x1 := hx 1 (by decide)
  subst q1
  have q2 : x' 2 = x2 := hx 2 (by decide)
  subst q2
  have eS : S' = S := hW.1 rfl
  subst eS
  simp only [sg_to_a_Z, List.mem_cons, List.not_mem_nil, or_false] at hz
  rcases hz with rfl
  · have hσ := hJ
    obtain ⟨e0, e1, -⟩ := hE'
    obtain ⟨p0, p1, p2, p3, p4, -⟩ := hL'
    obtain rfl := sg_tn hs'
    exact k0 L' e0 e1 p0 p1 p2 p3 p4
def sg_to_b_Z : List sg_z := [(46, [(0, .inr (.inl [122])), (1, .inl (false, (1, .ofNat 1, .ofNat 0))), (2, .inl (false, (2, .ofNat 1, .ofNat 0))), (3, .inl (false, (3, .ofNat 1, .ofNat 0))), (4, .inl (false, (4, .ofNat 1, .ofNat 0)))], [], [(2, 3, (4, .ofNat 1, .ofNat 0), (5, .ofNat 1, .ofNat 0), (0, .ofNat 0, .ofNat 0)), (0, 122, (0, .ofNat 0, .ofNat 5), (5, .ofNat 1, .ofNat 0), (0, .ofNat 0, .ofNat 0))], [(1, [(.ofNat 0, .ofNat 63)]), (2, [(.ofNat 0, .ofNat 3)]), (3, [(.ofNat 0, .ofNat 16)]), (4, [(.ofNat 0, .ofNat 16)]), (5, [(.ofNat 0, .ofNat 16)])], [], []),
  (27, [(0, .inr (.inl [122])), (1, .inl (false, (1, .ofNat 1, .ofNat 0))), (2, .inl (false, (2, .ofNat 1, .ofNat 0))), (3, .inl (false, (3, .ofNat 1, .ofNat 0))), (4, .inl (false, (4, .ofNat 1, .ofNat 0)))], [.inl (false, (7, .ofNat 1, .ofNat 0)), .inl (false, (6, .ofNat 1, .ofNat 0)), .inl (false, (4, .ofNat 1, .ofNat 0)), .inr (.inl [122]), .inl (false, (3, .ofNat 1, .ofNat 0))], [(3, 2, (1, .ofNat 1, .ofNat 0), (0, .ofNat 0, .ofNat 8), (7, .ofNat 1, .ofNat 0)), (3, 1, (1, .ofNat 1, .ofNat 0), (0, .ofNat 0, .ofNat 8), (6, .ofNat 1, .ofNat 0)), (2, 2, (4, .ofNat 1, .ofNat 0), (5, .ofNat 1, .ofNat 0), (0, .ofNat 0, .ofNat 0)), (0, 122, (0, .ofNat 0, .ofNat 5), (5, .ofNat 1, .ofNat 0), (0, .ofNat 0, .ofNat 0))], [(1, [(.ofNat 0, .ofNat 63)]), (2, [(.ofNat 0, .ofNat 3)]), (3, [(.ofNat 0, .ofNat 16)]), (4, [(.ofNat 0, .ofNat 15)]), (5, [(.ofNat 1, .ofNat 16)]), (6, [(.ofNat 0, .ofNat 7)]), (7, [(.ofNat 0, .ofNat 7)])], [], [])]
set_option maxRecDepth 1000000 in
theorem sg_to_b_g : sg_go [] [26, 45] 3000 204 5 0 5 [(0, [(.ofNat 0, .ofNat 0)]), (1, [(.ofNat 0, .ofNat 63)]), (2, [(.ofNat 0, .ofNat 3)]), (3, [(.ofNat 0, .ofNat 16)]), (4, [(.ofNat 0, .ofNat 16)])] [] [] [] [(0, .inr (.inl [122])), (1, .inl (false, (1, .ofNat 1, .ofNat 0))), (2, .inl (false, (2, .ofNat 1, .ofNat 0))), (3, .inl (false, (3, .ofNat 1, .ofNat 0))), (4, .inl (false, (4, .ofNat 1, .ofNat 0)))] [] [] sg_to_b_Z = true := by decide +kernel
set_option maxRecDepth 100000 in
theorem sg_to_b {Q : Option Value × am_S → Prop} {d : Nat} {S : am_S} {L : am_L} {x1 x2 x3 x4 : Int} (hd : 0 ≤ d) (hP : ax_P0 none S) (l0 : lc L 0 122) (l1 : li L 1 x1) (l2 : li L 2 x2) (l3 : li L 3 x3) (l4 : li L 4 x4) (b1 : (0 ≤ x1 ∧ x1 ≤ 63)) (b2 : (0 ≤ x2 ∧ x2 ≤ 3)) (b3 : (0 ≤ x3 ∧ x3 ≤ 16)) (b4 : (0 ≤ x4 ∧ x4 ≤ 16))
    (k0 : ∀ (x5 : Int) (L' : am_L), rd S 122 5 = x5 → x5 ≤ x4 → (0 ≤ x1 ∧ x1 ≤ 63) → (0 ≤ x2 ∧ x2 ≤ 3) → (0 ≤ x3 ∧ x3 ≤ 16) → (0 ≤ x4 ∧ x4 ≤ 16) → (0 ≤ x5 ∧ x5 ≤ 16) → lc L' 0 122 → li L' 1 x1 → li L' 2 x2 → li L' 3 x3 → li L' 4 x4 → am_V none d 204 45 L' ([]) S Q)
    (k1 : ∀ (x5 x6 x7 : Int) (L' : am_L) (i1 : Int32) (i2 : Int32) (i3 : Int32) (i5 : Int32), rd S 122 5 = x5 → x4 < x5 → (∃ a b : Int32, a.toInt = x1 ∧ b.toInt = 8 ∧ (a / b).toInt = x6) → (∃ a b : Int32, a.toInt = x1 ∧ b.toInt = 8 ∧ (a - a / b * b).toInt = x7) → (0 ≤ x1 ∧ x1 ≤ 63) → (0 ≤ x2 ∧ x2 ≤ 3) → (0 ≤ x3 ∧ x3 ≤ 16) → (0 ≤ x4 ∧ x4 ≤ 15) → (1 ≤ x5 ∧ x5 ≤ 16) → (0 ≤ x6 ∧ x6 ≤ 7) → (0 ≤ x7 ∧ x7 ≤ 7) → lc L' 0 122 → li L' 1 x1 → li L' 2 x2 → li L' 3 x3 → li L' 4 x4 → i1.toInt = x7 → i2.toInt = x6 → i3.toInt = x4 → i5.toInt = x3 → am_V none d 204 26 L' ((.int i1) :: (.int i2) :: (.int i3) :: (.ref 122) :: (.int i5) :: []) S Q) : am_V none d 204 5 L ([]) S Q := by
  refine sg_use sg_to_b_g hd hP (sg_xs [0, x1, x2, x3, x4]) ⟨⟨Int.le_refl 0, Int.le_refl 0⟩, b1, b2, b3, b4, trivial⟩ trivial trivial trivial ⟨l0, l1, l2, l3, l4, trivial⟩ trivial ?_
  intro z hz x' L' st' S' hx hP' hW hL' hs' hJ hE' hT' hD'
  have q1 : x' 1 = x1 := hx 1 (by decide)
  subst q1
  have q2 : x' 2 = x2 := hx 2 (by decide)
  subst q2
  have q3 : x' 3 = x3 := hx 3 (by decide)
  subst q3
  have q4 : x' 4 = x4 := hx 4 (by decide)
  subst q4
  have eS : S' = S := hW.1 rfl
  subst eS
  simp only [sg_to_b_Z, List.mem_cons, List.not_mem_nil, or_false] at hz
  rcases hz with rfl | rfl
  · obtain ⟨f0, f1, hσ⟩ := hJ
    obtain ⟨e0, e1, e2, e3, e4, -⟩ := hE'
    obtain ⟨p0, p1, p2, p3, p4, -⟩ := hL'
    obtain rfl := sg_tn hs'
    exact k0 (x' 5) L' f0 f1 e0 e1 e2 e3 e4 p0 p1 p2 p3 p4
  · obtain ⟨f0, f1, f2, f3, hσ⟩ := hJ
    obtain ⟨e0, e1, e2, e3, e4, e5, e6, -⟩ := hE'
    obtain ⟨p0, p1, p2, p3, p4, -⟩ := hL'
    obtain ⟨v1, r1, rfl, ⟨i1, rfl, g1⟩, hs1⟩ := sg_tc hs'
    obtain ⟨v2, r2, rfl, ⟨i2, rfl, g2⟩, hs2⟩ := sg_tc hs1
    obtain ⟨v3, r3, rfl, ⟨i3, rfl, g3⟩, hs3⟩ := sg_tc hs2
    obtain ⟨v4, r4, rfl, rfl, hs4⟩ := sg_tc hs3
    obtain ⟨v5, r5, rfl, ⟨i5, rfl, g5⟩, hs5⟩ := sg_tc hs4
    obtain rfl := sg_tn hs5
    exact k1 (x' 5) (x' 6) (x' 7) L' i1 i2 i3 i5 f0 f1 f2 f3 e0 e1 e2 e3 e4 e5 e6 p0 p1 p2 p3 p4 g1 g2 g3 g5
def sg_to_c_Z : List sg_z := [(6, [(0, .inr (.inl [122])), (1, .inl (false, (1, .ofNat 1, .ofNat 0))), (2, .inl (false, (2, .ofNat 1, .ofNat 0))), (3, .inl (false, (5, .ofNat 1, .ofNat 0))), (4, .inl (false, (3, .ofNat 1, .ofNat 1)))], [], [(2, 0, (4, .ofNat 1, .ofNat 0), (0, .ofNat 0, .ofNat 0), (0, .ofNat 0, .ofNat 0))], [(1, [(.ofNat 0, .ofNat 63)]), (2, [(.ofNat 0, .ofNat 3)]), (3, [(.ofNat 0, .ofNat 15)]), (4, [(.ofNat 0, .ofNat 0)]), (5, [(.ofNat 0, .ofNat 16)])], [], []),
  (6, [(0, .inr (.inl [122])), (1, .inl (false, (1, .ofNat 1, .ofNat 0))), (2, .inl (false, (2, .ofNat 1, .ofNat 0))), (3, .inl (false, (5, .ofNat 1, .ofNat 1))), (4, .inl (false, (3, .ofNat 1, .ofNat 1)))], [], [(2, 1, (4, .ofNat 1, .ofNat 0), (0, .ofNat 0, .ofNat 0), (0, .ofNat 0, .ofNat 0))], [(1, [(.ofNat 0, .ofNat 63)]), (2, [(.ofNat 0, .ofNat 3)]), (3, [(.ofNat 0, .ofNat 15)]), (4, [(.ofNat 1, .ofNat 1)]), (5, [(.ofNat 0, .ofNat 16)])], [], [])]
set_option maxRecDepth 1000000 in
theorem sg_to_c_g : sg_go [] [5] 3000 204 29 0 6 [(0, [(.ofNat 0, .ofNat 0)]), (1, [(.ofNat 0, .ofNat 63)]), (2, [(.ofNat 0, .ofNat 3)]), (3, [(.ofNat 0, .ofNat 15)]), (4, [(.ofNat 0, .ofNat 1)]), (5, [(.ofNat 0, .ofNat 16)])] [] [] [] [(0, .inr (.inl [122])), (1, .inl (false, (1, .ofNat 1, .ofNat 0))), (2, .inl (false, (2, .ofNat 1, .ofNat 0))), (4, .inl (false, (3, .ofNat 1, .ofNat 0)))] [.inl (false, (4, .ofNat 1, .ofNat 0)), .inl (false, (5, .ofNat 1, .ofNat 0))] [] sg_to_c_Z = true := by decide +kernel
set_option maxRecDepth 100000 in
theorem sg_to_c {Q : Option Value × am_S → Prop} {d : Nat} {S : am_S} {L : am_L} {x1 x2 x3 x4 x5 : Int} {i1 : Int32} {i2 : Int32} (hd : 0 ≤ d) (hP : ax_P0 none S) (l0 : lc L 0 122) (l1 : li L 1 x1) (l2 : li L 2 x2) (l4 : li L 4 x3) (b1 : (0 ≤ x1 ∧ x1 ≤ 63)) (b2 : (0 ≤ x2 ∧ x2 ≤ 3)) (b3 : (0 ≤ x3 ∧ x3 ≤ 15)) (b4 : (0 ≤ x4 ∧ x4 ≤ 1)) (b5 : (0 ≤ x5 ∧ x5 ≤ 16)) (s1 : i1.toInt = x4) (s2 : i2.toInt = x5)
    (k0 : ∀ (L' : am_L), x4 = 0 → (0 ≤ x1 ∧ x1 ≤ 63) → (0 ≤ x2 ∧ x2 ≤ 3) → (0 ≤ x3 ∧ x3 ≤ 15) → (0 ≤ x4 ∧ x4 ≤ 0) → (0 ≤ x5 ∧ x5 ≤ 16) → lc L' 0 122 → li L' 1 x1 → li L' 2 x2 → li L' 3 x5 → li L' 4 (x3 + 1) → am_V none d 204 5 L' ([]) S Q)
    (k1 : ∀ (L' : am_L), x4 ≠ 0 → (0 ≤ x1 ∧ x1 ≤ 63) → (0 ≤ x2 ∧ x2 ≤ 3) → (0 ≤ x3 ∧ x3 ≤ 15) → (1 ≤ x4 ∧ x4 ≤ 1) → (0 ≤ x5 ∧ x5 ≤ 16) → lc L' 0 122 → li L' 1 x1 → li L' 2 x2 → li L' 3 (x5 + 1) → li L' 4 (x3 + 1) → am_V none d 204 5 L' ([]) S Q) : am_V none d 204 29 L ((.int i1) :: (.int i2) :: []) S Q := by
  refine sg_use sg_to_c_g hd hP (sg_xs [0, x1, x2, x3, x4, x5]) ⟨⟨Int.le_refl 0, Int.le_refl 0⟩, b1, b2, b3, b4, b5, trivial⟩ trivial trivial trivial ⟨l0, l1, l2, l4, trivial⟩ ⟨⟨_, rfl, s1⟩, ⟨_, rfl, s2⟩, trivial⟩ ?_
  intro z hz x' L' st' S' hx hP' hW hL' hs' hJ hE' hT' hD'
  have q1 : x' 1 = x1 := hx 1 (by decide)
  subst q1
  have q2 : x' 2 = x2 := hx 2 (by decide)
  subst q2
  have q3 : x' 3 = x3 := hx 3 (by decide)
  subst q3
  have q4 : x' 4 = x4 := hx 4 (by decide)
  subst q4
  have q5 : x' 5 = x5 := hx 5 (by decide)
  subst q5
  have eS : S' = S := hW.1 rfl
  subst eS
  simp only [sg_to_c_Z, List.mem_cons, List.not_mem_nil, or_false] at hz
  rcases hz with rfl | rfl
  · obtain ⟨f0, hσ⟩ := hJ
    obtain ⟨e0, e1, e2, e3, e4, -⟩ := hE'
    obtain ⟨p0, p1, p2, p3, p4, -⟩ := hL'
    obtain rfl := sg_tn hs'
    exact k0 L' f0 e0 e1 e2 e3 e4 p0 p1 p2 p3 p4
  · obtain ⟨f0, hσ⟩ := hJ
    obtain ⟨e0, e1, e2, e3, e4, -⟩ := hE'
    obtain ⟨p0, p1, p2, p3, p4, -⟩ := hL'
    obtain rfl := sg_tn hs'
    exact k1 L' f0 e0 e1 e2 e3 e4 p0 p1 p2 p3 p4
def sg_to_d_Z : List sg_z := [(0, [], [.inl (false, (3, .ofNat 1, .ofNat 0))], [(2, 1, (2, .ofNat 1, .ofNat 0), (0, .ofNat 0, .ofNat 2), (0, .ofNat 0, .ofNat 0)), (2, 1, (2, .ofNat 1, .ofNat 0), (0, .ofNat 0, .ofNat 1), (0, .ofNat 0, .ofNat 0)), (2, 1, (2, .ofNat 1, .ofNat 0), (0, .ofNat 0, .ofNat 0), (0, .ofNat 0, .ofNat 0))], [(1, [(.ofNat 0, .ofNat 63)]), (2, [(.ofNat 3, .ofNat 3)]), (3, [(.ofNat 0, .ofNat 16)])], [], []),
  (0, [], [.inl (false, (4, .ofNat 1, .ofNat 0))], [(3, 2, (1, .ofNat 1, .ofNat 0), (0, .ofNat 0, .ofNat 8), (4, .ofNat 1, .ofNat 0)), (2, 0, (2, .ofNat 1, .ofNat 0), (0, .ofNat 0, .ofNat 2), (0, .ofNat 0, .ofNat 0)), (2, 1, (2, .ofNat 1, .ofNat 0), (0, .ofNat 0, .ofNat 1), (0, .ofNat 0, .ofNat 0)), (2, 1, (2, .ofNat 1, .ofNat 0), (0, .ofNat 0, .ofNat 0), (0, .ofNat 0, .ofNat 0))], [(1, [(.ofNat 0, .ofNat 63)]), (2, [(.ofNat 2, .ofNat 2)]), (3, [(.ofNat 0, .ofNat 16)]), (4, [(.ofNat 0, .ofNat 7)])], [], []),
  (0, [], [.inl (false, (4, .ofNat 1, .ofNat 0))], [(3, 1, (1, .ofNat 1, .ofNat 0), (0, .ofNat 0, .ofNat 8), (4, .ofNat 1, .ofNat 0)), (2, 0, (2, .ofNat 1, .ofNat 0), (0, .ofNat 0, .ofNat 1), (0, .ofNat 0, .ofNat 0)), (2, 1, (2, .ofNat 1, .ofNat 0), (0, .ofNat 0, .ofNat 0), (0, .ofNat 0, .ofNat 0))], [(1, [(.ofNat 0, .ofNat 63)]), (2, [(.ofNat 1, .ofNat 1)]), (3, [(.ofNat 0, .ofNat 16)]), (4, [(.ofNat 0, .ofNat 7)])], [], []),
  (0, [], [.inl (false, (8, .ofNat 1, .ofNat 0))], [(0, 123, (6, .ofNat 1, .ofNat 0), (7, .ofNat 1, .ofNat 0), (0, .ofNat 0, .ofNat 0)), (3, 2, (1, .ofNat 1, .ofNat 0), (0, .ofNat 0, .ofNat 8), (6, .ofNat 1, .ofNat 0)), (0, 123, (4, .ofNat 1, .ofNat 0), (5, .ofNat 1, .ofNat 0), (0, .ofNat 0, .ofNat 0)), (3, 1, (1, .ofNat 1, .ofNat 0), (0, .ofNat 0, .ofNat 8), (4, .ofNat 1, .ofNat 0)), (2, 0, (2, .ofNat 1, .ofNat 0), (0, .ofNat 0, .ofNat 0), (0, .ofNat 0, .ofNat 0))], [(1, [(.ofNat 0, .ofNat 63)]), (2, [(.ofNat 0, .ofNat 0)]), (3, [(.ofNat 0, .ofNat 16)]), (4, [(.ofNat 0, .ofNat 7)]), (5, [(.ofNat 0, .ofNat 1000000)]), (6, [(.ofNat 0, .ofNat 7)]), (7, [(.ofNat 0, .ofNat 1000000)]), (8, [(.negSucc 999999, .ofNat 1000000)])], [((5, .ofNat 1, .ofNat 0), (7, .negSucc 0, .ofNat 0), (8, .ofNat 1, .ofNat 0))], [])]
set_option maxRecDepth 1000000 in
theorem sg_to_d_g : sg_go [] [] 3000 204 45 1 4 [(0, [(.ofNat 0, .ofNat 0)]), (1, [(.ofNat 0, .ofNat 63)]), (2, [(.ofNat 0, .ofNat 3)]), (3, [(.ofNat 0, .ofNat 16)])] [] [] [] [(0, .inr (.inl [122])), (1, .inl (false, (1, .ofNat 1, .ofNat 0))), (2, .inl (false, (2, .ofNat 1, .ofNat 0))), (3, .inl (false, (3, .ofNat 1, .ofNat 0)))] [] [] sg_to_d_Z = true := by decide +kernel
set_option maxRecDepth 100000 in
theorem sg_to_d {Q : Option Value × am_S → Prop} {d : Nat} {S : am_S} {L : am_L} {x1 x2 x3 : Int} (hd : 1 ≤ d) (hP : ax_P0 none S) (l0 : lc L 0 122) (l1 : li L 1 x1) (l2 : li L 2 x2) (l3 : li L 3 x3) (b1 : (0 ≤ x1 ∧ x1 ≤ 63)) (b2 : (0 ≤ x2 ∧ x2 ≤ 3)) (b3 : (0 ≤ x3 ∧ x3 ≤ 16))
    (k0 : ∀ (i1 : Int32), x2 ≠ 0 → x2 ≠ 1 → x2 ≠ 2 → (0 ≤ x1 ∧ x1 ≤ 63) → (3 ≤ x2 ∧ x2 ≤ 3) → (0 ≤ x3 ∧ x3 ≤ 16) → i1.toInt = x3 → Q (some (.int i1), S))
    (k1 : ∀ (x4 : Int) (i1 : Int32), x2 ≠ 0 → x2 ≠ 1 → x2 = 2 → (∃ a b : Int32, a.toInt = x1 ∧ b.toInt = 8 ∧ (a - a / b * b).toInt = x4) → (0 ≤ x1 ∧ x1 ≤ 63) → (2 ≤ x2 ∧ x2 ≤ 2) → (0 ≤ x3 ∧ x3 ≤ 16) → (0 ≤ x4 ∧ x4 ≤ 7) → i1.toInt = x4 → Q (some (.int i1), S))
    (k2 : ∀ (x4 : Int) (i1 : Int32), x2 ≠ 0 → x2 = 1 → (∃ a b : Int32, a.toInt = x1 ∧ b.toInt = 8 ∧ (a / b).toInt = x4) → (0 ≤ x1 ∧ x1 ≤ 63) → (1 ≤ x2 ∧ x2 ≤ 1) → (0 ≤ x3 ∧ x3 ≤ 16) → (0 ≤ x4 ∧ x4 ≤ 7) → i1.toInt = x4 → Q (some (.int i1), S))
    (k3 : ∀ (x4 x5 x6 x7 x8 : Int) (i1 : Int32), x2 = 0 → (∃ a b : Int32, a.toInt = x1 ∧ b.toInt = 8 ∧ (a / b).toInt = x4) → rd S 123 x4 = x5 → (∃ a b : Int32, a.toInt = x1 ∧ b.toInt = 8 ∧ (a - a / b * b).toInt = x6) → rd S 123 x6 = x7 → (0 ≤ x1 ∧ x1 ≤ 63) → (0 ≤ x2 ∧ x2 ≤ 0) → (0 ≤ x3 ∧ x3 ≤ 16) → (0 ≤ x4 ∧ x4 ≤ 7) → (0 ≤ x5 ∧ x5 ≤ 1000000) → (0 ≤ x6 ∧ x6 ≤ 7) → (0 ≤ x7 ∧ x7 ≤ 1000000) → ((-1000000) ≤ x8 ∧ x8 ≤ 1000000) → x5 + ((-1) * x7 + 0) = x8 → i1.toInt = x8 → Q (some (.int i1), S)) : am_V none d 204 45 L ([]) S Q := by
  refine sg_use sg_to_d_g hd hP (sg_xs [0, x1, x2, x3]) ⟨⟨Int.le_refl 0, Int.le_refl 0⟩, b1, b2, b3, trivial⟩ trivial trivial trivial ⟨l0, l1, l2, l3, trivial⟩ trivial ?_
  intro z hz x' L' st' S' hx hP' hW hL' hs' hJ hE' hT' hD'
  have q1 : x' 1 = x1 := hx 1 (by decide)
  subst q1
  have q2 : x' 2 = x2 := hx 2 (by decide)
  subst q2
  have q3 : x' 3 = x3 := hx 3 (by decide)
  subst q3
  have eS : S' = S := hW.1 rfl
  subst eS
  simp only [sg_to_d_Z, List.mem_cons, List.not_mem_nil, or_false] at hz
  rcases hz with rfl | rfl | rfl | rfl
  · obtain ⟨f0, f1, f2, hσ⟩ := hJ
    obtain ⟨e0, e1, e2, -⟩ := hE'
    intro v hv
    subst hv
    cases v with
    | none => exact hs'.elim
    | some v1 =>
      obtain ⟨⟨i1, rfl, g1⟩, -⟩ := hs'
      exact k0 i1 f0 f1 f2 e0 e1 e2 g1
  · obtain ⟨f0, f1, f2, f3, hσ⟩ := hJ
    obtain ⟨e0, e1, e2, e3, -⟩ := hE'
    intro v hv
    subst hv
    cases v with
    | none => exact hs'.elim
    | some v1 =>
      obtain ⟨⟨i1, rfl, g1⟩, -⟩ := hs'
      exact k1 (x' 4) i1 f0 f1 f2 f3 e0 e1 e2 e3 g1
  · obtain ⟨f0, f1, f2, hσ⟩ := hJ
    obtain ⟨e0, e1, e2, e3, -⟩ := hE'
    intro v hv
    subst hv
    cases v with
    | none => exact hs'.elim
    | some v1 =>
      obtain ⟨⟨i1, rfl, g1⟩, -⟩ := hs'
      exact k2 (x' 4) i1 f0 f1 f2 e0 e1 e2 e3 g1
  · obtain ⟨f0, f1, f2, f3, f4, hσ⟩ := hJ
    obtain ⟨e0, e1, e2, e3, e4, e5, e6, e7, -⟩ := hE'
    obtain ⟨t0, -⟩ := hT'
    intro v hv
    subst hv
    cases v with
    | none => exact hs'.elim
    | some v1 =>
      obtain ⟨⟨i1, rfl, g1⟩, -⟩ := hs'
      exact k3 (x' 4) (x' 5) (x' 6) (x' 7) (x' 8) i1 f0 f1 f2 f3 f4 e0 e1 e2 e3 e4 e5 e6 e7 t0 g1
