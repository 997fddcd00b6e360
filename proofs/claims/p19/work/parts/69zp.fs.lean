/-! ===== heights, lines taken, versions, acts: what happens from place to place ===== -/
def sg_hg_x0_Z : List sg_z := [(0, [], [.inl (false, (0, .ofNat 0, .negSucc 0))], [(2, 0, (0, .ofNat 0, .ofNat 0), (0, .ofNat 0, .ofNat 0), (0, .ofNat 0, .ofNat 0)), (2, 2, (1, .ofNat 1, .ofNat 0), (0, .ofNat 0, .ofNat 0), (0, .ofNat 0, .ofNat 0))], [(1, [(.negSucc 2147483647, .negSucc 0)])], [], []),
  (0, [], [.inl (false, (0, .ofNat 0, .negSucc 0))], [(2, 0, (0, .ofNat 0, .ofNat 0), (0, .ofNat 0, .ofNat 0), (0, .ofNat 0, .ofNat 0)), (2, 3, (1, .ofNat 1, .ofNat 0), (3, .ofNat 1, .ofNat 0), (0, .ofNat 0, .ofNat 0)), (0, 1, (0, .ofNat 0, .ofNat 0), (3, .ofNat 1, .ofNat 0), (0, .ofNat 0, .ofNat 0)), (2, 3, (1, .ofNat 1, .ofNat 0), (0, .ofNat 0, .ofNat 0), (0, .ofNat 0, .ofNat 0))], [(1, [(.ofNat 0, .ofNat 2147483647)]), (3, [(.ofNat 0, .ofNat 8)])], [], []),
  (0, [], [.inl (false, (0, .ofNat 0, .negSucc 0))], [(2, 0, (0, .ofNat 0, .ofNat 0), (0, .ofNat 0, .ofNat 0), (0, .ofNat 0, .ofNat 0)), (2, 2, (2, .ofNat 1, .ofNat 0), (0, .ofNat 0, .ofNat 0), (0, .ofNat 0, .ofNat 0)), (2, 1, (0, .ofNat 0, .ofNat 1), (0, .ofNat 0, .ofNat 0), (0, .ofNat 0, .ofNat 0)), (2, 2, (1, .ofNat 1, .ofNat 0), (3, .ofNat 1, .ofNat 0), (0, .ofNat 0, .ofNat 0)), (0, 1, (0, .ofNat 0, .ofNat 0), (3, .ofNat 1, .ofNat 0), (0, .ofNat 0, .ofNat 0)), (2, 3, (1, .ofNat 1, .ofNat 0), (0, .ofNat 0, .ofNat 0), (0, .ofNat 0, .ofNat 0))], [(1, [(.ofNat 0, .ofNat 7)]), (2, [(.negSucc 2147483647, .negSucc 0)]), (3, [(.ofNat 1, .ofNat 8)])], [], []),
  (0, [], [.inl (false, (0, .ofNat 0, .negSucc 0))], [(2, 0, (0, .ofNat 0, .ofNat 0), (0, .ofNat 0, .ofNat 0), (0, .ofNat 0, .ofNat 0)), (2, 4, (2, .ofNat 1, .ofNat 0), (0, .ofNat 0, .ofNat 1000000), (0, .ofNat 0, .ofNat 0)), (2, 3, (2, .ofNat 1, .ofNat 0), (0, .ofNat 0, .ofNat 0), (0, .ofNat 0, .ofNat 0)), (2, 1, (0, .ofNat 0, .ofNat 1), (0, .ofNat 0, .ofNat 0), (0, .ofNat 0, .ofNat 0)), (2, 2, (1, .ofNat 1, .ofNat 0), (3, .ofNat 1, .ofNat 0), (0, .ofNat 0, .ofNat 0)), (0, 1, (0, .ofNat 0, .ofNat 0), (3, .ofNat 1, .ofNat 0), (0, .ofNat 0, .ofNat 0)), (2, 3, (1, .ofNat 1, .ofNat 0), (0, .ofNat 0, .ofNat 0), (0, .ofNat 0, .ofNat 0))], [(1, [(.ofNat 0, .ofNat 7)]), (2, [(.ofNat 1000001, .ofNat 2147483647)]), (3, [(.ofNat 1, .ofNat 8)])], [], []),
  (33, [(0, .inr (.inl [0])), (1, .inl (false, (1, .ofNat 1, .ofNat 0))), (2, .inl (false, (2, .ofNat 1, .ofNat 0)))], [.inr (.inl [6]), .inr (.inl [1]), .inr (.inl [71])], [(2, 1, (0, .ofNat 0, .ofNat 1), (0, .ofNat 0, .ofNat 0), (0, .ofNat 0, .ofNat 0)), (2, 5, (2, .ofNat 1, .ofNat 0), (0, .ofNat 0, .ofNat 1000000), (0, .ofNat 0, .ofNat 0)), (2, 3, (2, .ofNat 1, .ofNat 0), (0, .ofNat 0, .ofNat 0), (0, .ofNat 0, .ofNat 0)), (2, 1, (0, .ofNat 0, .ofNat 1), (0, .ofNat 0, .ofNat 0), (0, .ofNat 0, .ofNat 0)), (2, 2, (1, .ofNat 1, .ofNat 0), (3, .ofNat 1, .ofNat 0), (0, .ofNat 0, .ofNat 0)), (0, 1, (0, .ofNat 0, .ofNat 0), (3, .ofNat 1, .ofNat 0), (0, .ofNat 0, .ofNat 0)), (2, 3, (1, .ofNat 1, .ofNat 0), (0, .ofNat 0, .ofNat 0), (0, .ofNat 0, .ofNat 0))], [(1, [(.ofNat 0, .ofNat 7)]), (2, [(.ofNat 0, .ofNat 1000000)]), (3, [(.ofNat 1, .ofNat 8)])], [], [])]
set_option maxRecDepth 1000000 in
theorem sg_hg_x0_g : sg_go [] [32] 3000 96 0 1 3 [(0, [(.ofNat 0, .ofNat 0)]), (1, [(.negSucc 2147483647, .ofNat 2147483647)]), (2, [(.negSucc 2147483647, .ofNat 2147483647)])] [] [] [] [(0, .inr (.inl [0])), (1, .inl (false, (1, .ofNat 1, .ofNat 0))), (2, .inl (false, (2, .ofNat 1, .ofNat 0)))] [] [] sg_hg_x0_Z = true := by decide +kernel
set_option maxRecDepth 100000 in
theorem sg_hg_x0 {Q : Option Value × am_S → Prop} {d : Nat} {S : am_S} {L : am_L} {x1 x2 : Int} (hd : 1 ≤ d) (hP : ax_P0 none S) (l0 : lc L 0 0) (l1 : li L 1 x1) (l2 : li L 2 x2) (b1 : ((-2147483648) ≤ x1 ∧ x1 ≤ 2147483647)) (b2 : ((-2147483648) ≤ x2 ∧ x2 ≤ 2147483647))
    (k0 : ∀ (i1 : Int32), x1 < 0 → ((-2147483648) ≤ x1 ∧ x1 ≤ (-1)) → i1.toInt = (-1) → Q (some (.int i1), S))
    (k1 : ∀ (x3 : Int) (i1 : Int32), 0 ≤ x1 → rd S 1 0 = x3 → x3 ≤ x1 → (0 ≤ x1 ∧ x1 ≤ 2147483647) → (0 ≤ x3 ∧ x3 ≤ 8) → i1.toInt = (-1) → Q (some (.int i1), S))
    (k2 : ∀ (x3 : Int) (i1 : Int32), 0 ≤ x1 → rd S 1 0 = x3 → x1 < x3 → x2 < 0 → (0 ≤ x1 ∧ x1 ≤ 7) → ((-2147483648) ≤ x2 ∧ x2 ≤ (-1)) → (1 ≤ x3 ∧ x3 ≤ 8) → i1.toInt = (-1) → Q (some (.int i1), S))
    (k3 : ∀ (x3 : Int) (i1 : Int32), 0 ≤ x1 → rd S 1 0 = x3 → x1 < x3 → 0 ≤ x2 → 1000000 < x2 → (0 ≤ x1 ∧ x1 ≤ 7) → (1000001 ≤ x2 ∧ x2 ≤ 2147483647) → (1 ≤ x3 ∧ x3 ≤ 8) → i1.toInt = (-1) → Q (some (.int i1), S))
    (k4 : ∀ (x3 : Int) (L' : am_L), 0 ≤ x1 → rd S 1 0 = x3 → x1 < x3 → 0 ≤ x2 → x2 ≤ 1000000 → (0 ≤ x1 ∧ x1 ≤ 7) → (0 ≤ x2 ∧ x2 ≤ 1000000) → (1 ≤ x3 ∧ x3 ≤ 8) → lc L' 0 0 → li L' 1 x1 → li L' 2 x2 → am_V none d 96 32 L' ((.ref 6) :: (.ref 1) :: (.ref 71) :: []) S Q) : am_V none d 96 0 L ([]) S Q := by
  refine sg_use sg_hg_x0_g hd hP (sg_xs [0, x1, x2]) ⟨⟨Int.le_refl 0, Int.le_refl 0⟩, b1, b2, trivial⟩ trivial trivial trivial ⟨l0, l1, l2, trivial⟩ trivial ?_
  intro z hz x' L' st' S' hx hP' hW hL' hs' hJ hE' hT' hD'
  have q1 : x' 1 = x1 := hx 1 (by decide)
  subst q1
  have q2 : x' 2 = x2 := hx 2 (by decide)
  subst q2
  have eS : S' = S := hW.1 rfl
  subst eS
  simp only [sg_hg_x0_Z, List.mem_cons, List.not_mem_nil, or_false] at hz
  rcases hz with rfl | rfl | rfl | rfl | rfl
  · obtain ⟨f0, -, hσ⟩ := hJ
    obtain ⟨e0, -⟩ := hE'
    intro v hv
    subst hv
    cases v with
    | none => exact hs'.elim
    | some v1 =>
      obtain ⟨⟨i1, rfl, g1⟩, -⟩ := hs'
      exact k0 i1 f0 e0 g1
  · obtain ⟨f0, f1, f2, -, hσ⟩ := hJ
    obtain ⟨e0, e1, -⟩ := hE'
    intro v hv
    subst hv
    cases v with
    | none => exact hs'.elim
    | some v1 =>
      obtain ⟨⟨i1, rfl, g1⟩, -⟩ := hs'
      exact k1 (x' 3) i1 f0 f1 f2 e0 e1 g1
  · obtain ⟨f0, f1, f2, -, f4, -, hσ⟩ := hJ
    obtain ⟨e0, e1, e2, -⟩ := hE'
    intro v hv
    subst hv
    cases v with
    | none => exact hs'.elim
    | some v1 =>
      obtain ⟨⟨i1, rfl, g1⟩, -⟩ := hs'
      exact k2 (x' 3) i1 f0 f1 f2 f4 e0 e1 e2 g1
  · obtain ⟨f0, f1, f2, -, f4, f5, -, hσ⟩ := hJ
    obtain ⟨e0, e1, e2, -⟩ := hE'
    intro v hv
    subst hv
    cases v with
    | none => exact hs'.elim
    | some v1 =>
      obtain ⟨⟨i1, rfl, g1⟩, -⟩ := hs'
      exact k3 (x' 3) i1 f0 f1 f2 f4 f5 e0 e1 e2 g1
  · obtain ⟨f0, f1, f2, -, f4, f5, -, hσ⟩ := hJ
    obtain ⟨e0, e1, e2, -⟩ := hE'
    obtain ⟨p0, p1, p2, -⟩ := hL'
    obtain ⟨v1, r1, rfl, rfl, hs1⟩ := sg_tc hs'
    obtain ⟨v2, r2, rfl, rfl, hs2⟩ := sg_tc hs1
    obtain ⟨v3, r3, rfl, rfl, hs3⟩ := sg_tc hs2
    obtain rfl := sg_tn hs3
    exact k4 (x' 3) L' f0 f1 f2 f4 f5 e0 e1 e2 p0 p1 p2
def sg_hg_x1_Z : List sg_z := [(0, [], [.inl (false, (3, .ofNat 1, .ofNat 0))], [(1, 2, (1, .ofNat 1, .ofNat 0), (2, .ofNat 1, .ofNat 0), (0, .ofNat 0, .ofNat 0)), (0, 2, (1, .ofNat 1, .ofNat 0), (3, .ofNat 1, .ofNat 0), (0, .ofNat 0, .ofNat 0))], [(1, [(.ofNat 0, .ofNat 7)]), (2, [(.ofNat 0, .ofNat 1000000)]), (3, [(.ofNat 0, .ofNat 1000000)])], [], [])]
set_option maxRecDepth 1000000 in
theorem sg_hg_x1_g : sg_go [] [] 3000 96 35 0 3 [(0, [(.ofNat 0, .ofNat 0)]), (1, [(.ofNat 0, .ofNat 7)]), (2, [(.ofNat 0, .ofNat 1000000)])] [] [] [] [(0, .inr (.inl [0])), (1, .inl (false, (1, .ofNat 1, .ofNat 0))), (2, .inl (false, (2, .ofNat 1, .ofNat 0)))] [] [(2, none)] sg_hg_x1_Z = true := by decide +kernel
set_option maxRecDepth 100000 in
theorem sg_hg_x1 {Q : Option Value × am_S → Prop} {d : Nat} {S : am_S} {L : am_L} {x1 x2 : Int} (hd : 0 ≤ d) (hP : ax_P0 none S) (l0 : lc L 0 0) (l1 : li L 1 x1) (l2 : li L 2 x2) (b1 : (0 ≤ x1 ∧ x1 ≤ 7)) (b2 : (0 ≤ x2 ∧ x2 ≤ 1000000))
    (k0 : ∀ (x3 : Int) (S' : am_S) (i1 : Int32), ax_P0 none S' → rd S' = sg_up (rd S) 2 x1 x2 → rd S 2 x1 = x3 → (0 ≤ x1 ∧ x1 ≤ 7) → (0 ≤ x2 ∧ x2 ≤ 1000000) → (0 ≤ x3 ∧ x3 ≤ 1000000) → i1.toInt = x3 → Q (some (.int i1), S')) : am_V none d 96 35 L ([]) S Q := by
  refine sg_use sg_hg_x1_g hd hP (sg_xs [0, x1, x2]) ⟨⟨Int.le_refl 0, Int.le_refl 0⟩, b1, b2, trivial⟩ trivial trivial trivial ⟨l0, l1, l2, trivial⟩ trivial ?_
  intro z hz x' L' st' S' hx hP' hW hL' hs' hJ hE' hT' hD'
  have q1 : x' 1 = x1 := hx 1 (by decide)
  subst q1
  have q2 : x' 2 = x2 := hx 2 (by decide)
  subst q2
  simp only [sg_hg_x1_Z, List.mem_cons, List.not_mem_nil, or_false] at hz
  rcases hz with rfl
  · obtain ⟨f0, hσ⟩ := hJ
    obtain ⟨e0, e1, e2, -⟩ := hE'
    intro v hv
    subst hv
    cases v with
    | none => exact hs'.elim
    | some v1 =>
      obtain ⟨⟨i1, rfl, g1⟩, -⟩ := hs'
      exact k0 (x' 3) S' i1 hP' hσ f0 e0 e1 e2 g1
def sg_hg_m0_Z : List sg_z := [(0, [], [.inl (false, (0, .ofNat 0, .negSucc 0))], [(2, 0, (0, .ofNat 0, .ofNat 0), (0, .ofNat 0, .ofNat 0), (0, .ofNat 0, .ofNat 0)), (2, 2, (1, .ofNat 1, .ofNat 0), (0, .ofNat 0, .ofNat 0), (0, .ofNat 0, .ofNat 0)), (0, 122, (0, .ofNat 0, .ofNat 0), (3, .ofNat 1, .ofNat 0), (0, .ofNat 0, .ofNat 0))], [(1, [(.negSucc 2147483647, .negSucc 0)]), (3, [(.ofNat 0, .ofNat 8)])], [], []),
  (0, [], [.inl (false, (0, .ofNat 0, .negSucc 0))], [(2, 0, (0, .ofNat 0, .ofNat 0), (0, .ofNat 0, .ofNat 0), (0, .ofNat 0, .ofNat 0)), (2, 4, (1, .ofNat 1, .ofNat 0), (3, .ofNat 1, .negSucc 0), (0, .ofNat 0, .ofNat 0)), (2, 3, (1, .ofNat 1, .ofNat 0), (0, .ofNat 0, .ofNat 0), (0, .ofNat 0, .ofNat 0)), (0, 122, (0, .ofNat 0, .ofNat 0), (3, .ofNat 1, .ofNat 0), (0, .ofNat 0, .ofNat 0))], [(1, [(.ofNat 0, .ofNat 2147483647)]), (3, [(.ofNat 0, .ofNat 8)])], [], []),
  (0, [], [.inl (false, (0, .ofNat 0, .negSucc 0))], [(2, 0, (0, .ofNat 0, .ofNat 0), (0, .ofNat 0, .ofNat 0), (0, .ofNat 0, .ofNat 0)), (2, 2, (2, .ofNat 1, .ofNat 0), (0, .ofNat 0, .ofNat 0), (0, .ofNat 0, .ofNat 0)), (2, 1, (0, .ofNat 0, .ofNat 1), (0, .ofNat 0, .ofNat 0), (0, .ofNat 0, .ofNat 0)), (2, 5, (1, .ofNat 1, .ofNat 0), (3, .ofNat 1, .negSucc 0), (0, .ofNat 0, .ofNat 0)), (2, 3, (1, .ofNat 1, .ofNat 0), (0, .ofNat 0, .ofNat 0), (0, .ofNat 0, .ofNat 0)), (0, 122, (0, .ofNat 0, .ofNat 0), (3, .ofNat 1, .ofNat 0), (0, .ofNat 0, .ofNat 0))], [(1, [(.ofNat 0, .ofNat 7)]), (2, [(.negSucc 2147483647, .negSucc 0)]), (3, [(.ofNat 1, .ofNat 8)])], [], []),
  (0, [], [.inl (false, (0, .ofNat 0, .negSucc 0))], [(2, 0, (0, .ofNat 0, .ofNat 0), (0, .ofNat 0, .ofNat 0), (0, .ofNat 0, .ofNat 0)), (2, 4, (2, .ofNat 1, .ofNat 0), (0, .ofNat 0, .ofNat 1000000), (0, .ofNat 0, .ofNat 0)), (2, 3, (2, .ofNat 1, .ofNat 0), (0, .ofNat 0, .ofNat 0), (0, .ofNat 0, .ofNat 0)), (2, 1, (0, .ofNat 0, .ofNat 1), (0, .ofNat 0, .ofNat 0), (0, .ofNat 0, .ofNat 0)), (2, 5, (1, .ofNat 1, .ofNat 0), (3, .ofNat 1, .negSucc 0), (0, .ofNat 0, .ofNat 0)), (2, 3, (1, .ofNat 1, .ofNat 0), (0, .ofNat 0, .ofNat 0), (0, .ofNat 0, .ofNat 0)), (0, 122, (0, .ofNat 0, .ofNat 0), (3, .ofNat 1, .ofNat 0), (0, .ofNat 0, .ofNat 0))], [(1, [(.ofNat 0, .ofNat 7)]), (2, [(.ofNat 1000001, .ofNat 2147483647)]), (3, [(.ofNat 1, .ofNat 8)])], [], []),
  (24, [(0, .inr (.inl [122])), (1, .inl (false, (1, .ofNat 1, .ofNat 0))), (2, .inl (false, (2, .ofNat 1, .ofNat 0)))], [.inr (.inl [122])], [(2, 1, (0, .ofNat 0, .ofNat 1), (0, .ofNat 0, .ofNat 0), (0, .ofNat 0, .ofNat 0)), (2, 5, (2, .ofNat 1, .ofNat 0), (0, .ofNat 0, .ofNat 1000000), (0, .ofNat 0, .ofNat 0)), (2, 3, (2, .ofNat 1, .ofNat 0), (0, .ofNat 0, .ofNat 0), (0, .ofNat 0, .ofNat 0)), (2, 1, (0, .ofNat 0, .ofNat 1), (0, .ofNat 0, .ofNat 0), (0, .ofNat 0, .ofNat 0)), (2, 5, (1, .ofNat 1, .ofNat 0), (3, .ofNat 1, .negSucc 0), (0, .ofNat 0, .ofNat 0)), (2, 3, (1, .ofNat 1, .ofNat 0), (0, .ofNat 0, .ofNat 0), (0, .ofNat 0, .ofNat 0)), (0, 122, (0, .ofNat 0, .ofNat 0), (3, .ofNat 1, .ofNat 0), (0, .ofNat 0, .ofNat 0))], [(1, [(.ofNat 0, .ofNat 7)]), (2, [(.ofNat 0, .ofNat 1000000)]), (3, [(.ofNat 1, .ofNat 8)])], [], [])]
set_option maxRecDepth 1000000 in
theorem sg_hg_m0_g : sg_go [] [23] 3000 161 0 2 3 [(0, [(.ofNat 0, .ofNat 0)]), (1, [(.negSucc 2147483647, .ofNat 2147483647)]), (2, [(.negSucc 2147483647, .ofNat 2147483647)])] [] [] [] [(0, .inr (.inl [122])), (1, .inl (false, (1, .ofNat 1, .ofNat 0))), (2, .inl (false, (2, .ofNat 1, .ofNat 0)))] [] [] sg_hg_m0_Z = true := by decide +kernel
set_option maxRecDepth 100000 in
theorem sg_hg_m0 {Q : Option Value × am_S → Prop} {d : Nat} {S : am_S} {L : am_L} {x1 x2 : Int} (hd : 2 ≤ d) (hP : ax_P0 none S) (l0 : lc L 0 122) (l1 : li L 1 x1) (l2 : li L 2 x2) (b1 : ((-2147483648) ≤ x1 ∧ x1 ≤ 2147483647)) (b2 : ((-2147483648) ≤ x2 ∧ x2 ≤ 2147483647))
    (k0 : ∀ (x3 : Int) (i1 : Int32), rd S 122 0 = x3 → x1 < 0 → ((-2147483648) ≤ x1 ∧ x1 ≤ (-1)) → (0 ≤ x3 ∧ x3 ≤ 8) → i1.toInt = (-1) → Q (some (.int i1), S))
    (k1 : ∀ (x3 : Int) (i1 : Int32), rd S 122 0 = x3 → 0 ≤ x1 → x3 + (-1) < x1 → (0 ≤ x1 ∧ x1 ≤ 2147483647) → (0 ≤ x3 ∧ x3 ≤ 8) → i1.toInt = (-1) → Q (some (.int i1), S))
    (k2 : ∀ (x3 : Int) (i1 : Int32), rd S 122 0 = x3 → 0 ≤ x1 → x1 ≤ x3 + (-1) → x2 < 0 → (0 ≤ x1 ∧ x1 ≤ 7) → ((-2147483648) ≤ x2 ∧ x2 ≤ (-1)) → (1 ≤ x3 ∧ x3 ≤ 8) → i1.toInt = (-1) → Q (some (.int i1), S))
    (k3 : ∀ (x3 : Int) (i1 : Int32), rd S 122 0 = x3 → 0 ≤ x1 → x1 ≤ x3 + (-1) → 0 ≤ x2 → 1000000 < x2 → (0 ≤ x1 ∧ x1 ≤ 7) → (1000001 ≤ x2 ∧ x2 ≤ 2147483647) → (1 ≤ x3 ∧ x3 ≤ 8) → i1.toInt = (-1) → Q (some (.int i1), S))
    (k4 : ∀ (x3 : Int) (L' : am_L), rd S 122 0 = x3 → 0 ≤ x1 → x1 ≤ x3 + (-1) → 0 ≤ x2 → x2 ≤ 1000000 → (0 ≤ x1 ∧ x1 ≤ 7) → (0 ≤ x2 ∧ x2 ≤ 1000000) → (1 ≤ x3 ∧ x3 ≤ 8) → lc L' 0 122 → li L' 1 x1 → li L' 2 x2 → am_V none d 161 23 L' ((.ref 122) :: []) S Q) : am_V none d 161 0 L ([]) S Q := by
  refine sg_use sg_hg_m0_g hd hP (sg_xs [0, x1, x2]) ⟨⟨Int.le_refl 0, Int.le_refl 0⟩, b1, b2, trivial⟩ trivial trivial trivial ⟨l0, l1, l2, trivial⟩ trivial ?_
  intro z hz x' L' st' S' hx hP' hW hL' hs' hJ hE' hT' hD'
  have q1 : x' 1 = x1 := hx 1 (by decide)
  subst q1
  have q2 : x' 2 = x2 := hx 2 (by decide)
  subst q2
  have eS : S' = S := hW.1 rfl
  subst eS
  simp only [sg_hg_m0_Z, List.mem_cons, List.not_mem_nil, or_false] at hz
  rcases hz with rfl | rfl | rfl | rfl | rfl
  · obtain ⟨f0, f1, -, hσ⟩ := hJ
    obtain ⟨e0, e1, -⟩ := hE'
    intro v hv
    subst hv
    cases v with
    | none => exact hs'.elim
    | some v1 =>
      obtain ⟨⟨i1, rfl, g1⟩, -⟩ := hs'
      exact k0 (x' 3) i1 f0 f1 e0 e1 g1
  · obtain ⟨f0, f1, f2, -, hσ⟩ := hJ
    obtain ⟨e0, e1, -⟩ := hE'
    intro v hv
    subst hv
    cases v with
    | none => exact hs'.elim
    | some v1 =>
      obtain ⟨⟨i1, rfl, g1⟩, -⟩ := hs'
      exact k1 (x' 3) i1 f0 f1 f2 e0 e1 g1
  · obtain ⟨f0, f1, f2, -, f4, -, hσ⟩ := hJ
    obtain ⟨e0, e1, e2, -⟩ := hE'
    intro v hv
    subst hv
    cases v with
    | none => exact hs'.elim
    | some v1 =>
      obtain ⟨⟨i1, rfl, g1⟩, -⟩ := hs'
      exact k2 (x' 3) i1 f0 f1 f2 f4 e0 e1 e2 g1
  · obtain ⟨f0, f1, f2, -, f4, f5, -, hσ⟩ := hJ
    obtain ⟨e0, e1, e2, -⟩ := hE'
    intro v hv
    subst hv
    cases v with
    | none => exact hs'.elim
    | some v1 =>
      obtain ⟨⟨i1, rfl, g1⟩, -⟩ := hs'
      exact k3 (x' 3) i1 f0 f1 f2 f4 f5 e0 e1 e2 g1
  · obtain ⟨f0, f1, f2, -, f4, f5, -, hσ⟩ := hJ
    obtain ⟨e0, e1, e2, -⟩ := hE'
    obtain ⟨p0, p1, p2, -⟩ := hL'
    obtain ⟨v1, r1, rfl, rfl, hs1⟩ := sg_tc hs'
    obtain rfl := sg_tn hs1
    exact k4 (x' 3) L' f0 f1 f2 f4 f5 e0 e1 e2 p0 p1 p2
def sg_hg_m1_Z : List sg_z := [(0, [], [.inl (false, (3, .ofNat 1, .ofNat 0))], [(1, 123, (1, .ofNat 1, .ofNat 0), (2, .ofNat 1, .ofNat 0), (0, .ofNat 0, .ofNat 0)), (0, 123, (1, .ofNat 1, .ofNat 0), (3, .ofNat 1, .ofNat 0), (0, .ofNat 0, .ofNat 0))], [(1, [(.ofNat 0, .ofNat 7)]), (2, [(.ofNat 0, .ofNat 1000000)]), (3, [(.ofNat 0, .ofNat 1000000)])], [], [])]
set_option maxRecDepth 1000000 in
theorem sg_hg_m1_g : sg_go [] [] 3000 161 26 0 3 [(0, [(.ofNat 0, .ofNat 0)]), (1, [(.ofNat 0, .ofNat 7)]), (2, [(.ofNat 0, .ofNat 1000000)])] [] [] [] [(0, .inr (.inl [122])), (1, .inl (false, (1, .ofNat 1, .ofNat 0))), (2, .inl (false, (2, .ofNat 1, .ofNat 0)))] [] [(123, none)] sg_hg_m1_Z = true := by decide +kernel
set_option maxRecDepth 100000 in
theorem sg_hg_m1 {Q : Option Value × am_S → Prop} {d : Nat} {S : am_S} {L : am_L} {x1 x2 : Int} (hd : 0 ≤ d) (hP : ax_P0 none S) (l0 : lc L 0 122) (l1 : li L 1 x1) (l2 : li L 2 x2) (b1 : (0 ≤ x1 ∧ x1 ≤ 7)) (b2 : (0 ≤ x2 ∧ x2 ≤ 1000000))
    (k0 : ∀ (x3 : Int) (S' : am_S) (i1 : Int32), ax_P0 none S' → rd S' = sg_up (rd S) 123 x1 x2 → rd S 123 x1 = x3 → (0 ≤ x1 ∧ x1 ≤ 7) → (0 ≤ x2 ∧ x2 ≤ 1000000) → (0 ≤ x3 ∧ x3 ≤ 1000000) → i1.toInt = x3 → Q (some (.int i1), S')) : am_V none d 161 26 L ([]) S Q := by
  refine sg_use sg_hg_m1_g hd hP (sg_xs [0, x1, x2]) ⟨⟨Int.le_refl 0, Int.le_refl 0⟩, b1, b2, trivial⟩ trivial trivial trivial ⟨l0, l1, l2, trivial⟩ trivial ?_
  intro z hz x' L' st' S' hx hP' hW hL' hs' hJ hE' hT' hD'
  have q1 : x' 1 = x1 := hx 1 (by decide)
  subst q1
  have q2 : x' 2 = x2 := hx 2 (by decide)
  subst q2
  simp only [sg_hg_m1_Z, List.mem_cons, List.not_mem_nil, or_false] at hz
  rcases hz with rfl
  · obtain ⟨f0, hσ⟩ := hJ
    obtain ⟨e0, e1, e2, -⟩ := hE'
    intro v hv
    subst hv
    cases v with
    | none => exact hs'.elim
    | some v1 =>
      obtain ⟨⟨i1, rfl, g1⟩, -⟩ := hs'
      exact k0 (x' 3) S' i1 hP' hσ f0 e0 e1 e2 g1
def sg_tk_x0_Z : List sg_z := [(0, [], [.inl (false, (0, .ofNat 0, .negSucc 0))], [(2, 0, (0, .ofNat 0, .ofNat 0), (0, .ofNat 0, .ofNat 0), (0, .ofNat 0, .ofNat 0)), (2, 2, (1, .ofNat 1, .ofNat 0), (0, .ofNat 0, .ofNat 0), (0, .ofNat 0, .ofNat 0))], [(1, [(.negSucc 2147483647, .negSucc 0)])], [], []),
  (0, [], [.inl (false, (0, .ofNat 0, .negSucc 0))], [(2, 0, (0, .ofNat 0, .ofNat 0), (0, .ofNat 0, .ofNat 0), (0, .ofNat 0, .ofNat 0)), (2, 3, (1, .ofNat 1, .ofNat 0), (2, .ofNat 1, .ofNat 0), (0, .ofNat 0, .ofNat 0)), (0, 6, (0, .ofNat 0, .ofNat 0), (2, .ofNat 1, .ofNat 0), (0, .ofNat 0, .ofNat 0)), (2, 3, (1, .ofNat 1, .ofNat 0), (0, .ofNat 0, .ofNat 0), (0, .ofNat 0, .ofNat 0))], [(1, [(.ofNat 0, .ofNat 2147483647)]), (2, [(.ofNat 0, .ofNat 16)])], [], []),
  (0, [], [.inl (false, (0, .ofNat 0, .negSucc 1))], [(2, 0, (0, .ofNat 0, .ofNat 0), (0, .ofNat 0, .ofNat 0), (0, .ofNat 0, .ofNat 0)), (2, 0, (3, .ofNat 1, .ofNat 0), (0, .ofNat 0, .negSucc 3), (0, .ofNat 0, .ofNat 0)), (0, 11, (1, .ofNat 1, .ofNat 0), (3, .ofNat 1, .ofNat 0), (0, .ofNat 0, .ofNat 0)), (2, 1, (0, .ofNat 0, .ofNat 1), (0, .ofNat 0, .ofNat 0), (0, .ofNat 0, .ofNat 0)), (2, 2, (1, .ofNat 1, .ofNat 0), (2, .ofNat 1, .ofNat 0), (0, .ofNat 0, .ofNat 0)), (0, 6, (0, .ofNat 0, .ofNat 0), (2, .ofNat 1, .ofNat 0), (0, .ofNat 0, .ofNat 0)), (2, 3, (1, .ofNat 1, .ofNat 0), (0, .ofNat 0, .ofNat 0), (0, .ofNat 0, .ofNat 0))], [(1, [(.ofNat 0, .ofNat 15)]), (2, [(.ofNat 1, .ofNat 16)]), (3, [(.negSucc 3, .negSucc 3)])], [], []),
  (40, [(0, .inr (.inl [0])), (1, .inl (false, (1, .ofNat 1, .ofNat 0)))], [.inr (.inl [6]), .inr (.inl [1]), .inr (.inl [71])], [(2, 1, (0, .ofNat 0, .ofNat 1), (0, .ofNat 0, .ofNat 0), (0, .ofNat 0, .ofNat 0)), (2, 1, (3, .ofNat 1, .ofNat 0), (0, .ofNat 0, .negSucc 3), (0, .ofNat 0, .ofNat 0)), (0, 11, (1, .ofNat 1, .ofNat 0), (3, .ofNat 1, .ofNat 0), (0, .ofNat 0, .ofNat 0)), (2, 1, (0, .ofNat 0, .ofNat 1), (0, .ofNat 0, .ofNat 0), (0, .ofNat 0, .ofNat 0)), (2, 2, (1, .ofNat 1, .ofNat 0), (2, .ofNat 1, .ofNat 0), (0, .ofNat 0, .ofNat 0)), (0, 6, (0, .ofNat 0, .ofNat 0), (2, .ofNat 1, .ofNat 0), (0, .ofNat 0, .ofNat 0)), (2, 3, (1, .ofNat 1, .ofNat 0), (0, .ofNat 0, .ofNat 0), (0, .ofNat 0, .ofNat 0))], [(1, [(.ofNat 0, .ofNat 15)]), (2, [(.ofNat 1, .ofNat 16)]), (3, [(.ofNat 0, .ofNat 7)])], [], [])]
set_option maxRecDepth 1000000 in
theorem sg_tk_x0_g : sg_go [] [39] 3000 105 0 1 2 [(0, [(.ofNat 0, .ofNat 0)]), (1, [(.negSucc 2147483647, .ofNat 2147483647)])] [] [] [] [(0, .inr (.inl [0])), (1, .inl (false, (1, .ofNat 1, .ofNat 0)))] [] [] sg_tk_x0_Z = true := by decide +kernel
set_option maxRecDepth 100000 in
theorem sg_tk_x0 {Q : Option Value × am_S → Prop} {d : Nat} {S : am_S} {L : am_L} {x1 : Int} (hd : 1 ≤ d) (hP : ax_P0 none S) (l0 : lc L 0 0) (l1 : li L 1 x1) (b1 : ((-2147483648) ≤ x1 ∧ x1 ≤ 2147483647))
    (k0 : ∀ (i1 : Int32), x1 < 0 → ((-2147483648) ≤ x1 ∧ x1 ≤ (-1)) → i1.toInt = (-1) → Q (some (.int i1), S))
    (k1 : ∀ (x2 : Int) (i1 : Int32), 0 ≤ x1 → rd S 6 0 = x2 → x2 ≤ x1 → (0 ≤ x1 ∧ x1 ≤ 2147483647) → (0 ≤ x2 ∧ x2 ≤ 16) → i1.toInt = (-1) → Q (some (.int i1), S))
    (k2 : ∀ (x2 x3 : Int) (i1 : Int32), 0 ≤ x1 → rd S 6 0 = x2 → x1 < x2 → rd S 11 x1 = x3 → x3 = (-4) → (0 ≤ x1 ∧ x1 ≤ 15) → (1 ≤ x2 ∧ x2 ≤ 16) → ((-4) ≤ x3 ∧ x3 ≤ (-4)) → i1.toInt = (-2) → Q (some (.int i1), S))
    (k3 : ∀ (x2 x3 : Int) (L' : am_L), 0 ≤ x1 → rd S 6 0 = x2 → x1 < x2 → rd S 11 x1 = x3 → x3 ≠ (-4) → (0 ≤ x1 ∧ x1 ≤ 15) → (1 ≤ x2 ∧ x2 ≤ 16) → (0 ≤ x3 ∧ x3 ≤ 7) → lc L' 0 0 → li L' 1 x1 → am_V none d 105 39 L' ((.ref 6) :: (.ref 1) :: (.ref 71) :: []) S Q) : am_V none d 105 0 L ([]) S Q := by
  refine sg_use sg_tk_x0_g hd hP (sg_xs [0, x1]) ⟨⟨Int.le_refl 0, Int.le_refl 0⟩, b1, trivial⟩ trivial trivial trivial ⟨l0, l1, trivial⟩ trivial ?_
  intro z hz x' L' st' S' hx hP' hW hL' hs' hJ hE' hT' hD'
  have q1 : x' 1 = x1 := hx 1 (by decide)
  subst q1
  have eS : S' = S := hW.1 rfl
  subst eS
  simp only [sg_tk_x0_Z, List.mem_cons, List.not_mem_nil, or_false] at hz
  rcases hz with rfl | rfl | rfl | rfl
  · obtain ⟨f0, -, hσ⟩ := hJ
    obtain ⟨e0, -⟩ := hE'
    intro v hv
    subst hv
    cases v with
    | none => exact hs'.elim
    | some v1 =>
      obtain ⟨⟨i1, rfl, g1⟩, -⟩ := hs'
      exact k0 i1 f0 e0 g1
  · obtain ⟨f0, f1, f2, -, hσ⟩ := hJ
    obtain ⟨e0, e1, -⟩ := hE'
    intro v hv
    subst hv
    cases v with
    | none => exact hs'.elim
    | some v1 =>
      obtain ⟨⟨i1, rfl, g1⟩, -⟩ := hs'
      exact k1 (x' 2) i1 f0 f1 f2 e0 e1 g1
  · obtain ⟨f0, f1, f2, -, f4, f5, -, hσ⟩ := hJ
    obtain ⟨e0, e1, e2, -⟩ := hE'
    intro v hv
    subst hv
    cases v with
    | none => exact hs'.elim
    | some v1 =>
      obtain ⟨⟨i1, rfl, g1⟩, -⟩ := hs'
      exact k2 (x' 2) (x' 3) i1 f0 f1 f2 f4 f5 e0 e1 e2 g1
  · obtain ⟨f0, f1, f2, -, f4, f5, -, hσ⟩ := hJ
    obtain ⟨e0, e1, e2, -⟩ := hE'
    obtain ⟨p0, p1, -⟩ := hL'
    obtain ⟨v1, r1, rfl, rfl, hs1⟩ := sg_tc hs'
    obtain ⟨v2, r2, rfl, rfl, hs2⟩ := sg_tc hs1
    obtain ⟨v3, r3, rfl, rfl, hs3⟩ := sg_tc hs2
    obtain rfl := sg_tn hs3
    exact k3 (x' 2) (x' 3) L' f0 f1 f2 f4 f5 e0 e1 e2 p0 p1
def sg_tk_x1_Z : List sg_z := [(0, [], [.inl (false, (0, .ofNat 0, .ofNat 1))], [(1, 12, (1, .ofNat 1, .ofNat 0), (0, .ofNat 0, .negSucc 3), (0, .ofNat 0, .ofNat 0)), (1, 11, (1, .ofNat 1, .ofNat 0), (0, .ofNat 0, .negSucc 3), (0, .ofNat 0, .ofNat 0))], [(1, [(.ofNat 0, .ofNat 15)])], [], [])]
set_option maxRecDepth 1000000 in
theorem sg_tk_x1_g : sg_go [] [] 3000 105 42 1 2 [(0, [(.ofNat 0, .ofNat 0)]), (1, [(.ofNat 0, .ofNat 15)])] [] [] [] [(0, .inr (.inl [0])), (1, .inl (false, (1, .ofNat 1, .ofNat 0)))] [] [(11, none), (12, none)] sg_tk_x1_Z = true := by decide +kernel
set_option maxRecDepth 100000 in
theorem sg_tk_x1 {Q : Option Value × am_S → Prop} {d : Nat} {S : am_S} {L : am_L} {x1 : Int} (hd : 1 ≤ d) (hP : ax_P0 none S) (l0 : lc L 0 0) (l1 : li L 1 x1) (b1 : (0 ≤ x1 ∧ x1 ≤ 15))
    (k0 : ∀ (S' : am_S) (i1 : Int32), ax_P0 none S' → rd S' = sg_up (sg_up (rd S) 11 x1 (-4)) 12 x1 (-4) → (0 ≤ x1 ∧ x1 ≤ 15) → i1.toInt = 1 → Q (some (.int i1), S')) : am_V none d 105 42 L ([]) S Q := by
  refine sg_use sg_tk_x1_g hd hP (sg_xs [0, x1]) ⟨⟨Int.le_refl 0, Int.le_refl 0⟩, b1, trivial⟩ trivial trivial trivial ⟨l0, l1, trivial⟩ trivial ?_
  intro z hz x' L' st' S' hx hP' hW hL' hs' hJ hE' hT' hD'
  have q1 : x' 1 = x1 := hx 1 (by decide)
  subst q1
  simp only [sg_tk_x1_Z, List.mem_cons, List.not_mem_nil, or_false] at hz
  rcases hz with rfl
  · have hσ := hJ
    obtain ⟨e0, -⟩ := hE'
    intro v hv
    subst hv
    cases v with
    | none => exact hs'.elim
    | some v1 =>
      obtain ⟨⟨i1, rfl, g1⟩, -⟩ := hs'
      exact k0 S' i1 hP' hσ e0 g1
def sg_tk_m0_Z : List sg_z := [(0, [], [.inl (false, (0, .ofNat 0, .negSucc 0))], [(2, 0, (0, .ofNat 0, .ofNat 0), (0, .ofNat 0, .ofNat 0), (0, .ofNat 0, .ofNat 0)), (2, 2, (1, .ofNat 1, .ofNat 0), (0, .ofNat 0, .ofNat 0), (0, .ofNat 0, .ofNat 0)), (0, 122, (0, .ofNat 0, .ofNat 5), (2, .ofNat 1, .ofNat 0), (0, .ofNat 0, .ofNat 0))], [(1, [(.negSucc 2147483647, .negSucc 0)]), (2, [(.ofNat 0, .ofNat 16)])], [], []),
  (0, [], [.inl (false, (0, .ofNat 0, .negSucc 0))], [(2, 0, (0, .ofNat 0, .ofNat 0), (0, .ofNat 0, .ofNat 0), (0, .ofNat 0, .ofNat 0)), (2, 4, (1, .ofNat 1, .ofNat 0), (2, .ofNat 1, .negSucc 0), (0, .ofNat 0, .ofNat 0)), (2, 3, (1, .ofNat 1, .ofNat 0), (0, .ofNat 0, .ofNat 0), (0, .ofNat 0, .ofNat 0)), (0, 122, (0, .ofNat 0, .ofNat 5), (2, .ofNat 1, .ofNat 0), (0, .ofNat 0, .ofNat 0))], [(1, [(.ofNat 0, .ofNat 2147483647)]), (2, [(.ofNat 0, .ofNat 16)])], [], []),
  (0, [], [.inl (false, (0, .ofNat 0, .negSucc 1))], [(2, 0, (0, .ofNat 0, .ofNat 0), (0, .ofNat 0, .ofNat 0), (0, .ofNat 0, .ofNat 0)), (2, 0, (3, .ofNat 1, .ofNat 0), (0, .ofNat 0, .negSucc 3), (0, .ofNat 0, .ofNat 0)), (0, 130, (1, .ofNat 1, .ofNat 0), (3, .ofNat 1, .ofNat 0), (0, .ofNat 0, .ofNat 0)), (2, 1, (0, .ofNat 0, .ofNat 1), (0, .ofNat 0, .ofNat 0), (0, .ofNat 0, .ofNat 0)), (2, 5, (1, .ofNat 1, .ofNat 0), (2, .ofNat 1, .negSucc 0), (0, .ofNat 0, .ofNat 0)), (2, 3, (1, .ofNat 1, .ofNat 0), (0, .ofNat 0, .ofNat 0), (0, .ofNat 0, .ofNat 0)), (0, 122, (0, .ofNat 0, .ofNat 5), (2, .ofNat 1, .ofNat 0), (0, .ofNat 0, .ofNat 0))], [(1, [(.ofNat 0, .ofNat 15)]), (2, [(.ofNat 1, .ofNat 16)]), (3, [(.negSucc 3, .negSucc 3)])], [], []),
  (23, [(0, .inr (.inl [122])), (1, .inl (false, (1, .ofNat 1, .ofNat 0)))], [.inr (.inl [122])], [(2, 1, (0, .ofNat 0, .ofNat 1), (0, .ofNat 0, .ofNat 0), (0, .ofNat 0, .ofNat 0)), (2, 1, (3, .ofNat 1, .ofNat 0), (0, .ofNat 0, .negSucc 3), (0, .ofNat 0, .ofNat 0)), (0, 130, (1, .ofNat 1, .ofNat 0), (3, .ofNat 1, .ofNat 0), (0, .ofNat 0, .ofNat 0)), (2, 1, (0, .ofNat 0, .ofNat 1), (0, .ofNat 0, .ofNat 0), (0, .ofNat 0, .ofNat 0)), (2, 5, (1, .ofNat 1, .ofNat 0), (2, .ofNat 1, .negSucc 0), (0, .ofNat 0, .ofNat 0)), (2, 3, (1, .ofNat 1, .ofNat 0), (0, .ofNat 0, .ofNat 0), (0, .ofNat 0, .ofNat 0)), (0, 122, (0, .ofNat 0, .ofNat 5), (2, .ofNat 1, .ofNat 0), (0, .ofNat 0, .ofNat 0))], [(1, [(.ofNat 0, .ofNat 15)]), (2, [(.ofNat 1, .ofNat 16)]), (3, [(.ofNat 0, .ofNat 7)])], [], [])]
set_option maxRecDepth 1000000 in
theorem sg_tk_m0_g : sg_go [] [22] 3000 179 0 2 2 [(0, [(.ofNat 0, .ofNat 0)]), (1, [(.negSucc 2147483647, .ofNat 2147483647)])] [] [] [] [(0, .inr (.inl [122])), (1, .inl (false, (1, .ofNat 1, .ofNat 0)))] [] [] sg_tk_m0_Z = true := by decide +kernel
set_option maxRecDepth 100000 in
theorem sg_tk_m0 {Q : Option Value × am_S → Prop} {d : Nat} {S : am_S} {L : am_L} {x1 : Int} (hd : 2 ≤ d) (hP : ax_P0 none S) (l0 : lc L 0 122) (l1 : li L 1 x1) (b1 : ((-2147483648) ≤ x1 ∧ x1 ≤ 2147483647))
    (k0 : ∀ (x2 : Int) (i1 : Int32), rd S 122 5 = x2 → x1 < 0 → ((-2147483648) ≤ x1 ∧ x1 ≤ (-1)) → (0 ≤ x2 ∧ x2 ≤ 16) → i1.toInt = (-1) → Q (some (.int i1), S))
    (k1 : ∀ (x2 : Int) (i1 : Int32), rd S 122 5 = x2 → 0 ≤ x1 → x2 + (-1) < x1 → (0 ≤ x1 ∧ x1 ≤ 2147483647) → (0 ≤ x2 ∧ x2 ≤ 16) → i1.toInt = (-1) → Q (some (.int i1), S))
    (k2 : ∀ (x2 x3 : Int) (i1 : Int32), rd S 122 5 = x2 → 0 ≤ x1 → x1 ≤ x2 + (-1) → rd S 130 x1 = x3 → x3 = (-4) → (0 ≤ x1 ∧ x1 ≤ 15) → (1 ≤ x2 ∧ x2 ≤ 16) → ((-4) ≤ x3 ∧ x3 ≤ (-4)) → i1.toInt = (-2) → Q (some (.int i1), S))
    (k3 : ∀ (x2 x3 : Int) (L' : am_L), rd S 122 5 = x2 → 0 ≤ x1 → x1 ≤ x2 + (-1) → rd S 130 x1 = x3 → x3 ≠ (-4) → (0 ≤ x1 ∧ x1 ≤ 15) → (1 ≤ x2 ∧ x2 ≤ 16) → (0 ≤ x3 ∧ x3 ≤ 7) → lc L' 0 122 → li L' 1 x1 → am_V none d 179 22 L' ((.ref 122) :: []) S Q) : am_V none d 179 0 L ([]) S Q := by
  refine sg_use sg_tk_m0_g hd hP (sg_xs [0, x1]) ⟨⟨Int.le_refl 0, Int.le_refl 0⟩, b1, trivial⟩ trivial trivial trivial ⟨l0, l1, trivial⟩ trivial ?_
  intro z hz x' L' st' S' hx hP' hW hL' hs' hJ hE' hT' hD'
  have q1 : x' 1 = x1 := hx 1 (by decide)
  subst q1
  have eS : S' = S := hW.1 rfl
  subst eS
  simp only [sg_tk_m0_Z, List.mem_cons, List.not_mem_nil, or_false] at hz
  rcases hz with rfl | rfl | rfl | rfl
  · obtain ⟨f0, f1, -, hσ⟩ := hJ
    obtain ⟨e0, e1, -⟩ := hE'
    intro v hv
    subst hv
    cases v with
    | none => exact hs'.elim
    | some v1 =>
      obtain ⟨⟨i1, rfl, g1⟩, -⟩ := hs'
      exact k0 (x' 2) i1 f0 f1 e0 e1 g1
  · obtain ⟨f0, f1, f2, -, hσ⟩ := hJ
    obtain ⟨e0, e1, -⟩ := hE'
    intro v hv
    subst hv
    cases v with
    | none => exact hs'.elim
    | some v1 =>
      obtain ⟨⟨i1, rfl, g1⟩, -⟩ := hs'
      exact k1 (x' 2) i1 f0 f1 f2 e0 e1 g1
  · obtain ⟨f0, f1, f2, -, f4, f5, -, hσ⟩ := hJ
    obtain ⟨e0, e1, e2, -⟩ := hE'
    intro v hv
    subst hv
    cases v with
    | none => exact hs'.elim
    | some v1 =>
      obtain ⟨⟨i1, rfl, g1⟩, -⟩ := hs'
      exact k2 (x' 2) (x' 3) i1 f0 f1 f2 f4 f5 e0 e1 e2 g1
  · obtain ⟨f0, f1, f2, -, f4, f5, -, hσ⟩ := hJ
    obtain ⟨e0, e1, e2, -⟩ := hE'
    obtain ⟨p0, p1, -⟩ := hL'
    obtain ⟨v1, r1, rfl, rfl, hs1⟩ := sg_tc hs'
    obtain rfl := sg_tn hs1
    exact k3 (x' 2) (x' 3) L' f0 f1 f2 f4 f5 e0 e1 e2 p0 p1
def sg_tk_m1_Z : List sg_z := [(0, [], [.inl (false, (0, .ofNat 0, .ofNat 1))], [(1, 131, (1, .ofNat 1, .ofNat 0), (0, .ofNat 0, .negSucc 3), (0, .ofNat 0, .ofNat 0)), (1, 130, (1, .ofNat 1, .ofNat 0), (0, .ofNat 0, .negSucc 3), (0, .ofNat 0, .ofNat 0))], [(1, [(.ofNat 0, .ofNat 15)])], [], [])]
set_option maxRecDepth 1000000 in
theorem sg_tk_m1_g : sg_go [] [] 3000 179 25 0 2 [(0, [(.ofNat 0, .ofNat 0)]), (1, [(.ofNat 0, .ofNat 15)])] [] [] [] [(0, .inr (.inl [122])), (1, .inl (false, (1, .ofNat 1, .ofNat 0)))] [] [(130, none), (131, none)] sg_tk_m1_Z = true := by decide +kernel
set_option maxRecDepth 100000 in
theorem sg_tk_m1 {Q : Option Value × am_S → Prop} {d : Nat} {S : am_S} {L : am_L} {x1 : Int} (hd : 0 ≤ d) (hP : ax_P0 none S) (l0 : lc L 0 122) (l1 : li L 1 x1) (b1 : (0 ≤ x1 ∧ x1 ≤ 15))
    (k0 : ∀ (S' : am_S) (i1 : Int32), ax_P0 none S' → rd S' = sg_up (sg_up (rd S) 130 x1 (-4)) 131 x1 (-4) → (0 ≤ x1 ∧ x1 ≤ 15) → i1.toInt = 1 → Q (some (.int i1), S')) : am_V none d 179 25 L ([]) S Q := by
  refine sg_use sg_tk_m1_g hd hP (sg_xs [0, x1]) ⟨⟨Int.le_refl 0, Int.le_refl 0⟩, b1, trivial⟩ trivial trivial trivial ⟨l0, l1, trivial⟩ trivial ?_
  intro z hz x' L' st' S' hx hP' hW hL' hs' hJ hE' hT' hD'
  have q1 : x' 1 = x1 := hx 1 (by decide)
  subst q1
  simp only [sg_tk_m1_Z, List.mem_cons, List.not_mem_nil, or_false] at hz
  rcases hz with rfl
  · have hσ := hJ
    obtain ⟨e0, -⟩ := hE'
    intro v hv
    subst hv
    cases v with
    | none => exact hs'.elim
    | some v1 =>
      obtain ⟨⟨i1, rfl, g1⟩, -⟩ := hs'
      exact k0 S' i1 hP' hσ e0 g1
def sg_kp_x0_Z : List sg_z := [(29, [(0, .inr (.inl [0]))], [.inr (.inl [6]), .inr (.inl [1]), .inr (.inl [110])], [(0, 0, (0, .ofNat 0, .ofNat 12), (0, .ofNat 0, .ofNat 3), (0, .ofNat 0, .ofNat 0)), (2, 2, (1, .ofNat 1, .ofNat 0), (0, .ofNat 0, .ofNat 4), (0, .ofNat 0, .ofNat 0)), (0, 0, (0, .ofNat 0, .ofNat 12), (1, .ofNat 1, .ofNat 0), (0, .ofNat 0, .ofNat 0))], [(1, [(.ofNat 3, .ofNat 3)])], [], []),
  (29, [(0, .inr (.inl [0]))], [.inr (.inl [6]), .inr (.inl [1]), .inr (.inl [106])], [(0, 0, (0, .ofNat 0, .ofNat 12), (0, .ofNat 0, .ofNat 2), (0, .ofNat 0, .ofNat 0)), (2, 2, (1, .ofNat 1, .ofNat 0), (0, .ofNat 0, .ofNat 4), (0, .ofNat 0, .ofNat 0)), (0, 0, (0, .ofNat 0, .ofNat 12), (1, .ofNat 1, .ofNat 0), (0, .ofNat 0, .ofNat 0))], [(1, [(.ofNat 2, .ofNat 2)])], [], []),
  (29, [(0, .inr (.inl [0]))], [.inr (.inl [6]), .inr (.inl [1]), .inr (.inl [102])], [(0, 0, (0, .ofNat 0, .ofNat 12), (0, .ofNat 0, .ofNat 1), (0, .ofNat 0, .ofNat 0)), (2, 2, (1, .ofNat 1, .ofNat 0), (0, .ofNat 0, .ofNat 4), (0, .ofNat 0, .ofNat 0)), (0, 0, (0, .ofNat 0, .ofNat 12), (1, .ofNat 1, .ofNat 0), (0, .ofNat 0, .ofNat 0))], [(1, [(.ofNat 1, .ofNat 1)])], [], []),
  (29, [(0, .inr (.inl [0]))], [.inr (.inl [6]), .inr (.inl [1]), .inr (.inl [98])], [(0, 0, (0, .ofNat 0, .ofNat 12), (0, .ofNat 0, .ofNat 0), (0, .ofNat 0, .ofNat 0)), (2, 2, (1, .ofNat 1, .ofNat 0), (0, .ofNat 0, .ofNat 4), (0, .ofNat 0, .ofNat 0)), (0, 0, (0, .ofNat 0, .ofNat 12), (1, .ofNat 1, .ofNat 0), (0, .ofNat 0, .ofNat 0))], [(1, [(.ofNat 0, .ofNat 0)])], [], []),
  (0, [], [.inl (false, (0, .ofNat 0, .negSucc 2))], [(2, 3, (1, .ofNat 1, .ofNat 0), (0, .ofNat 0, .ofNat 4), (0, .ofNat 0, .ofNat 0)), (0, 0, (0, .ofNat 0, .ofNat 12), (1, .ofNat 1, .ofNat 0), (0, .ofNat 0, .ofNat 0))], [(1, [(.ofNat 4, .ofNat 4)])], [], [])]
set_option maxRecDepth 1000000 in
theorem sg_kp_x0_g : sg_go [(8781839, .inr 100012)] [28] 3000 134 0 0 1 [(0, [(.ofNat 0, .ofNat 0)])] [] [] [] [(0, .inr (.inl [0]))] [] [] sg_kp_x0_Z = true := by decide +kernel
set_option maxRecDepth 100000 in
theorem sg_kp_x0 {Q : Option Value × am_S → Prop} {d : Nat} {S : am_S} {L : am_L} (hd : 0 ≤ d) (hP : ax_P0 none S) (l0 : lc L 0 0)
    (k0 : ∀ (x1 : Int) (L' : am_L), rd S 0 12 = x1 → x1 < 4 → rd S 0 12 = 3 → (3 ≤ x1 ∧ x1 ≤ 3) → lc L' 0 0 → am_V none d 134 28 L' ((.ref 6) :: (.ref 1) :: (.ref 110) :: []) S Q)
    (k1 : ∀ (x1 : Int) (L' : am_L), rd S 0 12 = x1 → x1 < 4 → rd S 0 12 = 2 → (2 ≤ x1 ∧ x1 ≤ 2) → lc L' 0 0 → am_V none d 134 28 L' ((.ref 6) :: (.ref 1) :: (.ref 106) :: []) S Q)
    (k2 : ∀ (x1 : Int) (L' : am_L), rd S 0 12 = x1 → x1 < 4 → rd S 0 12 = 1 → (1 ≤ x1 ∧ x1 ≤ 1) → lc L' 0 0 → am_V none d 134 28 L' ((.ref 6) :: (.ref 1) :: (.ref 102) :: []) S Q)
    (k3 : ∀ (x1 : Int) (L' : am_L), rd S 0 12 = x1 → x1 < 4 → rd S 0 12 = 0 → (0 ≤ x1 ∧ x1 ≤ 0) → lc L' 0 0 → am_V none d 134 28 L' ((.ref 6) :: (.ref 1) :: (.ref 98) :: []) S Q)
    (k4 : ∀ (x1 : Int) (i1 : Int32), rd S 0 12 = x1 → 4 ≤ x1 → (4 ≤ x1 ∧ x1 ≤ 4) → i1.toInt = (-3) → Q (some (.int i1), S)) : am_V none d 134 0 L ([]) S Q := by
  refine sg_use sg_kp_x0_g hd hP (sg_xs [0]) ⟨⟨Int.le_refl 0, Int.le_refl 0⟩, trivial⟩ trivial trivial trivial ⟨l0, trivial⟩ trivial ?_
  intro z hz x' L' st' S' hx hP' hW hL' hs' hJ hE' hT' hD'
  have eS : S' = S := hW.1 rfl
  subst eS
  simp only [sg_kp_x0_Z, List.mem_cons, List.not_mem_nil, or_false] at hz
  rcases hz with rfl | rfl | rfl | rfl | rfl
  · obtain ⟨f0, f1, f2, hσ⟩ := hJ
    obtain ⟨e0, -⟩ := hE'
    obtain ⟨p0, -⟩ := hL'
    obtain ⟨v1, r1, rfl, rfl, hs1⟩ := sg_tc hs'
    obtain ⟨v2, r2, rfl, rfl, hs2⟩ := sg_tc hs1
    obtain ⟨v3, r3, rfl, rfl, hs3⟩ := sg_tc hs2
    obtain rfl := sg_tn hs3
    exact k0 (x' 1) L' f0 f1 f2 e0 p0
  · obtain ⟨f0, f1, f2, hσ⟩ := hJ
    obtain ⟨e0, -⟩ := hE'
    obtain ⟨p0, -⟩ := hL'
    obtain ⟨v1, r1, rfl, rfl, hs1⟩ := sg_tc hs'
    obtain ⟨v2, r2, rfl, rfl, hs2⟩ := sg_tc hs1
    obtain ⟨v3, r3, rfl, rfl, hs3⟩ := sg_tc hs2
    obtain rfl := sg_tn hs3
    exact k1 (x' 1) L' f0 f1 f2 e0 p0
  · obtain ⟨f0, f1, f2, hσ⟩ := hJ
    obtain ⟨e0, -⟩ := hE'
    obtain ⟨p0, -⟩ := hL'
    obtain ⟨v1, r1, rfl, rfl, hs1⟩ := sg_tc hs'
    obtain ⟨v2, r2, rfl, rfl, hs2⟩ := sg_tc hs1
    obtain ⟨v3, r3, rfl, rfl, hs3⟩ := sg_tc hs2
    obtain rfl := sg_tn hs3
    exact k2 (x' 1) L' f0 f1 f2 e0 p0
  · obtain ⟨f0, f1, f2, hσ⟩ := hJ
    obtain ⟨e0, -⟩ := hE'
    obtain ⟨p0, -⟩ := hL'
    obtain ⟨v1, r1, rfl, rfl, hs1⟩ := sg_tc hs'
    obtain ⟨v2, r2, rfl, rfl, hs2⟩ := sg_tc hs1
    obtain ⟨v3, r3, rfl, rfl, hs3⟩ := sg_tc hs2
    obtain rfl := sg_tn hs3
    exact k3 (x' 1) L' f0 f1 f2 e0 p0
  · obtain ⟨f0, f1, hσ⟩ := hJ
    obtain ⟨e0, -⟩ := hE'
    intro v hv
    subst hv
    cases v with
    | none => exact hs'.elim
    | some v1 =>
      obtain ⟨⟨i1, rfl, g1⟩, -⟩ := hs'
      exact k4 (x' 1) i1 f0 f1 e0 g1
def sg_kp_x1_Z : List sg_z := [(0, [], [.inl (false, (1, .ofNat 1, .ofNat 0))], [(0, 0, (0, .ofNat 0, .ofNat 12), (1, .ofNat 1, .ofNat 1), (0, .ofNat 0, .ofNat 0)), (1, 0, (0, .ofNat 0, .ofNat 12), (1, .ofNat 1, .ofNat 1), (0, .ofNat 0, .ofNat 0)), (0, 0, (0, .ofNat 0, .ofNat 12), (1, .ofNat 1, .ofNat 0), (0, .ofNat 0, .ofNat 0))], [(1, [(.ofNat 0, .ofNat 3)])], [], [])]
set_option maxRecDepth 1000000 in
theorem sg_kp_x1_g : sg_go [] [] 3000 134 31 0 2 [(0, [(.ofNat 0, .ofNat 0)]), (1, [(.ofNat 0, .ofNat 3)])] [(0, (0, .ofNat 0, .ofNat 12), (1, .ofNat 1, .ofNat 0))] [] [] [(0, .inr (.inl [0]))] [] [(0, some 12)] sg_kp_x1_Z = true := by decide +kernel
set_option maxRecDepth 100000 in
theorem sg_kp_x1 {Q : Option Value × am_S → Prop} {d : Nat} {S : am_S} {L : am_L} {x1 : Int} (hd : 0 ≤ d) (hP : ax_P0 none S) (l0 : lc L 0 0) (b1 : (0 ≤ x1 ∧ x1 ≤ 3)) (m0_12 : rd S 0 12 = x1)
    (k0 : ∀ (S' : am_S) (i1 : Int32), ax_P0 none S' → rd S' = sg_up (rd S) 0 12 (x1 + 1) → rd S 0 12 = x1 → (0 ≤ x1 ∧ x1 ≤ 3) → i1.toInt = x1 → Q (some (.int i1), S')) : am_V none d 134 31 L ([]) S Q := by
  refine sg_use sg_kp_x1_g hd hP (sg_xs [0, x1]) ⟨⟨Int.le_refl 0, Int.le_refl 0⟩, b1, trivial⟩ ⟨sg_fs hP rfl m0_12, trivial⟩ trivial trivial ⟨l0, trivial⟩ trivial ?_
  intro z hz x' L' st' S' hx hP' hW hL' hs' hJ hE' hT' hD'
  have q1 : x' 1 = x1 := hx 1 (by decide)
  subst q1
  simp only [sg_kp_x1_Z, List.mem_cons, List.not_mem_nil, or_false] at hz
  rcases hz with rfl
  · obtain ⟨f0, -, hσ⟩ := hJ
    obtain ⟨e0, -⟩ := hE'
    intro v hv
    subst hv
    cases v with
    | none => exact hs'.elim
    | some v1 =>
      obtain ⟨⟨i1, rfl, g1⟩, -⟩ := hs'
      exact k0 S' i1 hP' hσ f0 e0 g1
def sg_kp_m0_Z : List sg_z := [(24, [(0, .inr (.inl [122]))], [.inl (false, (1, .ofNat 50, .ofNat 0)), .inr (.inl [156]), .inr (.inl [122])], [(0, 122, (0, .ofNat 0, .ofNat 52), (1, .ofNat 1, .ofNat 0), (0, .ofNat 0, .ofNat 0)), (2, 1, (1, .ofNat 1, .ofNat 0), (0, .ofNat 0, .ofNat 4), (0, .ofNat 0, .ofNat 0)), (0, 122, (0, .ofNat 0, .ofNat 52), (1, .ofNat 1, .ofNat 0), (0, .ofNat 0, .ofNat 0))], [(1, [(.ofNat 0, .ofNat 3)])], [], []),
  (0, [], [.inl (false, (0, .ofNat 0, .negSucc 2))], [(2, 0, (1, .ofNat 1, .ofNat 0), (0, .ofNat 0, .ofNat 4), (0, .ofNat 0, .ofNat 0)), (0, 122, (0, .ofNat 0, .ofNat 52), (1, .ofNat 1, .ofNat 0), (0, .ofNat 0, .ofNat 0))], [(1, [(.ofNat 4, .ofNat 4)])], [], [])]
set_option maxRecDepth 1000000 in
theorem sg_kp_m0_g : sg_go [] [23] 3000 244 0 0 1 [(0, [(.ofNat 0, .ofNat 0)])] [] [] [] [(0, .inr (.inl [122]))] [] [] sg_kp_m0_Z = true := by decide +kernel
set_option maxRecDepth 100000 in
theorem sg_kp_m0 {Q : Option Value × am_S → Prop} {d : Nat} {S : am_S} {L : am_L} (hd : 0 ≤ d) (hP : ax_P0 none S) (l0 : lc L 0 122)
    (k0 : ∀ (x1 : Int) (L' : am_L) (i1 : Int32), rd S 122 52 = x1 → x1 ≠ 4 → (0 ≤ x1 ∧ x1 ≤ 3) → lc L' 0 122 → i1.toInt = 50 * x1 + 0 → am_V none d 244 23 L' ((.int i1) :: (.ref 156) :: (.ref 122) :: []) S Q)
    (k1 : ∀ (x1 : Int) (i1 : Int32), rd S 122 52 = x1 → x1 = 4 → (4 ≤ x1 ∧ x1 ≤ 4) → i1.toInt = (-3) → Q (some (.int i1), S)) : am_V none d 244 0 L ([]) S Q := by
  refine sg_use sg_kp_m0_g hd hP (sg_xs [0]) ⟨⟨Int.le_refl 0, Int.le_refl 0⟩, trivial⟩ trivial trivial trivial ⟨l0, trivial⟩ trivial ?_
  intro z hz x' L' st' S' hx hP' hW hL' hs' hJ hE' hT' hD'
  have eS : S' = S := hW.1 rfl
  subst eS
  simp only [sg_kp_m0_Z, List.mem_cons, List.not_mem_nil, or_false] at hz
  rcases hz with rfl | rfl
  · obtain ⟨f0, f1, -, hσ⟩ := hJ
    obtain ⟨e0, -⟩ := hE'
    obtain ⟨p0, -⟩ := hL'
    obtain ⟨v1, r1, rfl, ⟨i1, rfl, g1⟩, hs1⟩ := sg_tc hs'
    obtain ⟨v2, r2, rfl, rfl, hs2⟩ := sg_tc hs1
    obtain ⟨v3, r3, rfl, rfl, hs3⟩ := sg_tc hs2
    obtain rfl := sg_tn hs3
    exact k0 (x' 1) L' i1 f0 f1 e0 p0 g1
  · obtain ⟨f0, f1, hσ⟩ := hJ
    obtain ⟨e0, -⟩ := hE'
    intro v hv
    subst hv
    cases v with
    | none => exact hs'.elim
    | some v1 =>
      obtain ⟨⟨i1, rfl, g1⟩, -⟩ := hs'
      exact k1 (x' 1) i1 f0 f1 e0 g1
def sg_kp_m1_Z : List sg_z := [(0, [], [.inl (false, (1, .ofNat 1, .ofNat 0))], [(0, 122, (0, .ofNat 0, .ofNat 52), (1, .ofNat 1, .ofNat 1), (0, .ofNat 0, .ofNat 0)), (1, 122, (0, .ofNat 0, .ofNat 52), (1, .ofNat 1, .ofNat 1), (0, .ofNat 0, .ofNat 0)), (0, 122, (0, .ofNat 0, .ofNat 52), (1, .ofNat 1, .ofNat 0), (0, .ofNat 0, .ofNat 0))], [(1, [(.ofNat 0, .ofNat 3)])], [], [])]
set_option maxRecDepth 1000000 in
theorem sg_kp_m1_g : sg_go [] [] 3000 244 26 0 2 [(0, [(.ofNat 0, .ofNat 0)]), (1, [(.ofNat 0, .ofNat 3)])] [(122, (0, .ofNat 0, .ofNat 52), (1, .ofNat 1, .ofNat 0))] [] [] [(0, .inr (.inl [122]))] [] [(122, some 52)] sg_kp_m1_Z = true := by decide +kernel
set_option maxRecDepth 100000 in
theorem sg_kp_m1 {Q : Option Value × am_S → Prop} {d : Nat} {S : am_S} {L : am_L} {x1 : Int} (hd : 0 ≤ d) (hP : ax_P0 none S) (l0 : lc L 0 122) (b1 : (0 ≤ x1 ∧ x1 ≤ 3)) (m122_52 : rd S 122 52 = x1)
    (k0 : ∀ (S' : am_S) (i1 : Int32), ax_P0 none S' → rd S' = sg_up (rd S) 122 52 (x1 + 1) → rd S 122 52 = x1 → (0 ≤ x1 ∧ x1 ≤ 3) → i1.toInt = x1 → Q (some (.int i1), S')) : am_V none d 244 26 L ([]) S Q := by
  refine sg_use sg_kp_m1_g hd hP (sg_xs [0, x1]) ⟨⟨Int.le_refl 0, Int.le_refl 0⟩, b1, trivial⟩ ⟨sg_fs hP rfl m122_52, trivial⟩ trivial trivial ⟨l0, trivial⟩ trivial ?_
  intro z hz x' L' st' S' hx hP' hW hL' hs' hJ hE' hT' hD'
  have q1 : x' 1 = x1 := hx 1 (by decide)
  subst q1
  simp only [sg_kp_m1_Z, List.mem_cons, List.not_mem_nil, or_false] at hz
  rcases hz with rfl
  · obtain ⟨f0, -, hσ⟩ := hJ
    obtain ⟨e0, -⟩ := hE'
    intro v hv
    subst hv
    cases v with
    | none => exact hs'.elim
    | some v1 =>
      obtain ⟨⟨i1, rfl, g1⟩, -⟩ := hs'
      exact k0 S' i1 hP' hσ f0 e0 g1
def sg_bk_x0_Z : List sg_z := [(0, [], [.inl (false, (0, .ofNat 0, .negSucc 0))], [(2, 0, (0, .ofNat 0, .ofNat 0), (0, .ofNat 0, .ofNat 0), (0, .ofNat 0, .ofNat 0)), (2, 2, (1, .ofNat 1, .ofNat 0), (0, .ofNat 0, .ofNat 0), (0, .ofNat 0, .ofNat 0))], [(1, [(.negSucc 2147483647, .negSucc 0)])], [], []),
  (0, [], [.inl (false, (0, .ofNat 0, .negSucc 0))], [(2, 0, (0, .ofNat 0, .ofNat 0), (0, .ofNat 0, .ofNat 0), (0, .ofNat 0, .ofNat 0)), (2, 3, (1, .ofNat 1, .ofNat 0), (2, .ofNat 1, .ofNat 0), (0, .ofNat 0, .ofNat 0)), (0, 0, (0, .ofNat 0, .ofNat 12), (2, .ofNat 1, .ofNat 0), (0, .ofNat 0, .ofNat 0)), (2, 3, (1, .ofNat 1, .ofNat 0), (0, .ofNat 0, .ofNat 0), (0, .ofNat 0, .ofNat 0))], [(1, [(.ofNat 0, .ofNat 2147483647)]), (2, [(.ofNat 0, .ofNat 4)])], [], []),
  (21, [(0, .inr (.inl [0])), (1, .inl (false, (0, .ofNat 0, .ofNat 3)))], [.inr (.inl [1]), .inr (.inl [110])], [(2, 1, (0, .ofNat 0, .ofNat 1), (0, .ofNat 0, .ofNat 0), (0, .ofNat 0, .ofNat 0)), (2, 2, (1, .ofNat 1, .ofNat 0), (2, .ofNat 1, .ofNat 0), (0, .ofNat 0, .ofNat 0)), (0, 0, (0, .ofNat 0, .ofNat 12), (2, .ofNat 1, .ofNat 0), (0, .ofNat 0, .ofNat 0)), (2, 3, (1, .ofNat 1, .ofNat 0), (0, .ofNat 0, .ofNat 0), (0, .ofNat 0, .ofNat 0))], [(1, [(.ofNat 3, .ofNat 3)]), (2, [(.ofNat 1, .ofNat 4)])], [], []),
  (21, [(0, .inr (.inl [0])), (1, .inl (false, (0, .ofNat 0, .ofNat 2)))], [.inr (.inl [1]), .inr (.inl [106])], [(2, 1, (0, .ofNat 0, .ofNat 1), (0, .ofNat 0, .ofNat 0), (0, .ofNat 0, .ofNat 0)), (2, 2, (1, .ofNat 1, .ofNat 0), (2, .ofNat 1, .ofNat 0), (0, .ofNat 0, .ofNat 0)), (0, 0, (0, .ofNat 0, .ofNat 12), (2, .ofNat 1, .ofNat 0), (0, .ofNat 0, .ofNat 0)), (2, 3, (1, .ofNat 1, .ofNat 0), (0, .ofNat 0, .ofNat 0), (0, .ofNat 0, .ofNat 0))], [(1, [(.ofNat 2, .ofNat 2)]), (2, [(.ofNat 1, .ofNat 4)])], [], []),
  (21, [(0, .inr (.inl [0])), (1, .inl (false, (0, .ofNat 0, .ofNat 1)))], [.inr (.inl [1]), .inr (.inl [102])], [(2, 1, (0, .ofNat 0, .ofNat 1), (0, .ofNat 0, .ofNat 0), (0, .ofNat 0, .ofNat 0)), (2, 2, (1, .ofNat 1, .ofNat 0), (2, .ofNat 1, .ofNat 0), (0, .ofNat 0, .ofNat 0)), (0, 0, (0, .ofNat 0, .ofNat 12), (2, .ofNat 1, .ofNat 0), (0, .ofNat 0, .ofNat 0)), (2, 3, (1, .ofNat 1, .ofNat 0), (0, .ofNat 0, .ofNat 0), (0, .ofNat 0, .ofNat 0))], [(1, [(.ofNat 1, .ofNat 1)]), (2, [(.ofNat 1, .ofNat 4)])], [], []),
  (21, [(0, .inr (.inl [0])), (1, .inl (false, (0, .ofNat 0, .ofNat 0)))], [.inr (.inl [1]), .inr (.inl [98])], [(2, 1, (0, .ofNat 0, .ofNat 1), (0, .ofNat 0, .ofNat 0), (0, .ofNat 0, .ofNat 0)), (2, 2, (1, .ofNat 1, .ofNat 0), (2, .ofNat 1, .ofNat 0), (0, .ofNat 0, .ofNat 0)), (0, 0, (0, .ofNat 0, .ofNat 12), (2, .ofNat 1, .ofNat 0), (0, .ofNat 0, .ofNat 0)), (2, 3, (1, .ofNat 1, .ofNat 0), (0, .ofNat 0, .ofNat 0), (0, .ofNat 0, .ofNat 0))], [(1, [(.ofNat 0, .ofNat 0)]), (2, [(.ofNat 1, .ofNat 4)])], [], [])]
set_option maxRecDepth 1000000 in
theorem sg_bk_x0_g : sg_go [(8912906, .inr 1)] [20] 3000 136 0 1 2 [(0, [(.ofNat 0, .ofNat 0)]), (1, [(.negSucc 2147483647, .ofNat 2147483647)])] [] [] [] [(0, .inr (.inl [0])), (1, .inl (false, (1, .ofNat 1, .ofNat 0)))] [] [] sg_bk_x0_Z = true := by decide +kernel
set_option maxRecDepth 100000 in
theorem sg_bk_x0 {Q : Option Value × am_S → Prop} {d : Nat} {S : am_S} {L : am_L} {x1 : Int} (hd : 1 ≤ d) (hP : ax_P0 none S) (l0 : lc L 0 0) (l1 : li L 1 x1) (b1 : ((-2147483648) ≤ x1 ∧ x1 ≤ 2147483647))
    (k0 : ∀ (i1 : Int32), x1 < 0 → ((-2147483648) ≤ x1 ∧ x1 ≤ (-1)) → i1.toInt = (-1) → Q (some (.int i1), S))
    (k1 : ∀ (x2 : Int) (i1 : Int32), 0 ≤ x1 → rd S 0 12 = x2 → x2 ≤ x1 → (0 ≤ x1 ∧ x1 ≤ 2147483647) → (0 ≤ x2 ∧ x2 ≤ 4) → i1.toInt = (-1) → Q (some (.int i1), S))
    (k2 : ∀ (x2 : Int) (L' : am_L), 0 ≤ x1 → rd S 0 12 = x2 → x1 < x2 → (3 ≤ x1 ∧ x1 ≤ 3) → (1 ≤ x2 ∧ x2 ≤ 4) → lc L' 0 0 → li L' 1 3 → am_V none d 136 20 L' ((.ref 1) :: (.ref 110) :: []) S Q)
    (k3 : ∀ (x2 : Int) (L' : am_L), 0 ≤ x1 → rd S 0 12 = x2 → x1 < x2 → (2 ≤ x1 ∧ x1 ≤ 2) → (1 ≤ x2 ∧ x2 ≤ 4) → lc L' 0 0 → li L' 1 2 → am_V none d 136 20 L' ((.ref 1) :: (.ref 106) :: []) S Q)
    (k4 : ∀ (x2 : Int) (L' : am_L), 0 ≤ x1 → rd S 0 12 = x2 → x1 < x2 → (1 ≤ x1 ∧ x1 ≤ 1) → (1 ≤ x2 ∧ x2 ≤ 4) → lc L' 0 0 → li L' 1 1 → am_V none d 136 20 L' ((.ref 1) :: (.ref 102) :: []) S Q)
    (k5 : ∀ (x2 : Int) (L' : am_L), 0 ≤ x1 → rd S 0 12 = x2 → x1 < x2 → (0 ≤ x1 ∧ x1 ≤ 0) → (1 ≤ x2 ∧ x2 ≤ 4) → lc L' 0 0 → li L' 1 0 → am_V none d 136 20 L' ((.ref 1) :: (.ref 98) :: []) S Q) : am_V none d 136 0 L ([]) S Q := by
  refine sg_use sg_bk_x0_g hd hP (sg_xs [0, x1]) ⟨⟨Int.le_refl 0, Int.le_refl 0⟩, b1, trivial⟩ trivial trivial trivial ⟨l0, l1, trivial⟩ trivial ?_
  intro z hz x' L' st' S' hx hP' hW hL' hs' hJ hE' hT' hD'
  have q1 : x' 1 = x1 := hx 1 (by decide)
  subst q1
  have eS : S' = S := hW.1 rfl
  subst eS
  simp only [sg_bk_x0_Z, List.mem_cons, List.not_mem_nil, or_false] at hz
  rcases hz with rfl | rfl | rfl | rfl | rfl | rfl
  · obtain ⟨f0, -, hσ⟩ := hJ
    obtain ⟨e0, -⟩ := hE'
    intro v hv
    subst hv
    cases v with
    | none => exact hs'.elim
    | some v1 =>
      obtain ⟨⟨i1, rfl, g1⟩, -⟩ := hs'
      exact k0 i1 f0 e0 g1
  · obtain ⟨f0, f1, f2, -, hσ⟩ := hJ
    obtain ⟨e0, e1, -⟩ := hE'
    intro v hv
    subst hv
    cases v with
    | none => exact hs'.elim
    | some v1 =>
      obtain ⟨⟨i1, rfl, g1⟩, -⟩ := hs'
      exact k1 (x' 2) i1 f0 f1 f2 e0 e1 g1
  · obtain ⟨f0, f1, f2, -, hσ⟩ := hJ
    obtain ⟨e0, e1, -⟩ := hE'
    obtain ⟨p0, p1, -⟩ := hL'
    obtain ⟨v1, r1, rfl, rfl, hs1⟩ := sg_tc hs'
    obtain ⟨v2, r2, rfl, rfl, hs2⟩ := sg_tc hs1
    obtain rfl := sg_tn hs2
    exact k2 (x' 2) L' f0 f1 f2 e0 e1 p0 p1
  · obtain ⟨f0, f1, f2, -, hσ⟩ := hJ
    obtain ⟨e0, e1, -⟩ := hE'
    obtain ⟨p0, p1, -⟩ := hL'
    obtain ⟨v1, r1, rfl, rfl, hs1⟩ := sg_tc hs'
    obtain ⟨v2, r2, rfl, rfl, hs2⟩ := sg_tc hs1
    obtain rfl := sg_tn hs2
    exact k3 (x' 2) L' f0 f1 f2 e0 e1 p0 p1
  · obtain ⟨f0, f1, f2, -, hσ⟩ := hJ
    obtain ⟨e0, e1, -⟩ := hE'
    obtain ⟨p0, p1, -⟩ := hL'
    obtain ⟨v1, r1, rfl, rfl, hs1⟩ := sg_tc hs'
    obtain ⟨v2, r2, rfl, rfl, hs2⟩ := sg_tc hs1
    obtain rfl := sg_tn hs2
    exact k4 (x' 2) L' f0 f1 f2 e0 e1 p0 p1
  · obtain ⟨f0, f1, f2, -, hσ⟩ := hJ
    obtain ⟨e0, e1, -⟩ := hE'
    obtain ⟨p0, p1, -⟩ := hL'
    obtain ⟨v1, r1, rfl, rfl, hs1⟩ := sg_tc hs'
    obtain ⟨v2, r2, rfl, rfl, hs2⟩ := sg_tc hs1
    obtain rfl := sg_tn hs2
    exact k5 (x' 2) L' f0 f1 f2 e0 e1 p0 p1
def sg_bk_m0_Z : List sg_z := [(0, [], [.inl (false, (0, .ofNat 0, .negSucc 0))], [(2, 0, (0, .ofNat 0, .ofNat 0), (0, .ofNat 0, .ofNat 0), (0, .ofNat 0, .ofNat 0)), (2, 2, (1, .ofNat 1, .ofNat 0), (0, .ofNat 0, .ofNat 0), (0, .ofNat 0, .ofNat 0)), (0, 122, (0, .ofNat 0, .ofNat 52), (2, .ofNat 1, .ofNat 0), (0, .ofNat 0, .ofNat 0))], [(1, [(.negSucc 2147483647, .negSucc 0)]), (2, [(.ofNat 0, .ofNat 4)])], [], []),
  (0, [], [.inl (false, (0, .ofNat 0, .negSucc 0))], [(2, 0, (0, .ofNat 0, .ofNat 0), (0, .ofNat 0, .ofNat 0), (0, .ofNat 0, .ofNat 0)), (2, 4, (1, .ofNat 1, .ofNat 0), (2, .ofNat 1, .negSucc 0), (0, .ofNat 0, .ofNat 0)), (2, 3, (1, .ofNat 1, .ofNat 0), (0, .ofNat 0, .ofNat 0), (0, .ofNat 0, .ofNat 0)), (0, 122, (0, .ofNat 0, .ofNat 52), (2, .ofNat 1, .ofNat 0), (0, .ofNat 0, .ofNat 0))], [(1, [(.ofNat 0, .ofNat 2147483647)]), (2, [(.ofNat 0, .ofNat 4)])], [], []),
  (33, [(0, .inr (.inl [122])), (1, .inl (false, (1, .ofNat 1, .ofNat 0)))], [.inl (false, (1, .ofNat 50, .ofNat 0)), .inr (.inl [156]), .inr (.inl [122])], [(1, 122, (0, .ofNat 0, .ofNat 54), (0, .ofNat 0, .ofNat 0), (0, .ofNat 0, .ofNat 0)), (2, 1, (0, .ofNat 0, .ofNat 1), (0, .ofNat 0, .ofNat 0), (0, .ofNat 0, .ofNat 0)), (2, 5, (1, .ofNat 1, .ofNat 0), (2, .ofNat 1, .negSucc 0), (0, .ofNat 0, .ofNat 0)), (2, 3, (1, .ofNat 1, .ofNat 0), (0, .ofNat 0, .ofNat 0), (0, .ofNat 0, .ofNat 0)), (0, 122, (0, .ofNat 0, .ofNat 52), (2, .ofNat 1, .ofNat 0), (0, .ofNat 0, .ofNat 0))], [(1, [(.ofNat 0, .ofNat 3)]), (2, [(.ofNat 1, .ofNat 4)])], [], [])]
set_option maxRecDepth 1000000 in
theorem sg_bk_m0_g : sg_go [] [32] 3000 246 0 1 2 [(0, [(.ofNat 0, .ofNat 0)]), (1, [(.negSucc 2147483647, .ofNat 2147483647)])] [] [] [] [(0, .inr (.inl [122])), (1, .inl (false, (1, .ofNat 1, .ofNat 0)))] [] [(122, some 54)] sg_bk_m0_Z = true := by decide +kernel
set_option maxRecDepth 100000 in
theorem sg_bk_m0 {Q : Option Value × am_S → Prop} {d : Nat} {S : am_S} {L : am_L} {x1 : Int} (hd : 1 ≤ d) (hP : ax_P0 none S) (l0 : lc L 0 122) (l1 : li L 1 x1) (b1 : ((-2147483648) ≤ x1 ∧ x1 ≤ 2147483647))
    (k0 : ∀ (x2 : Int) (S' : am_S) (i1 : Int32), ax_P0 none S' → rd S' = rd S → rd S 122 52 = x2 → x1 < 0 → ((-2147483648) ≤ x1 ∧ x1 ≤ (-1)) → (0 ≤ x2 ∧ x2 ≤ 4) → i1.toInt = (-1) → Q (some (.int i1), S'))
    (k1 : ∀ (x2 : Int) (S' : am_S) (i1 : Int32), ax_P0 none S' → rd S' = rd S → rd S 122 52 = x2 → 0 ≤ x1 → x2 + (-1) < x1 → (0 ≤ x1 ∧ x1 ≤ 2147483647) → (0 ≤ x2 ∧ x2 ≤ 4) → i1.toInt = (-1) → Q (some (.int i1), S'))
    (k2 : ∀ (x2 : Int) (L' : am_L) (S' : am_S) (i1 : Int32), ax_P0 none S' → rd S' = sg_up (rd S) 122 54 0 → rd S 122 52 = x2 → 0 ≤ x1 → x1 ≤ x2 + (-1) → (0 ≤ x1 ∧ x1 ≤ 3) → (1 ≤ x2 ∧ x2 ≤ 4) → lc L' 0 122 → li L' 1 x1 → i1.toInt = 50 * x1 + 0 → am_V none d 246 32 L' ((.int i1) :: (.ref 156) :: (.ref 122) :: []) S' Q) : am_V none d 246 0 L ([]) S Q := by
  refine sg_use sg_bk_m0_g hd hP (sg_xs [0, x1]) ⟨⟨Int.le_refl 0, Int.le_refl 0⟩, b1, trivial⟩ trivial trivial trivial ⟨l0, l1, trivial⟩ trivial ?_
  intro z hz x' L' st' S' hx hP' hW hL' hs' hJ hE' hT' hD'
  have q1 : x' 1 = x1 := hx 1 (by decide)
  subst q1
  simp only [sg_bk_m0_Z, List.mem_cons, List.not_mem_nil, or_false] at hz
  rcases hz with rfl | rfl | rfl
  · obtain ⟨f0, f1, -, hσ⟩ := hJ
    obtain ⟨e0, e1, -⟩ := hE'
    intro v hv
    subst hv
    cases v with
    | none => exact hs'.elim
    | some v1 =>
      obtain ⟨⟨i1, rfl, g1⟩, -⟩ := hs'
      exact k0 (x' 2) S' i1 hP' hσ f0 f1 e0 e1 g1
  · obtain ⟨f0, f1, f2, -, hσ⟩ := hJ
    obtain ⟨e0, e1, -⟩ := hE'
    intro v hv
    subst hv
    cases v with
    | none => exact hs'.elim
    | some v1 =>
      obtain ⟨⟨i1, rfl, g1⟩, -⟩ := hs'
      exact k1 (x' 2) S' i1 hP' hσ f0 f1 f2 e0 e1 g1
  · obtain ⟨f0, f1, f2, -, hσ⟩ := hJ
    obtain ⟨e0, e1, -⟩ := hE'
    obtain ⟨p0, p1, -⟩ := hL'
    obtain ⟨v1, r1, rfl, ⟨i1, rfl, g1⟩, hs1⟩ := sg_tc hs'
    obtain ⟨v2, r2, rfl, rfl, hs2⟩ := sg_tc hs1
    obtain ⟨v3, r3, rfl, rfl, hs3⟩ := sg_tc hs2
    obtain rfl := sg_tn hs3
    exact k2 (x' 2) L' S' i1 hP' hσ f0 f1 f2 e0 e1 p0 p1 g1
def sg_ud_x0_Z : List sg_z := [(13, [(0, .inr (.inl [0]))], [.inr (.inl [6]), .inr (.inl [1]), .inr (.inl [71])], [], [], [], [])]
set_option maxRecDepth 1000000 in
theorem sg_ud_x0_g : sg_go [] [12] 3000 137 0 0 1 [(0, [(.ofNat 0, .ofNat 0)])] [] [] [] [(0, .inr (.inl [0]))] [] [] sg_ud_x0_Z = true := by decide +kernel
set_option maxRecDepth 100000 in
theorem sg_ud_x0 {Q : Option Value × am_S → Prop} {d : Nat} {S : am_S} {L : am_L} (hd : 0 ≤ d) (hP : ax_P0 none S) (l0 : lc L 0 0)
    (k0 : ∀ (L' : am_L), lc L' 0 0 → am_V none d 137 12 L' ((.ref 6) :: (.ref 1) :: (.ref 71) :: []) S Q) : am_V none d 137 0 L ([]) S Q := by
  refine sg_use sg_ud_x0_g hd hP (sg_xs [0]) ⟨⟨Int.le_refl 0, Int.le_refl 0⟩, trivial⟩ trivial trivial trivial ⟨l0, trivial⟩ trivial ?_
  intro z hz x' L' st' S' hx hP' hW hL' hs' hJ hE' hT' hD'
  have eS : S' = S := hW.1 rfl
  subst eS
  simp only [sg_ud_x0_Z, List.mem_cons, List.not_mem_nil, or_false] at hz
  rcases hz with rfl
  · have hσ := hJ
    obtain ⟨p0, -⟩ := hL'
    obtain ⟨v1, r1, rfl, rfl, hs1⟩ := sg_tc hs'
    obtain ⟨v2, r2, rfl, rfl, hs2⟩ := sg_tc hs1
    obtain ⟨v3, r3, rfl, rfl, hs3⟩ := sg_tc hs2
    obtain rfl := sg_tn hs3
    exact k0 L' p0
def sg_ud_m0_Z : List sg_z := [(33, [(0, .inr (.inl [122]))], [.inl (false, (1, .ofNat 50, .negSucc 49)), .inr (.inl [157]), .inr (.inl [122])], [(0, 122, (0, .ofNat 0, .ofNat 54), (1, .ofNat 1, .negSucc 0), (0, .ofNat 0, .ofNat 0)), (1, 122, (0, .ofNat 0, .ofNat 54), (1, .ofNat 1, .negSucc 0), (0, .ofNat 0, .ofNat 0)), (0, 122, (0, .ofNat 0, .ofNat 54), (1, .ofNat 1, .ofNat 0), (0, .ofNat 0, .ofNat 0)), (2, 1, (1, .ofNat 1, .ofNat 0), (0, .ofNat 0, .ofNat 0), (0, .ofNat 0, .ofNat 0)), (0, 122, (0, .ofNat 0, .ofNat 54), (1, .ofNat 1, .ofNat 0), (0, .ofNat 0, .ofNat 0))], [(1, [(.ofNat 1, .ofNat 6)])], [], []),
  (0, [], [.inl (false, (0, .ofNat 0, .negSucc 3))], [(2, 0, (1, .ofNat 1, .ofNat 0), (0, .ofNat 0, .ofNat 0), (0, .ofNat 0, .ofNat 0)), (0, 122, (0, .ofNat 0, .ofNat 54), (1, .ofNat 1, .ofNat 0), (0, .ofNat 0, .ofNat 0))], [(1, [(.ofNat 0, .ofNat 0)])], [], [])]
set_option maxRecDepth 1000000 in
theorem sg_ud_m0_g : sg_go [] [32] 3000 243 0 0 1 [(0, [(.ofNat 0, .ofNat 0)])] [] [] [] [(0, .inr (.inl [122]))] [] [(122, some 54)] sg_ud_m0_Z = true := by decide +kernel
set_option maxRecDepth 100000 in
theorem sg_ud_m0 {Q : Option Value × am_S → Prop} {d : Nat} {S : am_S} {L : am_L} (hd : 0 ≤ d) (hP : ax_P0 none S) (l0 : lc L 0 122)
    (k0 : ∀ (x1 : Int) (L' : am_L) (S' : am_S) (i1 : Int32), ax_P0 none S' → rd S' = sg_up (rd S) 122 54 (x1 + (-1)) → rd S 122 54 = x1 → x1 ≠ 0 → (1 ≤ x1 ∧ x1 ≤ 6) → lc L' 0 122 → i1.toInt = 50 * x1 + (-50) → am_V none d 243 32 L' ((.int i1) :: (.ref 157) :: (.ref 122) :: []) S' Q)
    (k1 : ∀ (x1 : Int) (S' : am_S) (i1 : Int32), ax_P0 none S' → rd S' = rd S → rd S 122 54 = x1 → x1 = 0 → (0 ≤ x1 ∧ x1 ≤ 0) → i1.toInt = (-4) → Q (some (.int i1), S')) : am_V none d 243 0 L ([]) S Q := by
  refine sg_use sg_ud_m0_g hd hP (sg_xs [0]) ⟨⟨Int.le_refl 0, Int.le_refl 0⟩, trivial⟩ trivial trivial trivial ⟨l0, trivial⟩ trivial ?_
  intro z hz x' L' st' S' hx hP' hW hL' hs' hJ hE' hT' hD'
  simp only [sg_ud_m0_Z, List.mem_cons, List.not_mem_nil, or_false] at hz
  rcases hz with rfl | rfl
  · obtain ⟨f0, f1, -, -, hσ⟩ := hJ
    obtain ⟨e0, -⟩ := hE'
    obtain ⟨p0, -⟩ := hL'
    obtain ⟨v1, r1, rfl, ⟨i1, rfl, g1⟩, hs1⟩ := sg_tc hs'
    obtain ⟨v2, r2, rfl, rfl, hs2⟩ := sg_tc hs1
    obtain ⟨v3, r3, rfl, rfl, hs3⟩ := sg_tc hs2
    obtain rfl := sg_tn hs3
    exact k0 (x' 1) L' S' i1 hP' hσ f0 f1 e0 p0 g1
  · obtain ⟨f0, f1, hσ⟩ := hJ
    obtain ⟨e0, -⟩ := hE'
    intro v hv
    subst hv
    cases v with
    | none => exact hs'.elim
    | some v1 =>
      obtain ⟨⟨i1, rfl, g1⟩, -⟩ := hs'
      exact k1 (x' 1) S' i1 hP' hσ f0 f1 e0 g1
def sg_ud_m1_Z : List sg_z := [(0, [], [.inl (false, (2, .ofNat 1, .ofNat 0))], [(0, 122, (0, .ofNat 0, .ofNat 54), (2, .ofNat 1, .ofNat 0), (0, .ofNat 0, .ofNat 0)), (2, 3, (1, .ofNat 1, .ofNat 0), (0, .ofNat 0, .ofNat 0), (0, .ofNat 0, .ofNat 0))], [(1, [(.ofNat 0, .ofNat 2147483647)]), (2, [(.ofNat 0, .ofNat 6)])], [], []),
  (0, [], [.inl (false, (0, .ofNat 0, .negSucc 0))], [(2, 2, (1, .ofNat 1, .ofNat 0), (0, .ofNat 0, .ofNat 0), (0, .ofNat 0, .ofNat 0))], [(1, [(.negSucc 2147483647, .negSucc 0)])], [], [])]
set_option maxRecDepth 1000000 in
theorem sg_ud_m1_g : sg_go [] [] 3000 243 35 0 2 [(0, [(.ofNat 0, .ofNat 0)]), (1, [(.negSucc 2147483647, .ofNat 2147483647)])] [] [] [] [(0, .inr (.inl [122]))] [.inl (false, (1, .ofNat 1, .ofNat 0))] [] sg_ud_m1_Z = true := by decide +kernel
set_option maxRecDepth 100000 in
theorem sg_ud_m1 {Q : Option Value × am_S → Prop} {d : Nat} {S : am_S} {L : am_L} {x1 : Int} {i1 : Int32} (hd : 0 ≤ d) (hP : ax_P0 none S) (l0 : lc L 0 122) (b1 : ((-2147483648) ≤ x1 ∧ x1 ≤ 2147483647)) (s1 : i1.toInt = x1)
    (k0 : ∀ (x2 : Int) (i1 : Int32), 0 ≤ x1 → rd S 122 54 = x2 → (0 ≤ x1 ∧ x1 ≤ 2147483647) → (0 ≤ x2 ∧ x2 ≤ 6) → i1.toInt = x2 → Q (some (.int i1), S))
    (k1 : ∀ (i1 : Int32), x1 < 0 → ((-2147483648) ≤ x1 ∧ x1 ≤ (-1)) → i1.toInt = (-1) → Q (some (.int i1), S)) : am_V none d 243 35 L ((.int i1) :: []) S Q := by
  refine sg_use sg_ud_m1_g hd hP (sg_xs [0, x1]) ⟨⟨Int.le_refl 0, Int.le_refl 0⟩, b1, trivial⟩ trivial trivial trivial ⟨l0, trivial⟩ ⟨⟨_, rfl, s1⟩, trivial⟩ ?_
  intro z hz x' L' st' S' hx hP' hW hL' hs' hJ hE' hT' hD'
  have q1 : x' 1 = x1 := hx 1 (by decide)
  subst q1
  have eS : S' = S := hW.1 rfl
  subst eS
  simp only [sg_ud_m1_Z, List.mem_cons, List.not_mem_nil, or_false] at hz
  rcases hz with rfl | rfl
  · obtain ⟨f0, f1, hσ⟩ := hJ
    obtain ⟨e0, e1, -⟩ := hE'
    intro v hv
    subst hv
    cases v with
    | none => exact hs'.elim
    | some v1 =>
      obtain ⟨⟨i1, rfl, g1⟩, -⟩ := hs'
      exact k0 (x' 2) i1 f0 f1 e0 e1 g1
  · obtain ⟨f0, hσ⟩ := hJ
    obtain ⟨e0, -⟩ := hE'
    intro v hv
    subst hv
    cases v with
    | none => exact hs'.elim
    | some v1 =>
      obtain ⟨⟨i1, rfl, g1⟩, -⟩ := hs'
      exact k1 i1 f0 e0 g1
def sg_bk_x3_Z : List sg_z := [(0, [], [.inl (false, (1, .ofNat 1, .ofNat 0))], [(1, 71, (0, .ofNat 0, .ofNat 0), (0, .ofNat 0, .ofNat 0), (0, .ofNat 0, .ofNat 0))], [], [], [])]
set_option maxRecDepth 1000000 in
theorem sg_bk_x3_g : sg_go [] [] 3000 136 55 1 2 [(0, [(.ofNat 0, .ofNat 0)]), (1, [(.negSucc 2147483647, .ofNat 2147483647)])] [] [] [] [(0, .inr (.inl [0])), (2, .inl (false, (1, .ofNat 1, .ofNat 0)))] [] [(71, some 0)] sg_bk_x3_Z = true := by decide +kernel
set_option maxRecDepth 100000 in
theorem sg_bk_x3 {Q : Option Value × am_S → Prop} {d : Nat} {S : am_S} {L : am_L} {x1 : Int} (hd : 1 ≤ d) (hP : ax_P0 none S) (l0 : lc L 0 0) (l2 : li L 2 x1) (b1 : ((-2147483648) ≤ x1 ∧ x1 ≤ 2147483647))
    (k0 : ∀ (S' : am_S) (i1 : Int32), ax_P0 none S' → rd S' = sg_up (rd S) 71 0 0 → i1.toInt = x1 → Q (some (.int i1), S')) : am_V none d 136 55 L ([]) S Q := by
  refine sg_use sg_bk_x3_g hd hP (sg_xs [0, x1]) ⟨⟨Int.le_refl 0, Int.le_refl 0⟩, b1, trivial⟩ trivial trivial trivial ⟨l0, l2, trivial⟩ trivial ?_
  intro z hz x' L' st' S' hx hP' hW hL' hs' hJ hE' hT' hD'
  have q1 : x' 1 = x1 := hx 1 (by decide)
  subst q1
  simp only [sg_bk_x3_Z, List.mem_cons, List.not_mem_nil, or_false] at hz
  rcases hz with rfl
  · have hσ := hJ
    intro v hv
    subst hv
    cases v with
    | none => exact hs'.elim
    | some v1 =>
      obtain ⟨⟨i1, rfl, g1⟩, -⟩ := hs'
      exact k0 S' i1 hP' hσ g1
def sg_uh_x0a_Z : List sg_z := [(5, [(0, .inr (.inl [98])), (1, .inr (.inl [1])), (2, .inl (false, (0, .ofNat 0, .ofNat 0))), (3, .inl (false, (0, .ofNat 0, .ofNat 0)))], [], [], [], [], [])]
set_option maxRecDepth 1000000 in
theorem sg_uh_x0a_g : sg_go [] [4] 3000 79 0 0 1 [(0, [(.ofNat 0, .ofNat 0)])] [] [] [] [(0, .inr (.inl [98])), (1, .inr (.inl [1]))] [] [] sg_uh_x0a_Z = true := by decide +kernel
set_option maxRecDepth 100000 in
theorem sg_uh_x0a {Q : Option Value × am_S → Prop} {d : Nat} {S : am_S} {L : am_L} (hd : 0 ≤ d) (hP : ax_P0 none S) (l0 : lc L 0 98) (l1 : lc L 1 1)
    (k0 : ∀ (L' : am_L), lc L' 0 98 → lc L' 1 1 → li L' 2 0 → li L' 3 0 → am_V none d 79 4 L' ([]) S Q) : am_V none d 79 0 L ([]) S Q := by
  refine sg_use sg_uh_x0a_g hd hP (sg_xs [0]) ⟨⟨Int.le_refl 0, Int.le_refl 0⟩, trivial⟩ trivial trivial trivial ⟨l0, l1, trivial⟩ trivial ?_
  intro z hz x' L' st' S' hx hP' hW hL' hs' hJ hE' hT' hD'
  have eS : S' = S := hW.1 rfl
  subst eS
  simp only [sg_uh_x0a_Z, List.mem_cons, List.not_mem_nil, or_false] at hz
  rcases hz with rfl
  · have hσ := hJ
    obtain ⟨p0, p1, p2, p3, -⟩ := hL'
    obtain rfl := sg_tn hs'
    exact k0 L' p0 p1 p2 p3
def sg_uh_x0b_Z : List sg_z := [(0, [], [.inl (false, (1, .ofNat 1, .ofNat 0))], [(2, 3, (2, .ofNat 1, .ofNat 0), (3, .ofNat 1, .ofNat 0), (0, .ofNat 0, .ofNat 0)), (0, 98, (0, .ofNat 0, .ofNat 0), (3, .ofNat 1, .ofNat 0), (0, .ofNat 0, .ofNat 0))], [(1, [(.ofNat 0, .ofNat 8)]), (2, [(.ofNat 0, .ofNat 8)]), (3, [(.ofNat 0, .ofNat 8)])], [], []),
  (0, [], [.inl (false, (1, .ofNat 1, .ofNat 0))], [(2, 3, (2, .ofNat 1, .ofNat 0), (4, .ofNat 1, .ofNat 0), (0, .ofNat 0, .ofNat 0)), (0, 1, (0, .ofNat 0, .ofNat 0), (4, .ofNat 1, .ofNat 0), (0, .ofNat 0, .ofNat 0)), (2, 2, (2, .ofNat 1, .ofNat 0), (3, .ofNat 1, .ofNat 0), (0, .ofNat 0, .ofNat 0)), (0, 98, (0, .ofNat 0, .ofNat 0), (3, .ofNat 1, .ofNat 0), (0, .ofNat 0, .ofNat 0))], [(1, [(.ofNat 0, .ofNat 8)]), (2, [(.ofNat 0, .ofNat 7)]), (3, [(.ofNat 1, .ofNat 8)]), (4, [(.ofNat 0, .ofNat 7)])], [], []),
  (5, [(0, .inr (.inl [98])), (1, .inr (.inl [1])), (2, .inl (false, (1, .ofNat 1, .ofNat 0))), (3, .inl (false, (2, .ofNat 1, .ofNat 1)))], [], [(2, 0, (5, .ofNat 1, .ofNat 0), (6, .ofNat 1, .ofNat 0), (0, .ofNat 0, .ofNat 0)), (0, 2, (2, .ofNat 1, .ofNat 0), (6, .ofNat 1, .ofNat 0), (0, .ofNat 0, .ofNat 0)), (0, 99, (2, .ofNat 1, .ofNat 0), (5, .ofNat 1, .ofNat 0), (0, .ofNat 0, .ofNat 0)), (2, 2, (2, .ofNat 1, .ofNat 0), (4, .ofNat 1, .ofNat 0), (0, .ofNat 0, .ofNat 0)), (0, 1, (0, .ofNat 0, .ofNat 0), (4, .ofNat 1, .ofNat 0), (0, .ofNat 0, .ofNat 0)), (2, 2, (2, .ofNat 1, .ofNat 0), (3, .ofNat 1, .ofNat 0), (0, .ofNat 0, .ofNat 0)), (0, 98, (0, .ofNat 0, .ofNat 0), (3, .ofNat 1, .ofNat 0), (0, .ofNat 0, .ofNat 0))], [(1, [(.ofNat 0, .ofNat 8)]), (2, [(.ofNat 0, .ofNat 7)]), (3, [(.ofNat 1, .ofNat 8)]), (4, [(.ofNat 1, .ofNat 8)]), (5, [(.ofNat 0, .ofNat 1000000)]), (6, [(.ofNat 0, .ofNat 1000000)])], [], []),
  (5, [(0, .inr (.inl [98])), (1, .inr (.inl [1])), (2, .inl (false, (1, .ofNat 1, .ofNat 1))), (3, .inl (false, (2, .ofNat 1, .ofNat 1)))], [], [(2, 1, (5, .ofNat 1, .ofNat 0), (6, .ofNat 1, .ofNat 0), (0, .ofNat 0, .ofNat 0)), (0, 2, (2, .ofNat 1, .ofNat 0), (6, .ofNat 1, .ofNat 0), (0, .ofNat 0, .ofNat 0)), (0, 99, (2, .ofNat 1, .ofNat 0), (5, .ofNat 1, .ofNat 0), (0, .ofNat 0, .ofNat 0)), (2, 2, (2, .ofNat 1, .ofNat 0), (4, .ofNat 1, .ofNat 0), (0, .ofNat 0, .ofNat 0)), (0, 1, (0, .ofNat 0, .ofNat 0), (4, .ofNat 1, .ofNat 0), (0, .ofNat 0, .ofNat 0)), (2, 2, (2, .ofNat 1, .ofNat 0), (3, .ofNat 1, .ofNat 0), (0, .ofNat 0, .ofNat 0)), (0, 98, (0, .ofNat 0, .ofNat 0), (3, .ofNat 1, .ofNat 0), (0, .ofNat 0, .ofNat 0))], [(1, [(.ofNat 0, .ofNat 8)]), (2, [(.ofNat 0, .ofNat 7)]), (3, [(.ofNat 1, .ofNat 8)]), (4, [(.ofNat 1, .ofNat 8)]), (5, [(.ofNat 0, .ofNat 1000000)]), (6, [(.ofNat 0, .ofNat 1000000)])], [], [])]
set_option maxRecDepth 1000000 in
theorem sg_uh_x0b_g : sg_go [] [4] 3000 79 4 0 3 [(0, [(.ofNat 0, .ofNat 0)]), (1, [(.ofNat 0, .ofNat 8)]), (2, [(.ofNat 0, .ofNat 8)])] [] [] [] [(0, .inr (.inl [98])), (1, .inr (.inl [1])), (2, .inl (false, (1, .ofNat 1, .ofNat 0))), (3, .inl (false, (2, .ofNat 1, .ofNat 0)))] [] [] sg_uh_x0b_Z = true := by decide +kernel
set_option maxRecDepth 100000 in
theorem sg_uh_x0b {Q : Option Value × am_S → Prop} {d : Nat} {S : am_S} {L : am_L} {x1 x2 : Int} (hd : 0 ≤ d) (hP : ax_P0 none S) (l0 : lc L 0 98) (l1 : lc L 1 1) (l2 : li L 2 x1) (l3 : li L 3 x2) (b1 : (0 ≤ x1 ∧ x1 ≤ 8)) (b2 : (0 ≤ x2 ∧ x2 ≤ 8))
    (k0 : ∀ (x3 : Int) (i1 : Int32), rd S 98 0 = x3 → x3 ≤ x2 → (0 ≤ x1 ∧ x1 ≤ 8) → (0 ≤ x2 ∧ x2 ≤ 8) → (0 ≤ x3 ∧ x3 ≤ 8) → i1.toInt = x1 → Q (some (.int i1), S))
    (k1 : ∀ (x3 x4 : Int) (i1 : Int32), rd S 98 0 = x3 → x2 < x3 → rd S 1 0 = x4 → x4 ≤ x2 → (0 ≤ x1 ∧ x1 ≤ 8) → (0 ≤ x2 ∧ x2 ≤ 7) → (1 ≤ x3 ∧ x3 ≤ 8) → (0 ≤ x4 ∧ x4 ≤ 7) → i1.toInt = x1 → Q (some (.int i1), S))
    (k2 : ∀ (x3 x4 x5 x6 : Int) (L' : am_L), rd S 98 0 = x3 → x2 < x3 → rd S 1 0 = x4 → x2 < x4 → rd S 99 x2 = x5 → rd S 2 x2 = x6 → x5 = x6 → (0 ≤ x1 ∧ x1 ≤ 8) → (0 ≤ x2 ∧ x2 ≤ 7) → (1 ≤ x3 ∧ x3 ≤ 8) → (1 ≤ x4 ∧ x4 ≤ 8) → (0 ≤ x5 ∧ x5 ≤ 1000000) → (0 ≤ x6 ∧ x6 ≤ 1000000) → lc L' 0 98 → lc L' 1 1 → li L' 2 x1 → li L' 3 (x2 + 1) → am_V none d 79 4 L' ([]) S Q)
    (k3 : ∀ (x3 x4 x5 x6 : Int) (L' : am_L), rd S 98 0 = x3 → x2 < x3 → rd S 1 0 = x4 → x2 < x4 → rd S 99 x2 = x5 → rd S 2 x2 = x6 → x5 ≠ x6 → (0 ≤ x1 ∧ x1 ≤ 8) → (0 ≤ x2 ∧ x2 ≤ 7) → (1 ≤ x3 ∧ x3 ≤ 8) → (1 ≤ x4 ∧ x4 ≤ 8) → (0 ≤ x5 ∧ x5 ≤ 1000000) → (0 ≤ x6 ∧ x6 ≤ 1000000) → lc L' 0 98 → lc L' 1 1 → li L' 2 (x1 + 1) → li L' 3 (x2 + 1) → am_V none d 79 4 L' ([]) S Q) : am_V none d 79 4 L ([]) S Q := by
  refine sg_use sg_uh_x0b_g hd hP (sg_xs [0, x1, x2]) ⟨⟨Int.le_refl 0, Int.le_refl 0⟩, b1, b2, trivial⟩ trivial trivial trivial ⟨l0, l1, l2, l3, trivial⟩ trivial ?_
  intro z hz x' L' st' S' hx hP' hW hL' hs' hJ hE' hT' hD'
  have q1 : x' 1 = x1 := hx 1 (by decide)
  subst q1
  have q2 : x' 2 = x2 := hx 2 (by decide)
  subst q2
  have eS : S' = S := hW.1 rfl
  subst eS
  simp only [sg_uh_x0b_Z, List.mem_cons, List.not_mem_nil, or_false] at hz
  rcases hz with rfl | rfl | rfl | rfl
  · obtain ⟨f0, f1, hσ⟩ := hJ
    obtain ⟨e0, e1, e2, -⟩ := hE'
    intro v hv
    subst hv
    cases v with
    | none => exact hs'.elim
    | some v1 =>
      obtain ⟨⟨i1, rfl, g1⟩, -⟩ := hs'
      exact k0 (x' 3) i1 f0 f1 e0 e1 e2 g1
  · obtain ⟨f0, f1, f2, f3, hσ⟩ := hJ
    obtain ⟨e0, e1, e2, e3, -⟩ := hE'
    intro v hv
    subst hv
    cases v with
    | none => exact hs'.elim
    | some v1 =>
      obtain ⟨⟨i1, rfl, g1⟩, -⟩ := hs'
      exact k1 (x' 3) (x' 4) i1 f0 f1 f2 f3 e0 e1 e2 e3 g1
  · obtain ⟨f0, f1, f2, f3, f4, f5, f6, hσ⟩ := hJ
    obtain ⟨e0, e1, e2, e3, e4, e5, -⟩ := hE'
    obtain ⟨p0, p1, p2, p3, -⟩ := hL'
    obtain rfl := sg_tn hs'
    exact k2 (x' 3) (x' 4) (x' 5) (x' 6) L' f0 f1 f2 f3 f4 f5 f6 e0 e1 e2 e3 e4 e5 p0 p1 p2 p3
  · obtain ⟨f0, f1, f2, f3, f4, f5, f6, hσ⟩ := hJ
    obtain ⟨e0, e1, e2, e3, e4, e5, -⟩ := hE'
    obtain ⟨p0, p1, p2, p3, -⟩ := hL'
    obtain rfl := sg_tn hs'
    exact k3 (x' 3) (x' 4) (x' 5) (x' 6) L' f0 f1 f2 f3 f4 f5 f6 e0 e1 e2 e3 e4 e5 p0 p1 p2 p3
def sg_ul_x0a_Z : List sg_z := [(5, [(0, .inr (.inl [98])), (1, .inr (.inl [6])), (2, .inl (false, (0, .ofNat 0, .ofNat 0))), (3, .inl (false, (0, .ofNat 0, .ofNat 0)))], [], [], [], [], [])]
set_option maxRecDepth 1000000 in
theorem sg_ul_x0a_g : sg_go [] [4] 3000 81 0 0 1 [(0, [(.ofNat 0, .ofNat 0)])] [] [] [] [(0, .inr (.inl [98])), (1, .inr (.inl [6]))] [] [] sg_ul_x0a_Z = true := by decide +kernel
set_option maxRecDepth 100000 in
theorem sg_ul_x0a {Q : Option Value × am_S → Prop} {d : Nat} {S : am_S} {L : am_L} (hd : 0 ≤ d) (hP : ax_P0 none S) (l0 : lc L 0 98) (l1 : lc L 1 6)
    (k0 : ∀ (L' : am_L), lc L' 0 98 → lc L' 1 6 → li L' 2 0 → li L' 3 0 → am_V none d 81 4 L' ([]) S Q) : am_V none d 81 0 L ([]) S Q := by
  refine sg_use sg_ul_x0a_g hd hP (sg_xs [0]) ⟨⟨Int.le_refl 0, Int.le_refl 0⟩, trivial⟩ trivial trivial trivial ⟨l0, l1, trivial⟩ trivial ?_
  intro z hz x' L' st' S' hx hP' hW hL' hs' hJ hE' hT' hD'
  have eS : S' = S := hW.1 rfl
  subst eS
  simp only [sg_ul_x0a_Z, List.mem_cons, List.not_mem_nil, or_false] at hz
  rcases hz with rfl
  · have hσ := hJ
    obtain ⟨p0, p1, p2, p3, -⟩ := hL'
    obtain rfl := sg_tn hs'
    exact k0 L' p0 p1 p2 p3
def sg_ul_x0b_Z : List sg_z := [(0, [], [.inl (false, (1, .ofNat 1, .ofNat 0))], [(2, 3, (2, .ofNat 1, .ofNat 0), (3, .ofNat 1, .ofNat 0), (0, .ofNat 0, .ofNat 0)), (0, 98, (0, .ofNat 0, .ofNat 1), (3, .ofNat 1, .ofNat 0), (0, .ofNat 0, .ofNat 0))], [(1, [(.ofNat 0, .ofNat 16)]), (2, [(.ofNat 0, .ofNat 16)]), (3, [(.ofNat 0, .ofNat 16)])], [], []),
  (0, [], [.inl (false, (1, .ofNat 1, .ofNat 0))], [(2, 3, (2, .ofNat 1, .ofNat 0), (4, .ofNat 1, .ofNat 0), (0, .ofNat 0, .ofNat 0)), (0, 6, (0, .ofNat 0, .ofNat 0), (4, .ofNat 1, .ofNat 0), (0, .ofNat 0, .ofNat 0)), (2, 2, (2, .ofNat 1, .ofNat 0), (3, .ofNat 1, .ofNat 0), (0, .ofNat 0, .ofNat 0)), (0, 98, (0, .ofNat 0, .ofNat 1), (3, .ofNat 1, .ofNat 0), (0, .ofNat 0, .ofNat 0))], [(1, [(.ofNat 0, .ofNat 16)]), (2, [(.ofNat 0, .ofNat 15)]), (3, [(.ofNat 1, .ofNat 16)]), (4, [(.ofNat 0, .ofNat 15)])], [], []),
  (5, [(0, .inr (.inl [98])), (1, .inr (.inl [6])), (2, .inl (false, (1, .ofNat 1, .ofNat 1))), (3, .inl (false, (2, .ofNat 1, .ofNat 1)))], [], [(2, 1, (5, .ofNat 1, .ofNat 0), (6, .ofNat 1, .ofNat 0), (0, .ofNat 0, .ofNat 0)), (0, 11, (2, .ofNat 1, .ofNat 0), (6, .ofNat 1, .ofNat 0), (0, .ofNat 0, .ofNat 0)), (0, 100, (2, .ofNat 1, .ofNat 0), (5, .ofNat 1, .ofNat 0), (0, .ofNat 0, .ofNat 0)), (2, 2, (2, .ofNat 1, .ofNat 0), (4, .ofNat 1, .ofNat 0), (0, .ofNat 0, .ofNat 0)), (0, 6, (0, .ofNat 0, .ofNat 0), (4, .ofNat 1, .ofNat 0), (0, .ofNat 0, .ofNat 0)), (2, 2, (2, .ofNat 1, .ofNat 0), (3, .ofNat 1, .ofNat 0), (0, .ofNat 0, .ofNat 0)), (0, 98, (0, .ofNat 0, .ofNat 1), (3, .ofNat 1, .ofNat 0), (0, .ofNat 0, .ofNat 0))], [(1, [(.ofNat 0, .ofNat 16)]), (2, [(.ofNat 0, .ofNat 15)]), (3, [(.ofNat 1, .ofNat 16)]), (4, [(.ofNat 1, .ofNat 16)]), (5, [(.negSucc 3, .negSucc 3), (.ofNat 0, .ofNat 7)]), (6, [(.negSucc 3, .negSucc 3), (.ofNat 0, .ofNat 7)])], [], []),
  (5, [(0, .inr (.inl [98])), (1, .inr (.inl [6])), (2, .inl (false, (1, .ofNat 1, .ofNat 0))), (3, .inl (false, (2, .ofNat 1, .ofNat 1)))], [], [(2, 0, (7, .ofNat 1, .ofNat 0), (8, .ofNat 1, .ofNat 0), (0, .ofNat 0, .ofNat 0)), (0, 12, (2, .ofNat 1, .ofNat 0), (8, .ofNat 1, .ofNat 0), (0, .ofNat 0, .ofNat 0)), (0, 101, (2, .ofNat 1, .ofNat 0), (7, .ofNat 1, .ofNat 0), (0, .ofNat 0, .ofNat 0)), (2, 0, (5, .ofNat 1, .ofNat 0), (6, .ofNat 1, .ofNat 0), (0, .ofNat 0, .ofNat 0)), (0, 11, (2, .ofNat 1, .ofNat 0), (6, .ofNat 1, .ofNat 0), (0, .ofNat 0, .ofNat 0)), (0, 100, (2, .ofNat 1, .ofNat 0), (5, .ofNat 1, .ofNat 0), (0, .ofNat 0, .ofNat 0)), (2, 2, (2, .ofNat 1, .ofNat 0), (4, .ofNat 1, .ofNat 0), (0, .ofNat 0, .ofNat 0)), (0, 6, (0, .ofNat 0, .ofNat 0), (4, .ofNat 1, .ofNat 0), (0, .ofNat 0, .ofNat 0)), (2, 2, (2, .ofNat 1, .ofNat 0), (3, .ofNat 1, .ofNat 0), (0, .ofNat 0, .ofNat 0)), (0, 98, (0, .ofNat 0, .ofNat 1), (3, .ofNat 1, .ofNat 0), (0, .ofNat 0, .ofNat 0))], [(1, [(.ofNat 0, .ofNat 16)]), (2, [(.ofNat 0, .ofNat 15)]), (3, [(.ofNat 1, .ofNat 16)]), (4, [(.ofNat 1, .ofNat 16)]), (5, [(.negSucc 3, .negSucc 3), (.ofNat 0, .ofNat 7)]), (6, [(.negSucc 3, .negSucc 3), (.ofNat 0, .ofNat 7)]), (7, [(.negSucc 3, .negSucc 3), (.ofNat 0, .ofNat 7)]), (8, [(.negSucc 3, .negSucc 3), (.ofNat 0, .ofNat 7)])], [], []),
  (5, [(0, .inr (.inl [98])), (1, .inr (.inl [6])), (2, .inl (false, (1, .ofNat 1, .ofNat 1))), (3, .inl (false, (2, .ofNat 1, .ofNat 1)))], [], [(2, 1, (7, .ofNat 1, .ofNat 0), (8, .ofNat 1, .ofNat 0), (0, .ofNat 0, .ofNat 0)), (0, 12, (2, .ofNat 1, .ofNat 0), (8, .ofNat 1, .ofNat 0), (0, .ofNat 0, .ofNat 0)), (0, 101, (2, .ofNat 1, .ofNat 0), (7, .ofNat 1, .ofNat 0), (0, .ofNat 0, .ofNat 0)), (2, 0, (5, .ofNat 1, .ofNat 0), (6, .ofNat 1, .ofNat 0), (0, .ofNat 0, .ofNat 0)), (0, 11, (2, .ofNat 1, .ofNat 0), (6, .ofNat 1, .ofNat 0), (0, .ofNat 0, .ofNat 0)), (0, 100, (2, .ofNat 1, .ofNat 0), (5, .ofNat 1, .ofNat 0), (0, .ofNat 0, .ofNat 0)), (2, 2, (2, .ofNat 1, .ofNat 0), (4, .ofNat 1, .ofNat 0), (0, .ofNat 0, .ofNat 0)), (0, 6, (0, .ofNat 0, .ofNat 0), (4, .ofNat 1, .ofNat 0), (0, .ofNat 0, .ofNat 0)), (2, 2, (2, .ofNat 1, .ofNat 0), (3, .ofNat 1, .ofNat 0), (0, .ofNat 0, .ofNat 0)), (0, 98, (0, .ofNat 0, .ofNat 1), (3, .ofNat 1, .ofNat 0), (0, .ofNat 0, .ofNat 0))], [(1, [(.ofNat 0, .ofNat 16)]), (2, [(.ofNat 0, .ofNat 15)]), (3, [(.ofNat 1, .ofNat 16)]), (4, [(.ofNat 1, .ofNat 16)]), (5, [(.negSucc 3, .negSucc 3), (.ofNat 0, .ofNat 7)]), (6, [(.negSucc 3, .negSucc 3), (.ofNat 0, .ofNat 7)]), (7, [(.negSucc 3, .negSucc 3), (.ofNat 0, .ofNat 7)]), (8, [(.negSucc 3, .negSucc 3), (.ofNat 0, .ofNat 7)])], [], [])]
set_option maxRecDepth 1000000 in
theorem sg_ul_x0b_g : sg_go [] [4] 3000 81 4 0 3 [(0, [(.ofNat 0, .ofNat 0)]), (1, [(.ofNat 0, .ofNat 16)]), (2, [(.ofNat 0, .ofNat 16)])] [] [] [] [(0, .inr (.inl [98])), (1, .inr (.inl [6])), (2, .inl (false, (1, .ofNat 1, .ofNat 0))), (3, .inl (false, (2, .ofNat 1, .ofNat 0)))] [] [] sg_ul_x0b_Z = true := by decide +kernel
set_option maxRecDepth 100000 in
theorem sg_ul_x0b {Q : Option Value × am_S → Prop} {d : Nat} {S : am_S} {L : am_L} {x1 x2 : Int} (hd : 0 ≤ d) (hP : ax_P0 none S) (l0 : lc L 0 98) (l1 : lc L 1 6) (l2 : li L 2 x1) (l3 : li L 3 x2) (b1 : (0 ≤ x1 ∧ x1 ≤ 16)) (b2 : (0 ≤ x2 ∧ x2 ≤ 16))
    (k0 : ∀ (x3 : Int) (i1 : Int32), rd S 98 1 = x3 → x3 ≤ x2 → (0 ≤ x1 ∧ x1 ≤ 16) → (0 ≤ x2 ∧ x2 ≤ 16) → (0 ≤ x3 ∧ x3 ≤ 16) → i1.toInt = x1 → Q (some (.int i1), S))
    (k1 : ∀ (x3 x4 : Int) (i1 : Int32), rd S 98 1 = x3 → x2 < x3 → rd S 6 0 = x4 → x4 ≤ x2 → (0 ≤ x1 ∧ x1 ≤ 16) → (0 ≤ x2 ∧ x2 ≤ 15) → (1 ≤ x3 ∧ x3 ≤ 16) → (0 ≤ x4 ∧ x4 ≤ 15) → i1.toInt = x1 → Q (some (.int i1), S))
    (k2 : ∀ (x3 x4 x5 x6 : Int) (L' : am_L), rd S 98 1 = x3 → x2 < x3 → rd S 6 0 = x4 → x2 < x4 → rd S 100 x2 = x5 → rd S 11 x2 = x6 → x5 ≠ x6 → (0 ≤ x1 ∧ x1 ≤ 16) → (0 ≤ x2 ∧ x2 ≤ 15) → (1 ≤ x3 ∧ x3 ≤ 16) → (1 ≤ x4 ∧ x4 ≤ 16) → ((-4) ≤ x5 ∧ x5 ≤ (-4)) ∨ (0 ≤ x5 ∧ x5 ≤ 7) → ((-4) ≤ x6 ∧ x6 ≤ (-4)) ∨ (0 ≤ x6 ∧ x6 ≤ 7) → lc L' 0 98 → lc L' 1 6 → li L' 2 (x1 + 1) → li L' 3 (x2 + 1) → am_V none d 81 4 L' ([]) S Q)
    (k3 : ∀ (x3 x4 x5 x6 x7 x8 : Int) (L' : am_L), rd S 98 1 = x3 → x2 < x3 → rd S 6 0 = x4 → x2 < x4 → rd S 100 x2 = x5 → rd S 11 x2 = x6 → x5 = x6 → rd S 101 x2 = x7 → rd S 12 x2 = x8 → x7 = x8 → (0 ≤ x1 ∧ x1 ≤ 16) → (0 ≤ x2 ∧ x2 ≤ 15) → (1 ≤ x3 ∧ x3 ≤ 16) → (1 ≤ x4 ∧ x4 ≤ 16) → ((-4) ≤ x5 ∧ x5 ≤ (-4)) ∨ (0 ≤ x5 ∧ x5 ≤ 7) → ((-4) ≤ x6 ∧ x6 ≤ (-4)) ∨ (0 ≤ x6 ∧ x6 ≤ 7) → ((-4) ≤ x7 ∧ x7 ≤ (-4)) ∨ (0 ≤ x7 ∧ x7 ≤ 7) → ((-4) ≤ x8 ∧ x8 ≤ (-4)) ∨ (0 ≤ x8 ∧ x8 ≤ 7) → lc L' 0 98 → lc L' 1 6 → li L' 2 x1 → li L' 3 (x2 + 1) → am_V none d 81 4 L' ([]) S Q)
    (k4 : ∀ (x3 x4 x5 x6 x7 x8 : Int) (L' : am_L), rd S 98 1 = x3 → x2 < x3 → rd S 6 0 = x4 → x2 < x4 → rd S 100 x2 = x5 → rd S 11 x2 = x6 → x5 = x6 → rd S 101 x2 = x7 → rd S 12 x2 = x8 → x7 ≠ x8 → (0 ≤ x1 ∧ x1 ≤ 16) → (0 ≤ x2 ∧ x2 ≤ 15) → (1 ≤ x3 ∧ x3 ≤ 16) → (1 ≤ x4 ∧ x4 ≤ 16) → ((-4) ≤ x5 ∧ x5 ≤ (-4)) ∨ (0 ≤ x5 ∧ x5 ≤ 7) → ((-4) ≤ x6 ∧ x6 ≤ (-4)) ∨ (0 ≤ x6 ∧ x6 ≤ 7) → ((-4) ≤ x7 ∧ x7 ≤ (-4)) ∨ (0 ≤ x7 ∧ x7 ≤ 7) → ((-4) ≤ x8 ∧ x8 ≤ (-4)) ∨ (0 ≤ x8 ∧ x8 ≤ 7) → lc L' 0 98 → lc L' 1 6 → li L' 2 (x1 + 1) → li L' 3 (x2 + 1) → am_V none d 81 4 L' ([]) S Q) : am_V none d 81 4 L ([]) S Q := by
  refine sg_use sg_ul_x0b_g hd hP (sg_xs [0, x1, x2]) ⟨⟨Int.le_refl 0, Int.le_refl 0⟩, b1, b2, trivial⟩ trivial trivial trivial ⟨l0, l1, l2, l3, trivial⟩ trivial ?_
  intro z hz x' L' st' S' hx hP' hW hL' hs' hJ hE' hT' hD'
  have q1 : x' 1 = x1 := hx 1 (by decide)
  subst q1
  have q2 : x' 2 = x2 := hx 2 (by decide)
  subst q2
  have eS : S' = S := hW.1 rfl
  subst eS
  simp only [sg_ul_x0b_Z, List.mem_cons, List.not_mem_nil, or_false] at hz
  rcases hz with rfl | rfl | rfl | rfl | rfl
  · obtain ⟨f0, f1, hσ⟩ := hJ
    obtain ⟨e0, e1, e2, -⟩ := hE'
    intro v hv
    subst hv
    cases v with
    | none => exact hs'.elim
    | some v1 =>
      obtain ⟨⟨i1, rfl, g1⟩, -⟩ := hs'
      exact k0 (x' 3) i1 f0 f1 e0 e1 e2 g1
  · obtain ⟨f0, f1, f2, f3, hσ⟩ := hJ
    obtain ⟨e0, e1, e2, e3, -⟩ := hE'
    intro v hv
    subst hv
    cases v with
    | none => exact hs'.elim
    | some v1 =>
      obtain ⟨⟨i1, rfl, g1⟩, -⟩ := hs'
      exact k1 (x' 3) (x' 4) i1 f0 f1 f2 f3 e0 e1 e2 e3 g1
  · obtain ⟨f0, f1, f2, f3, f4, f5, f6, hσ⟩ := hJ
    obtain ⟨e0, e1, e2, e3, e4, e5, -⟩ := hE'
    obtain ⟨p0, p1, p2, p3, -⟩ := hL'
    obtain rfl := sg_tn hs'
    exact k2 (x' 3) (x' 4) (x' 5) (x' 6) L' f0 f1 f2 f3 f4 f5 f6 e0 e1 e2 e3 e4 e5 p0 p1 p2 p3
  · obtain ⟨f0, f1, f2, f3, f4, f5, f6, f7, f8, f9, hσ⟩ := hJ
    obtain ⟨e0, e1, e2, e3, e4, e5, e6, e7, -⟩ := hE'
    obtain ⟨p0, p1, p2, p3, -⟩ := hL'
    obtain rfl := sg_tn hs'
    exact k3 (x' 3) (x' 4) (x' 5) (x' 6) (x' 7) (x' 8) L' f0 f1 f2 f3 f4 f5 f6 f7 f8 f9 e0 e1 e2 e3 e4 e5 e6 e7 p0 p1 p2 p3
  · obtain ⟨f0, f1, f2, f3, f4, f5, f6, f7, f8, f9, hσ⟩ := hJ
    obtain ⟨e0, e1, e2, e3, e4, e5, e6, e7, -⟩ := hE'
    obtain ⟨p0, p1, p2, p3, -⟩ := hL'
    obtain rfl := sg_tn hs'
    exact k4 (x' 3) (x' 4) (x' 5) (x' 6) (x' 7) (x' 8) L' f0 f1 f2 f3 f4 f5 f6 f7 f8 f9 e0 e1 e2 e3 e4 e5 e6 e7 p0 p1 p2 p3
def sg_bk_x10_Z : List sg_z := [(34, [(0, .inr (.inl [0])), (1, .inl (false, (0, .ofNat 0, .ofNat 0)))], [.inr (.inl [6]), .inr (.inl [98]), .inl (false, (2, .ofNat 1, .ofNat 0))], [], [(1, [(.ofNat 0, .ofNat 0)]), (2, [(.ofNat 0, .ofNat 8)])], [], [])]
set_option maxRecDepth 1000000 in
theorem sg_bk_x10_g : sg_go [] [33] 3000 136 23 0 3 [(0, [(.ofNat 0, .ofNat 0)]), (1, [(.ofNat 0, .ofNat 0)]), (2, [(.ofNat 0, .ofNat 8)])] [] [] [] [(0, .inr (.inl [0])), (1, .inl (false, (1, .ofNat 1, .ofNat 0)))] [.inl (false, (2, .ofNat 1, .ofNat 0))] [] sg_bk_x10_Z = true := by decide +kernel
set_option maxRecDepth 100000 in
theorem sg_bk_x10 {Q : Option Value × am_S → Prop} {d : Nat} {S : am_S} {L : am_L} {x1 x2 : Int} {i1 : Int32} (hd : 0 ≤ d) (hP : ax_P0 none S) (l0 : lc L 0 0) (l1 : li L 1 x1) (b1 : (0 ≤ x1 ∧ x1 ≤ 0)) (b2 : (0 ≤ x2 ∧ x2 ≤ 8)) (s1 : i1.toInt = x2)
    (k0 : ∀ (L' : am_L) (i3 : Int32), (0 ≤ x1 ∧ x1 ≤ 0) → (0 ≤ x2 ∧ x2 ≤ 8) → lc L' 0 0 → li L' 1 0 → i3.toInt = x2 → am_V none d 136 33 L' ((.ref 6) :: (.ref 98) :: (.int i3) :: []) S Q) : am_V none d 136 23 L ((.int i1) :: []) S Q := by
  refine sg_use sg_bk_x10_g hd hP (sg_xs [0, x1, x2]) ⟨⟨Int.le_refl 0, Int.le_refl 0⟩, b1, b2, trivial⟩ trivial trivial trivial ⟨l0, l1, trivial⟩ ⟨⟨_, rfl, s1⟩, trivial⟩ ?_
  intro z hz x' L' st' S' hx hP' hW hL' hs' hJ hE' hT' hD'
  have q1 : x' 1 = x1 := hx 1 (by decide)
  subst q1
  have q2 : x' 2 = x2 := hx 2 (by decide)
  subst q2
  have eS : S' = S := hW.1 rfl
  subst eS
  simp only [sg_bk_x10_Z, List.mem_cons, List.not_mem_nil, or_false] at hz
  rcases hz with rfl
  · have hσ := hJ
    obtain ⟨e0, e1, -⟩ := hE'
    obtain ⟨p0, p1, -⟩ := hL'
    obtain ⟨v1, r1, rfl, rfl, hs1⟩ := sg_tc hs'
    obtain ⟨v2, r2, rfl, rfl, hs2⟩ := sg_tc hs1
    obtain ⟨v3, r3, rfl, ⟨i3, rfl, g3⟩, hs3⟩ := sg_tc hs2
    obtain rfl := sg_tn hs3
    exact k0 L' i3 e0 e1 p0 p1 g3
def sg_bk_x20_Z : List sg_z := [(53, [(0, .inr (.inl [0])), (1, .inl (false, (0, .ofNat 0, .ofNat 0))), (2, .inl (false, (4, .ofNat 1, .ofNat 0)))], [.inr (.inl [6]), .inr (.inl [1]), .inr (.inl [98])], [], [(1, [(.ofNat 0, .ofNat 0)]), (2, [(.ofNat 0, .ofNat 16)]), (3, [(.ofNat 0, .ofNat 8)]), (4, [(.ofNat 0, .ofNat 24)])], [((3, .ofNat 1, .ofNat 0), (2, .ofNat 1, .ofNat 0), (4, .ofNat 1, .ofNat 0))], [])]
set_option maxRecDepth 1000000 in
theorem sg_bk_x20_g : sg_go [] [52] 3000 136 36 0 4 [(0, [(.ofNat 0, .ofNat 0)]), (1, [(.ofNat 0, .ofNat 0)]), (2, [(.ofNat 0, .ofNat 16)]), (3, [(.ofNat 0, .ofNat 8)])] [] [] [] [(0, .inr (.inl [0])), (1, .inl (false, (1, .ofNat 1, .ofNat 0)))] [.inl (false, (2, .ofNat 1, .ofNat 0)), .inl (false, (3, .ofNat 1, .ofNat 0))] [] sg_bk_x20_Z = true := by decide +kernel
set_option maxRecDepth 100000 in
theorem sg_bk_x20 {Q : Option Value × am_S → Prop} {d : Nat} {S : am_S} {L : am_L} {x1 x2 x3 : Int} {i1 : Int32} {i2 : Int32} (hd : 0 ≤ d) (hP : ax_P0 none S) (l0 : lc L 0 0) (l1 : li L 1 x1) (b1 : (0 ≤ x1 ∧ x1 ≤ 0)) (b2 : (0 ≤ x2 ∧ x2 ≤ 16)) (b3 : (0 ≤ x3 ∧ x3 ≤ 8)) (s1 : i1.toInt = x2) (s2 : i2.toInt = x3)
    (k0 : ∀ (x4 : Int) (L' : am_L), (0 ≤ x1 ∧ x1 ≤ 0) → (0 ≤ x2 ∧ x2 ≤ 16) → (0 ≤ x3 ∧ x3 ≤ 8) → (0 ≤ x4 ∧ x4 ≤ 24) → x3 + x2 = x4 → lc L' 0 0 → li L' 1 0 → li L' 2 x4 → am_V none d 136 52 L' ((.ref 6) :: (.ref 1) :: (.ref 98) :: []) S Q) : am_V none d 136 36 L ((.int i1) :: (.int i2) :: []) S Q := by
  refine sg_use sg_bk_x20_g hd hP (sg_xs [0, x1, x2, x3]) ⟨⟨Int.le_refl 0, Int.le_refl 0⟩, b1, b2, b3, trivial⟩ trivial trivial trivial ⟨l0, l1, trivial⟩ ⟨⟨_, rfl, s1⟩, ⟨_, rfl, s2⟩, trivial⟩ ?_
  intro z hz x' L' st' S' hx hP' hW hL' hs' hJ hE' hT' hD'
  have q1 : x' 1 = x1 := hx 1 (by decide)
  subst q1
  have q2 : x' 2 = x2 := hx 2 (by decide)
  subst q2
  have q3 : x' 3 = x3 := hx 3 (by decide)
  subst q3
  have eS : S' = S := hW.1 rfl
  subst eS
  simp only [sg_bk_x20_Z, List.mem_cons, List.not_mem_nil, or_false] at hz
  rcases hz with rfl
  · have hσ := hJ
    obtain ⟨e0, e1, e2, e3, -⟩ := hE'
    obtain ⟨t0, -⟩ := hT'
    obtain ⟨p0, p1, p2, -⟩ := hL'
    obtain ⟨v1, r1, rfl, rfl, hs1⟩ := sg_tc hs'
    obtain ⟨v2, r2, rfl, rfl, hs2⟩ := sg_tc hs1
    obtain ⟨v3, r3, rfl, rfl, hs3⟩ := sg_tc hs2
    obtain rfl := sg_tn hs3
    exact k0 (x' 4) L' e0 e1 e2 e3 t0 p0 p1 p2
def sg_uh_x1a_Z : List sg_z := [(5, [(0, .inr (.inl [102])), (1, .inr (.inl [1])), (2, .inl (false, (0, .ofNat 0, .ofNat 0))), (3, .inl (false, (0, .ofNat 0, .ofNat 0)))], [], [], [], [], [])]
set_option maxRecDepth 1000000 in
theorem sg_uh_x1a_g : sg_go [] [4] 3000 79 0 0 1 [(0, [(.ofNat 0, .ofNat 0)])] [] [] [] [(0, .inr (.inl [102])), (1, .inr (.inl [1]))] [] [] sg_uh_x1a_Z = true := by decide +kernel
set_option maxRecDepth 100000 in
theorem sg_uh_x1a {Q : Option Value × am_S → Prop} {d : Nat} {S : am_S} {L : am_L} (hd : 0 ≤ d) (hP : ax_P0 none S) (l0 : lc L 0 102) (l1 : lc L 1 1)
    (k0 : ∀ (L' : am_L), lc L' 0 102 → lc L' 1 1 → li L' 2 0 → li L' 3 0 → am_V none d 79 4 L' ([]) S Q) : am_V none d 79 0 L ([]) S Q := by
  refine sg_use sg_uh_x1a_g hd hP (sg_xs [0]) ⟨⟨Int.le_refl 0, Int.le_refl 0⟩, trivial⟩ trivial trivial trivial ⟨l0, l1, trivial⟩ trivial ?_
  intro z hz x' L' st' S' hx hP' hW hL' hs' hJ hE' hT' hD'
  have eS : S' = S := hW.1 rfl
  subst eS
  simp only [sg_uh_x1a_Z, List.mem_cons, List.not_mem_nil, or_false] at hz
  rcases hz with rfl
  · have hσ := hJ
    obtain ⟨p0, p1, p2, p3, -⟩ := hL'
    obtain rfl := sg_tn hs'
    exact k0 L' p0 p1 p2 p3
def sg_uh_x1b_Z : List sg_z := [(0, [], [.inl (false, (1, .ofNat 1, .ofNat 0))], [(2, 3, (2, .ofNat 1, .ofNat 0), (3, .ofNat 1, .ofNat 0), (0, .ofNat 0, .ofNat 0)), (0, 102, (0, .ofNat 0, .ofNat 0), (3, .ofNat 1, .ofNat 0), (0, .ofNat 0, .ofNat 0))], [(1, [(.ofNat 0, .ofNat 8)]), (2, [(.ofNat 0, .ofNat 8)]), (3, [(.ofNat 0, .ofNat 8)])], [], []),
  (0, [], [.inl (false, (1, .ofNat 1, .ofNat 0))], [(2, 3, (2, .ofNat 1, .ofNat 0), (4, .ofNat 1, .ofNat 0), (0, .ofNat 0, .ofNat 0)), (0, 1, (0, .ofNat 0, .ofNat 0), (4, .ofNat 1, .ofNat 0), (0, .ofNat 0, .ofNat 0)), (2, 2, (2, .ofNat 1, .ofNat 0), (3, .ofNat 1, .ofNat 0), (0, .ofNat 0, .ofNat 0)), (0, 102, (0, .ofNat 0, .ofNat 0), (3, .ofNat 1, .ofNat 0), (0, .ofNat 0, .ofNat 0))], [(1, [(.ofNat 0, .ofNat 8)]), (2, [(.ofNat 0, .ofNat 7)]), (3, [(.ofNat 1, .ofNat 8)]), (4, [(.ofNat 0, .ofNat 7)])], [], []),
  (5, [(0, .inr (.inl [102])), (1, .inr (.inl [1])), (2, .inl (false, (1, .ofNat 1, .ofNat 0))), (3, .inl (false, (2, .ofNat 1, .ofNat 1)))], [], [(2, 0, (5, .ofNat 1, .ofNat 0), (6, .ofNat 1, .ofNat 0), (0, .ofNat 0, .ofNat 0)), (0, 2, (2, .ofNat 1, .ofNat 0), (6, .ofNat 1, .ofNat 0), (0, .ofNat 0, .ofNat 0)), (0, 103, (2, .ofNat 1, .ofNat 0), (5, .ofNat 1, .ofNat 0), (0, .ofNat 0, .ofNat 0)), (2, 2, (2, .ofNat 1, .ofNat 0), (4, .ofNat 1, .ofNat 0), (0, .ofNat 0, .ofNat 0)), (0, 1, (0, .ofNat 0, .ofNat 0), (4, .ofNat 1, .ofNat 0), (0, .ofNat 0, .ofNat 0)), (2, 2, (2, .ofNat 1, .ofNat 0), (3, .ofNat 1, .ofNat 0), (0, .ofNat 0, .ofNat 0)), (0, 102, (0, .ofNat 0, .ofNat 0), (3, .ofNat 1, .ofNat 0), (0, .ofNat 0, .ofNat 0))], [(1, [(.ofNat 0, .ofNat 8)]), (2, [(.ofNat 0, .ofNat 7)]), (3, [(.ofNat 1, .ofNat 8)]), (4, [(.ofNat 1, .ofNat 8)]), (5, [(.ofNat 0, .ofNat 1000000)]), (6, [(.ofNat 0, .ofNat 1000000)])], [], []),
  (5, [(0, .inr (.inl [102])), (1, .inr (.inl [1])), (2, .inl (false, (1, .ofNat 1, .ofNat 1))), (3, .inl (false, (2, .ofNat 1, .ofNat 1)))], [], [(2, 1, (5, .ofNat 1, .ofNat 0), (6, .ofNat 1, .ofNat 0), (0, .ofNat 0, .ofNat 0)), (0, 2, (2, .ofNat 1, .ofNat 0), (6, .ofNat 1, .ofNat 0), (0, .ofNat 0, .ofNat 0)), (0, 103, (2, .ofNat 1, .ofNat 0), (5, .ofNat 1, .ofNat 0), (0, .ofNat 0, .ofNat 0)), (2, 2, (2, .ofNat 1, .ofNat 0), (4, .ofNat 1, .ofNat 0), (0, .ofNat 0, .ofNat 0)), (0, 1, (0, .ofNat 0, .ofNat 0), (4, .ofNat 1, .ofNat 0), (0, .ofNat 0, .ofNat 0)), (2, 2, (2, .ofNat 1, .ofNat 0), (3, .ofNat 1, .ofNat 0), (0, .ofNat 0, .ofNat 0)), (0, 102, (0, .ofNat 0, .ofNat 0), (3, .ofNat 1, .ofNat 0), (0, .ofNat 0, .ofNat 0))], [(1, [(.ofNat 0, .ofNat 8)]), (2, [(.ofNat 0, .ofNat 7)]), (3, [(.ofNat 1, .ofNat 8)]), (4, [(.ofNat 1, .ofNat 8)]), (5, [(.ofNat 0, .ofNat 1000000)]), (6, [(.ofNat 0, .ofNat 1000000)])], [], [])]
set_option maxRecDepth 1000000 in
theorem sg_uh_x1b_g : sg_go [] [4] 3000 79 4 0 3 [(0, [(.ofNat 0, .ofNat 0)]), (1, [(.ofNat 0, .ofNat 8)]), (2, [(.ofNat 0, .ofNat 8)])] [] [] [] [(0, .inr (.inl [102])), (1, .inr (.inl [1])), (2, .inl (false, (1, .ofNat 1, .ofNat 0))), (3, .inl (false, (2, .ofNat 1, .ofNat 0)))] [] [] sg_uh_x1b_Z = true := by decide +kernel
set_option maxRecDepth 100000 in
theorem sg_uh_x1b {Q : Option Value × am_S → Prop} {d : Nat} {S : am_S} {L : am_L} {x1 x2 : Int} (hd : 0 ≤ d) (hP : ax_P0 none S) (l0 : lc L 0 102) (l1 : lc L 1 1) (l2 : li L 2 x1) (l3 : li L 3 x2) (b1 : (0 ≤ x1 ∧ x1 ≤ 8)) (b2 : (0 ≤ x2 ∧ x2 ≤ 8))
    (k0 : ∀ (x3 : Int) (i1 : Int32), rd S 102 0 = x3 → x3 ≤ x2 → (0 ≤ x1 ∧ x1 ≤ 8) → (0 ≤ x2 ∧ x2 ≤ 8) → (0 ≤ x3 ∧ x3 ≤ 8) → i1.toInt = x1 → Q (some (.int i1), S))
    (k1 : ∀ (x3 x4 : Int) (i1 : Int32), rd S 102 0 = x3 → x2 < x3 → rd S 1 0 = x4 → x4 ≤ x2 → (0 ≤ x1 ∧ x1 ≤ 8) → (0 ≤ x2 ∧ x2 ≤ 7) → (1 ≤ x3 ∧ x3 ≤ 8) → (0 ≤ x4 ∧ x4 ≤ 7) → i1.toInt = x1 → Q (some (.int i1), S))
    (k2 : ∀ (x3 x4 x5 x6 : Int) (L' : am_L), rd S 102 0 = x3 → x2 < x3 → rd S 1 0 = x4 → x2 < x4 → rd S 103 x2 = x5 → rd S 2 x2 = x6 → x5 = x6 → (0 ≤ x1 ∧ x1 ≤ 8) → (0 ≤ x2 ∧ x2 ≤ 7) → (1 ≤ x3 ∧ x3 ≤ 8) → (1 ≤ x4 ∧ x4 ≤ 8) → (0 ≤ x5 ∧ x5 ≤ 1000000) → (0 ≤ x6 ∧ x6 ≤ 1000000) → lc L' 0 102 → lc L' 1 1 → li L' 2 x1 → li L' 3 (x2 + 1) → am_V none d 79 4 L' ([]) S Q)
    (k3 : ∀ (x3 x4 x5 x6 : Int) (L' : am_L), rd S 102 0 = x3 → x2 < x3 → rd S 1 0 = x4 → x2 < x4 → rd S 103 x2 = x5 → rd S 2 x2 = x6 → x5 ≠ x6 → (0 ≤ x1 ∧ x1 ≤ 8) → (0 ≤ x2 ∧ x2 ≤ 7) → (1 ≤ x3 ∧ x3 ≤ 8) → (1 ≤ x4 ∧ x4 ≤ 8) → (0 ≤ x5 ∧ x5 ≤ 1000000) → (0 ≤ x6 ∧ x6 ≤ 1000000) → lc L' 0 102 → lc L' 1 1 → li L' 2 (x1 + 1) → li L' 3 (x2 + 1) → am_V none d 79 4 L' ([]) S Q) : am_V none d 79 4 L ([]) S Q := by
  refine sg_use sg_uh_x1b_g hd hP (sg_xs [0, x1, x2]) ⟨⟨Int.le_refl 0, Int.le_refl 0⟩, b1, b2, trivial⟩ trivial trivial trivial ⟨l0, l1, l2, l3, trivial⟩ trivial ?_
  intro z hz x' L' st' S' hx hP' hW hL' hs' hJ hE' hT' hD'
  have q1 : x' 1 = x1 := hx 1 (by decide)
  subst q1
  have q2 : x' 2 = x2 := hx 2 (by decide)
  subst q2
  have eS : S' = S := hW.1 rfl
  subst eS
  simp only [sg_uh_x1b_Z, List.mem_cons, List.not_mem_nil, or_false] at hz
  rcases hz with rfl | rfl | rfl | rfl
  · obtain ⟨f0, f1, hσ⟩ := hJ
    obtain ⟨e0, e1, e2, -⟩ := hE'
    intro v hv
    subst hv
    cases v with
    | none => exact hs'.elim
    | some v1 =>
      obtain ⟨⟨i1, rfl, g1⟩, -⟩ := hs'
      exact k0 (x' 3) i1 f0 f1 e0 e1 e2 g1
  · obtain ⟨f0, f1, f2, f3, hσ⟩ := hJ
    obtain ⟨e0, e1, e2, e3, -⟩ := hE'
    intro v hv
    subst hv
    cases v with
    | none => exact hs'.elim
    | some v1 =>
      obtain ⟨⟨i1, rfl, g1⟩, -⟩ := hs'
      exact k1 (x' 3) (x' 4) i1 f0 f1 f2 f3 e0 e1 e2 e3 g1
  · obtain ⟨f0, f1, f2, f3, f4, f5, f6, hσ⟩ := hJ
    obtain ⟨e0, e1, e2, e3, e4, e5, -⟩ := hE'
    obtain ⟨p0, p1, p2, p3, -⟩ := hL'
    obtain rfl := sg_tn hs'
    exact k2 (x' 3) (x' 4) (x' 5) (x' 6) L' f0 f1 f2 f3 f4 f5 f6 e0 e1 e2 e3 e4 e5 p0 p1 p2 p3
  · obtain ⟨f0, f1, f2, f3, f4, f5, f6, hσ⟩ := hJ
    obtain ⟨e0, e1, e2, e3, e4, e5, -⟩ := hE'
    obtain ⟨p0, p1, p2, p3, -⟩ := hL'
    obtain rfl := sg_tn hs'
    exact k3 (x' 3) (x' 4) (x' 5) (x' 6) L' f0 f1 f2 f3 f4 f5 f6 e0 e1 e2 e3 e4 e5 p0 p1 p2 p3
def sg_ul_x1a_Z : List sg_z := [(5, [(0, .inr (.inl [102])), (1, .inr (.inl [6])), (2, .inl (false, (0, .ofNat 0, .ofNat 0))), (3, .inl (false, (0, .ofNat 0, .ofNat 0)))], [], [], [], [], [])]
set_option maxRecDepth 1000000 in
theorem sg_ul_x1a_g : sg_go [] [4] 3000 81 0 0 1 [(0, [(.ofNat 0, .ofNat 0)])] [] [] [] [(0, .inr (.inl [102])), (1, .inr (.inl [6]))] [] [] sg_ul_x1a_Z = true := by decide +kernel
set_option maxRecDepth 100000 in
theorem sg_ul_x1a {Q : Option Value × am_S → Prop} {d : Nat} {S : am_S} {L : am_L} (hd : 0 ≤ d) (hP : ax_P0 none S) (l0 : lc L 0 102) (l1 : lc L 1 6)
    (k0 : ∀ (L' : am_L), lc L' 0 102 → lc L' 1 6 → li L' 2 0 → li L' 3 0 → am_V none d 81 4 L' ([]) S Q) : am_V none d 81 0 L ([]) S Q := by
  refine sg_use sg_ul_x1a_g hd hP (sg_xs [0]) ⟨⟨Int.le_refl 0, Int.le_refl 0⟩, trivial⟩ trivial trivial trivial ⟨l0, l1, trivial⟩ trivial ?_
  intro z hz x' L' st' S' hx hP' hW hL' hs' hJ hE' hT' hD'
  have eS : S' = S := hW.1 rfl
  subst eS
  simp only [sg_ul_x1a_Z, List.mem_cons, List.not_mem_nil, or_false] at hz
  rcases hz with rfl
  · have hσ := hJ
    obtain ⟨p0, p1, p2, p3, -⟩ := hL'
    obtain rfl := sg_tn hs'
    exact k0 L' p0 p1 p2 p3
def sg_ul_x1b_Z : List sg_z := [(0, [], [.inl (false, (1, .ofNat 1, .ofNat 0))], [(2, 3, (2, .ofNat 1, .ofNat 0), (3, .ofNat 1, .ofNat 0), (0, .ofNat 0, .ofNat 0)), (0, 102, (0, .ofNat 0, .ofNat 1), (3, .ofNat 1, .ofNat 0), (0, .ofNat 0, .ofNat 0))], [(1, [(.ofNat 0, .ofNat 16)]), (2, [(.ofNat 0, .ofNat 16)]), (3, [(.ofNat 0, .ofNat 16)])], [], []),
  (0, [], [.inl (false, (1, .ofNat 1, .ofNat 0))], [(2, 3, (2, .ofNat 1, .ofNat 0), (4, .ofNat 1, .ofNat 0), (0, .ofNat 0, .ofNat 0)), (0, 6, (0, .ofNat 0, .ofNat 0), (4, .ofNat 1, .ofNat 0), (0, .ofNat 0, .ofNat 0)), (2, 2, (2, .ofNat 1, .ofNat 0), (3, .ofNat 1, .ofNat 0), (0, .ofNat 0, .ofNat 0)), (0, 102, (0, .ofNat 0, .ofNat 1), (3, .ofNat 1, .ofNat 0), (0, .ofNat 0, .ofNat 0))], [(1, [(.ofNat 0, .ofNat 16)]), (2, [(.ofNat 0, .ofNat 15)]), (3, [(.ofNat 1, .ofNat 16)]), (4, [(.ofNat 0, .ofNat 15)])], [], []),
  (5, [(0, .inr (.inl [102])), (1, .inr (.inl [6])), (2, .inl (false, (1, .ofNat 1, .ofNat 1))), (3, .inl (false, (2, .ofNat 1, .ofNat 1)))], [], [(2, 1, (5, .ofNat 1, .ofNat 0), (6, .ofNat 1, .ofNat 0), (0, .ofNat 0, .ofNat 0)), (0, 11, (2, .ofNat 1, .ofNat 0), (6, .ofNat 1, .ofNat 0), (0, .ofNat 0, .ofNat 0)), (0, 104, (2, .ofNat 1, .ofNat 0), (5, .ofNat 1, .ofNat 0), (0, .ofNat 0, .ofNat 0)), (2, 2, (2, .ofNat 1, .ofNat 0), (4, .ofNat 1, .ofNat 0), (0, .ofNat 0, .ofNat 0)), (0, 6, (0, .ofNat 0, .ofNat 0), (4, .ofNat 1, .ofNat 0), (0, .ofNat 0, .ofNat 0)), (2, 2, (2, .ofNat 1, .ofNat 0), (3, .ofNat 1, .ofNat 0), (0, .ofNat 0, .ofNat 0)), (0, 102, (0, .ofNat 0, .ofNat 1), (3, .ofNat 1, .ofNat 0), (0, .ofNat 0, .ofNat 0))], [(1, [(.ofNat 0, .ofNat 16)]), (2, [(.ofNat 0, .ofNat 15)]), (3, [(.ofNat 1, .ofNat 16)]), (4, [(.ofNat 1, .ofNat 16)]), (5, [(.negSucc 3, .negSucc 3), (.ofNat 0, .ofNat 7)]), (6, [(.negSucc 3, .negSucc 3), (.ofNat 0, .ofNat 7)])], [], []),
  (5, [(0, .inr (.inl [102])), (1, .inr (.inl [6])), (2, .inl (false, (1, .ofNat 1, .ofNat 0))), (3, .inl (false, (2, .ofNat 1, .ofNat 1)))], [], [(2, 0, (7, .ofNat 1, .ofNat 0), (8, .ofNat 1, .ofNat 0), (0, .ofNat 0, .ofNat 0)), (0, 12, (2, .ofNat 1, .ofNat 0), (8, .ofNat 1, .ofNat 0), (0, .ofNat 0, .ofNat 0)), (0, 105, (2, .ofNat 1, .ofNat 0), (7, .ofNat 1, .ofNat 0), (0, .ofNat 0, .ofNat 0)), (2, 0, (5, .ofNat 1, .ofNat 0), (6, .ofNat 1, .ofNat 0), (0, .ofNat 0, .ofNat 0)), (0, 11, (2, .ofNat 1, .ofNat 0), (6, .ofNat 1, .ofNat 0), (0, .ofNat 0, .ofNat 0)), (0, 104, (2, .ofNat 1, .ofNat 0), (5, .ofNat 1, .ofNat 0), (0, .ofNat 0, .ofNat 0)), (2, 2, (2, .ofNat 1, .ofNat 0), (4, .ofNat 1, .ofNat 0), (0, .ofNat 0, .ofNat 0)), (0, 6, (0, .ofNat 0, .ofNat 0), (4, .ofNat 1, .ofNat 0), (0, .ofNat 0, .ofNat 0)), (2, 2, (2, .ofNat 1, .ofNat 0), (3, .ofNat 1, .ofNat 0), (0, .ofNat 0, .ofNat 0)), (0, 102, (0, .ofNat 0, .ofNat 1), (3, .ofNat 1, .ofNat 0), (0, .ofNat 0, .ofNat 0))], [(1, [(.ofNat 0, .ofNat 16)]), (2, [(.ofNat 0, .ofNat 15)]), (3, [(.ofNat 1, .ofNat 16)]), (4, [(.ofNat 1, .ofNat 16)]), (5, [(.negSucc 3, .negSucc 3), (.ofNat 0, .ofNat 7)]), (6, [(.negSucc 3, .negSucc 3), (.ofNat 0, .ofNat 7)]), (7, [(.negSucc 3, .negSucc 3), (.ofNat 0, .ofNat 7)]), (8, [(.negSucc 3, .negSucc 3), (.ofNat 0, .ofNat 7)])], [], []),
  (5, [(0, .inr (.inl [102])), (1, .inr (.inl [6])), (2, .inl (false, (1, .ofNat 1, .ofNat 1))), (3, .inl (false, (2, .ofNat 1, .ofNat 1)))], [], [(2, 1, (7, .ofNat 1, .ofNat 0), (8, .ofNat 1, .ofNat 0), (0, .ofNat 0, .ofNat 0)), (0, 12, (2, .ofNat 1, .ofNat 0), (8, .ofNat 1, .ofNat 0), (0, .ofNat 0, .ofNat 0)), (0, 105, (2, .ofNat 1, .ofNat 0), (7, .ofNat 1, .ofNat 0), (0, .ofNat 0, .ofNat 0)), (2, 0, (5, .ofNat 1, .ofNat 0), (6, .ofNat 1, .ofNat 0), (0, .ofNat 0, .ofNat 0)), (0, 11, (2, .ofNat 1, .ofNat 0), (6, .ofNat 1, .ofNat 0), (0, .ofNat 0, .ofNat 0)), (0, 104, (2, .ofNat 1, .ofNat 0), (5, .ofNat 1, .ofNat 0), (0, .ofNat 0, .ofNat 0)), (2, 2, (2, .ofNat 1, .ofNat 0), (4, .ofNat 1, .ofNat 0), (0, .ofNat 0, .ofNat 0)), (0, 6, (0, .ofNat 0, .ofNat 0), (4, .ofNat 1, .ofNat 0), (0, .ofNat 0, .ofNat 0)), (2, 2, (2, .ofNat 1, .ofNat 0), (3, .ofNat 1, .ofNat 0), (0, .ofNat 0, .ofNat 0)), (0, 102, (0, .ofNat 0, .ofNat 1), (3, .ofNat 1, .ofNat 0), (0, .ofNat 0, .ofNat 0))], [(1, [(.ofNat 0, .ofNat 16)]), (2, [(.ofNat 0, .ofNat 15)]), (3, [(.ofNat 1, .ofNat 16)]), (4, [(.ofNat 1, .ofNat 16)]), (5, [(.negSucc 3, .negSucc 3), (.ofNat 0, .ofNat 7)]), (6, [(.negSucc 3, .negSucc 3), (.ofNat 0, .ofNat 7)]), (7, [(.negSucc 3, .negSucc 3), (.ofNat 0, .ofNat 7)]), (8, [(.negSucc 3, .negSucc 3), (.ofNat 0, .ofNat 7)])], [], [])]
set_option maxRecDepth 1000000 in
theorem sg_ul_x1b_g : sg_go [] [4] 3000 81 4 0 3 [(0, [(.ofNat 0, .ofNat 0)]), (1, [(.ofNat 0, .ofNat 16)]), (2, [(.ofNat 0, .ofNat 16)])] [] [] [] [(0, .inr (.inl [102])), (1, .inr (.inl [6])), (2, .inl (false, (1, .ofNat 1, .ofNat 0))), (3, .inl (false, (2, .ofNat 1, .ofNat 0)))] [] [] sg_ul_x1b_Z = true := by decide +kernel
set_option maxRecDepth 100000 in
theorem sg_ul_x1b {Q : Option Value × am_S → Prop} {d : Nat} {S : am_S} {L : am_L} {x1 x2 : Int} (hd : 0 ≤ d) (hP : ax_P0 none S) (l0 : lc L 0 102) (l1 : lc L 1 6) (l2 : li L 2 x1) (l3 : li L 3 x2) (b1 : (0 ≤ x1 ∧ x1 ≤ 16)) (b2 : (0 ≤ x2 ∧ x2 ≤ 16))
    (k0 : ∀ (x3 : Int) (i1 : Int32), rd S 102 1 = x3 → x3 ≤ x2 → (0 ≤ x1 ∧ x1 ≤ 16) → (0 ≤ x2 ∧ x2 ≤ 16) → (0 ≤ x3 ∧ x3 ≤ 16) → i1.toInt = x1 → Q (some (.int i1), S))
    (k1 : ∀ (x3 x4 : Int) (i1 : Int32), rd S 102 1 = x3 → x2 < x3 → rd S 6 0 = x4 → x4 ≤ x2 → (0 ≤ x1 ∧ x1 ≤ 16) → (0 ≤ x2 ∧ x2 ≤ 15) → (1 ≤ x3 ∧ x3 ≤ 16) → (0 ≤ x4 ∧ x4 ≤ 15) → i1.toInt = x1 → Q (some (.int i1), S))
    (k2 : ∀ (x3 x4 x5 x6 : Int) (L' : am_L), rd S 102 1 = x3 → x2 < x3 → rd S 6 0 = x4 → x2 < x4 → rd S 104 x2 = x5 → rd S 11 x2 = x6 → x5 ≠ x6 → (0 ≤ x1 ∧ x1 ≤ 16) → (0 ≤ x2 ∧ x2 ≤ 15) → (1 ≤ x3 ∧ x3 ≤ 16) → (1 ≤ x4 ∧ x4 ≤ 16) → ((-4) ≤ x5 ∧ x5 ≤ (-4)) ∨ (0 ≤ x5 ∧ x5 ≤ 7) → ((-4) ≤ x6 ∧ x6 ≤ (-4)) ∨ (0 ≤ x6 ∧ x6 ≤ 7) → lc L' 0 102 → lc L' 1 6 → li L' 2 (x1 + 1) → li L' 3 (x2 + 1) → am_V none d 81 4 L' ([]) S Q)
    (k3 : ∀ (x3 x4 x5 x6 x7 x8 : Int) (L' : am_L), rd S 102 1 = x3 → x2 < x3 → rd S 6 0 = x4 → x2 < x4 → rd S 104 x2 = x5 → rd S 11 x2 = x6 → x5 = x6 → rd S 105 x2 = x7 → rd S 12 x2 = x8 → x7 = x8 → (0 ≤ x1 ∧ x1 ≤ 16) → (0 ≤ x2 ∧ x2 ≤ 15) → (1 ≤ x3 ∧ x3 ≤ 16) → (1 ≤ x4 ∧ x4 ≤ 16) → ((-4) ≤ x5 ∧ x5 ≤ (-4)) ∨ (0 ≤ x5 ∧ x5 ≤ 7) → ((-4) ≤ x6 ∧ x6 ≤ (-4)) ∨ (0 ≤ x6 ∧ x6 ≤ 7) → ((-4) ≤ x7 ∧ x7 ≤ (-4)) ∨ (0 ≤ x7 ∧ x7 ≤ 7) → ((-4) ≤ x8 ∧ x8 ≤ (-4)) ∨ (0 ≤ x8 ∧ x8 ≤ 7) → lc L' 0 102 → lc L' 1 6 → li L' 2 x1 → li L' 3 (x2 + 1) → am_V none d 81 4 L' ([]) S Q)
    (k4 : ∀ (x3 x4 x5 x6 x7 x8 : Int) (L' : am_L), rd S 102 1 = x3 → x2 < x3 → rd S 6 0 = x4 → x2 < x4 → rd S 104 x2 = x5 → rd S 11 x2 = x6 → x5 = x6 → rd S 105 x2 = x7 → rd S 12 x2 = x8 → x7 ≠ x8 → (0 ≤ x1 ∧ x1 ≤ 16) → (0 ≤ x2 ∧ x2 ≤ 15) → (1 ≤ x3 ∧ x3 ≤ 16) → (1 ≤ x4 ∧ x4 ≤ 16) → ((-4) ≤ x5 ∧ x5 ≤ (-4)) ∨ (0 ≤ x5 ∧ x5 ≤ 7) → ((-4) ≤ x6 ∧ x6 ≤ (-4)) ∨ (0 ≤ x6 ∧ x6 ≤ 7) → ((-4) ≤ x7 ∧ x7 ≤ (-4)) ∨ (0 ≤ x7 ∧ x7 ≤ 7) → ((-4) ≤ x8 ∧ x8 ≤ (-4)) ∨ (0 ≤ x8 ∧ x8 ≤ 7) → lc L' 0 102 → lc L' 1 6 → li L' 2 (x1 + 1) → li L' 3 (x2 + 1) → am_V none d 81 4 L' ([]) S Q) : am_V none d 81 4 L ([]) S Q := by
  refine sg_use sg_ul_x1b_g hd hP (sg_xs [0, x1, x2]) ⟨⟨Int.le_refl 0, Int.le_refl 0⟩, b1, b2, trivial⟩ trivial trivial trivial ⟨l0, l1, l2, l3, trivial⟩ trivial ?_
  intro z hz x' L' st' S' hx hP' hW hL' hs' hJ hE' hT' hD'
  have q1 : x' 1 = x1 := hx 1 (by decide)
  subst q1
  have q2 : x' 2 = x2 := hx 2 (by decide)
  subst q2
  have eS : S' = S := hW.1 rfl
  subst eS
  simp only [sg_ul_x1b_Z, List.mem_cons, List.not_mem_nil, or_false] at hz
  rcases hz with rfl | rfl | rfl | rfl | rfl
  · obtain ⟨f0, f1, hσ⟩ := hJ
    obtain ⟨e0, e1, e2, -⟩ := hE'
    intro v hv
    subst hv
    cases v with
    | none => exact hs'.elim
    | some v1 =>
      obtain ⟨⟨i1, rfl, g1⟩, -⟩ := hs'
      exact k0 (x' 3) i1 f0 f1 e0 e1 e2 g1
  · obtain ⟨f0, f1, f2, f3, hσ⟩ := hJ
    obtain ⟨e0, e1, e2, e3, -⟩ := hE'
    intro v hv
    subst hv
    cases v with
    | none => exact hs'.elim
    | some v1 =>
      obtain ⟨⟨i1, rfl, g1⟩, -⟩ := hs'
      exact k1 (x' 3) (x' 4) i1 f0 f1 f2 f3 e0 e1 e2 e3 g1
  · obtain ⟨f0, f1, f2, f3, f4, f5, f6, hσ⟩ := hJ
    obtain ⟨e0, e1, e2, e3, e4, e5, -⟩ := hE'
    obtain ⟨p0, p1, p2, p3, -⟩ := hL'
    obtain rfl := sg_tn hs'
    exact k2 (x' 3) (x' 4) (x' 5) (x' 6) L' f0 f1 f2 f3 f4 f5 f6 e0 e1 e2 e3 e4 e5 p0 p1 p2 p3
  · obtain ⟨f0, f1, f2, f3, f4, f5, f6, f7, f8, f9, hσ⟩ := hJ
    obtain ⟨e0, e1, e2, e3, e4, e5, e6, e7, -⟩ := hE'
    obtain ⟨p0, p1, p2, p3, -⟩ := hL'
    obtain rfl := sg_tn hs'
    exact k3 (x' 3) (x' 4) (x' 5) (x' 6) (x' 7) (x' 8) L' f0 f1 f2 f3 f4 f5 f6 f7 f8 f9 e0 e1 e2 e3 e4 e5 e6 e7 p0 p1 p2 p3
  · obtain ⟨f0, f1, f2, f3, f4, f5, f6, f7, f8, f9, hσ⟩ := hJ
    obtain ⟨e0, e1, e2, e3, e4, e5, e6, e7, -⟩ := hE'
    obtain ⟨p0, p1, p2, p3, -⟩ := hL'
    obtain rfl := sg_tn hs'
    exact k4 (x' 3) (x' 4) (x' 5) (x' 6) (x' 7) (x' 8) L' f0 f1 f2 f3 f4 f5 f6 f7 f8 f9 e0 e1 e2 e3 e4 e5 e6 e7 p0 p1 p2 p3
def sg_bk_x11_Z : List sg_z := [(34, [(0, .inr (.inl [0])), (1, .inl (false, (0, .ofNat 0, .ofNat 1)))], [.inr (.inl [6]), .inr (.inl [102]), .inl (false, (2, .ofNat 1, .ofNat 0))], [], [(1, [(.ofNat 1, .ofNat 1)]), (2, [(.ofNat 0, .ofNat 8)])], [], [])]
set_option maxRecDepth 1000000 in
theorem sg_bk_x11_g : sg_go [] [33] 3000 136 23 0 3 [(0, [(.ofNat 0, .ofNat 0)]), (1, [(.ofNat 1, .ofNat 1)]), (2, [(.ofNat 0, .ofNat 8)])] [] [] [] [(0, .inr (.inl [0])), (1, .inl (false, (1, .ofNat 1, .ofNat 0)))] [.inl (false, (2, .ofNat 1, .ofNat 0))] [] sg_bk_x11_Z = true := by decide +kernel
set_option maxRecDepth 100000 in
theorem sg_bk_x11 {Q : Option Value × am_S → Prop} {d : Nat} {S : am_S} {L : am_L} {x1 x2 : Int} {i1 : Int32} (hd : 0 ≤ d) (hP : ax_P0 none S) (l0 : lc L 0 0) (l1 : li L 1 x1) (b1 : (1 ≤ x1 ∧ x1 ≤ 1)) (b2 : (0 ≤ x2 ∧ x2 ≤ 8)) (s1 : i1.toInt = x2)
    (k0 : ∀ (L' : am_L) (i3 : Int32), (1 ≤ x1 ∧ x1 ≤ 1) → (0 ≤ x2 ∧ x2 ≤ 8) → lc L' 0 0 → li L' 1 1 → i3.toInt = x2 → am_V none d 136 33 L' ((.ref 6) :: (.ref 102) :: (.int i3) :: []) S Q) : am_V none d 136 23 L ((.int i1) :: []) S Q := by
  refine sg_use sg_bk_x11_g hd hP (sg_xs [0, x1, x2]) ⟨⟨Int.le_refl 0, Int.le_refl 0⟩, b1, b2, trivial⟩ trivial trivial trivial ⟨l0, l1, trivial⟩ ⟨⟨_, rfl, s1⟩, trivial⟩ ?_
  intro z hz x' L' st' S' hx hP' hW hL' hs' hJ hE' hT' hD'
  have q1 : x' 1 = x1 := hx 1 (by decide)
  subst q1
  have q2 : x' 2 = x2 := hx 2 (by decide)
  subst q2
  have eS : S' = S := hW.1 rfl
  subst eS
  simp only [sg_bk_x11_Z, List.mem_cons, List.not_mem_nil, or_false] at hz
  rcases hz with rfl
  · have hσ := hJ
    obtain ⟨e0, e1, -⟩ := hE'
    obtain ⟨p0, p1, -⟩ := hL'
    obtain ⟨v1, r1, rfl, rfl, hs1⟩ := sg_tc hs'
    obtain ⟨v2, r2, rfl, rfl, hs2⟩ := sg_tc hs1
    obtain ⟨v3, r3, rfl, ⟨i3, rfl, g3⟩, hs3⟩ := sg_tc hs2
    obtain rfl := sg_tn hs3
    exact k0 L' i3 e0 e1 p0 p1 g3
def sg_bk_x21_Z : List sg_z := [(53, [(0, .inr (.inl [0])), (1, .inl (false, (0, .ofNat 0, .ofNat 1))), (2, .inl (false, (4, .ofNat 1, .ofNat 0)))], [.inr (.inl [6]), .inr (.inl [1]), .inr (.inl [102])], [], [(1, [(.ofNat 1, .ofNat 1)]), (2, [(.ofNat 0, .ofNat 16)]), (3, [(.ofNat 0, .ofNat 8)]), (4, [(.ofNat 0, .ofNat 24)])], [((3, .ofNat 1, .ofNat 0), (2, .ofNat 1, .ofNat 0), (4, .ofNat 1, .ofNat 0))], [])]
set_option maxRecDepth 1000000 in
theorem sg_bk_x21_g : sg_go [] [52] 3000 136 36 0 4 [(0, [(.ofNat 0, .ofNat 0)]), (1, [(.ofNat 1, .ofNat 1)]), (2, [(.ofNat 0, .ofNat 16)]), (3, [(.ofNat 0, .ofNat 8)])] [] [] [] [(0, .inr (.inl [0])), (1, .inl (false, (1, .ofNat 1, .ofNat 0)))] [.inl (false, (2, .ofNat 1, .ofNat 0)), .inl (false, (3, .ofNat 1, .ofNat 0))] [] sg_bk_x21_Z = true := by decide +kernel
set_option maxRecDepth 100000 in
theorem sg_bk_x21 {Q : Option Value × am_S → Prop} {d : Nat} {S : am_S} {L : am_L} {x1 x2 x3 : Int} {i1 : Int32} {i2 : Int32} (hd : 0 ≤ d) (hP : ax_P0 none S) (l0 : lc L 0 0) (l1 : li L 1 x1) (b1 : (1 ≤ x1 ∧ x1 ≤ 1)) (b2 : (0 ≤ x2 ∧ x2 ≤ 16)) (b3 : (0 ≤ x3 ∧ x3 ≤ 8)) (s1 : i1.toInt = x2) (s2 : i2.toInt = x3)
    (k0 : ∀ (x4 : Int) (L' : am_L), (1 ≤ x1 ∧ x1 ≤ 1) → (0 ≤ x2 ∧ x2 ≤ 16) → (0 ≤ x3 ∧ x3 ≤ 8) → (0 ≤ x4 ∧ x4 ≤ 24) → x3 + x2 = x4 → lc L' 0 0 → li L' 1 1 → li L' 2 x4 → am_V none d 136 52 L' ((.ref 6) :: (.ref 1) :: (.ref 102) :: []) S Q) : am_V none d 136 36 L ((.int i1) :: (.int i2) :: []) S Q := by
  refine sg_use sg_bk_x21_g hd hP (sg_xs [0, x1, x2, x3]) ⟨⟨Int.le_refl 0, Int.le_refl 0⟩, b1, b2, b3, trivial⟩ trivial trivial trivial ⟨l0, l1, trivial⟩ ⟨⟨_, rfl, s1⟩, ⟨_, rfl, s2⟩, trivial⟩ ?_
  intro z hz x' L' st' S' hx hP' hW hL' hs' hJ hE' hT' hD'
  have q1 : x' 1 = x1 := hx 1 (by decide)
  subst q1
  have q2 : x' 2 = x2 := hx 2 (by decide)
  subst q2
  have q3 : x' 3 = x3 := hx 3 (by decide)
  subst q3
  have eS : S' = S := hW.1 rfl
  subst eS
  simp only [sg_bk_x21_Z, List.mem_cons, List.not_mem_nil, or_false] at hz
  rcases hz with rfl
  · have hσ := hJ
    obtain ⟨e0, e1, e2, e3, -⟩ := hE'
    obtain ⟨t0, -⟩ := hT'
    obtain ⟨p0, p1, p2, -⟩ := hL'
    obtain ⟨v1, r1, rfl, rfl, hs1⟩ := sg_tc hs'
    obtain ⟨v2, r2, rfl, rfl, hs2⟩ := sg_tc hs1
    obtain ⟨v3, r3, rfl, rfl, hs3⟩ := sg_tc hs2
    obtain rfl := sg_tn hs3
    exact k0 (x' 4) L' e0 e1 e2 e3 t0 p0 p1 p2
def sg_uh_x2a_Z : List sg_z := [(5, [(0, .inr (.inl [106])), (1, .inr (.inl [1])), (2, .inl (false, (0, .ofNat 0, .ofNat 0))), (3, .inl (false, (0, .ofNat 0, .ofNat 0)))], [], [], [], [], [])]
set_option maxRecDepth 1000000 in
theorem sg_uh_x2a_g : sg_go [] [4] 3000 79 0 0 1 [(0, [(.ofNat 0, .ofNat 0)])] [] [] [] [(0, .inr (.inl [106])), (1, .inr (.inl [1]))] [] [] sg_uh_x2a_Z = true := by decide +kernel
set_option maxRecDepth 100000 in
theorem sg_uh_x2a {Q : Option Value × am_S → Prop} {d : Nat} {S : am_S} {L : am_L} (hd : 0 ≤ d) (hP : ax_P0 none S) (l0 : lc L 0 106) (l1 : lc L 1 1)
    (k0 : ∀ (L' : am_L), lc L' 0 106 → lc L' 1 1 → li L' 2 0 → li L' 3 0 → am_V none d 79 4 L' ([]) S Q) : am_V none d 79 0 L ([]) S Q := by
  refine sg_use sg_uh_x2a_g hd hP (sg_xs [0]) ⟨⟨Int.le_refl 0, Int.le_refl 0⟩, trivial⟩ trivial trivial trivial ⟨l0, l1, trivial⟩ trivial ?_
  intro z hz x' L' st' S' hx hP' hW hL' hs' hJ hE' hT' hD'
  have eS : S' = S := hW.1 rfl
  subst eS
  simp only [sg_uh_x2a_Z, List.mem_cons, List.not_mem_nil, or_false] at hz
  rcases hz with rfl
  · have hσ := hJ
    obtain ⟨p0, p1, p2, p3, -⟩ := hL'
    obtain rfl := sg_tn hs'
    exact k0 L' p0 p1 p2 p3
def sg_uh_x2b_Z : List sg_z := [(0, [], [.inl (false, (1, .ofNat 1, .ofNat 0))], [(2, 3, (2, .ofNat 1, .ofNat 0), (3, .ofNat 1, .ofNat 0), (0, .ofNat 0, .ofNat 0)), (0, 106, (0, .ofNat 0, .ofNat 0), (3, .ofNat 1, .ofNat 0), (0, .ofNat 0, .ofNat 0))], [(1, [(.ofNat 0, .ofNat 8)]), (2, [(.ofNat 0, .ofNat 8)]), (3, [(.ofNat 0, .ofNat 8)])], [], []),
  (0, [], [.inl (false, (1, .ofNat 1, .ofNat 0))], [(2, 3, (2, .ofNat 1, .ofNat 0), (4, .ofNat 1, .ofNat 0), (0, .ofNat 0, .ofNat 0)), (0, 1, (0, .ofNat 0, .ofNat 0), (4, .ofNat 1, .ofNat 0), (0, .ofNat 0, .ofNat 0)), (2, 2, (2, .ofNat 1, .ofNat 0), (3, .ofNat 1, .ofNat 0), (0, .ofNat 0, .ofNat 0)), (0, 106, (0, .ofNat 0, .ofNat 0), (3, .ofNat 1, .ofNat 0), (0, .ofNat 0, .ofNat 0))], [(1, [(.ofNat 0, .ofNat 8)]), (2, [(.ofNat 0, .ofNat 7)]), (3, [(.ofNat 1, .ofNat 8)]), (4, [(.ofNat 0, .ofNat 7)])], [], []),
  (5, [(0, .inr (.inl [106])), (1, .inr (.inl [1])), (2, .inl (false, (1, .ofNat 1, .ofNat 0))), (3, .inl (false, (2, .ofNat 1, .ofNat 1)))], [], [(2, 0, (5, .ofNat 1, .ofNat 0), (6, .ofNat 1, .ofNat 0), (0, .ofNat 0, .ofNat 0)), (0, 2, (2, .ofNat 1, .ofNat 0), (6, .ofNat 1, .ofNat 0), (0, .ofNat 0, .ofNat 0)), (0, 107, (2, .ofNat 1, .ofNat 0), (5, .ofNat 1, .ofNat 0), (0, .ofNat 0, .ofNat 0)), (2, 2, (2, .ofNat 1, .ofNat 0), (4, .ofNat 1, .ofNat 0), (0, .ofNat 0, .ofNat 0)), (0, 1, (0, .ofNat 0, .ofNat 0), (4, .ofNat 1, .ofNat 0), (0, .ofNat 0, .ofNat 0)), (2, 2, (2, .ofNat 1, .ofNat 0), (3, .ofNat 1, .ofNat 0), (0, .ofNat 0, .ofNat 0)), (0, 106, (0, .ofNat 0, .ofNat 0), (3, .ofNat 1, .ofNat 0), (0, .ofNat 0, .ofNat 0))], [(1, [(.ofNat 0, .ofNat 8)]), (2, [(.ofNat 0, .ofNat 7)]), (3, [(.ofNat 1, .ofNat 8)]), (4, [(.ofNat 1, .ofNat 8)]), (5, [(.ofNat 0, .ofNat 1000000)]), (6, [(.ofNat 0, .ofNat 1000000)])], [], []),
  (5, [(0, .inr (.inl [106])), (1, .inr (.inl [1])), (2, .inl (false, (1, .ofNat 1, .ofNat 1))), (3, .inl (false, (2, .ofNat 1, .ofNat 1)))], [], [(2, 1, (5, .ofNat 1, .ofNat 0), (6, .ofNat 1, .ofNat 0), (0, .ofNat 0, .ofNat 0)), (0, 2, (2, .ofNat 1, .ofNat 0), (6, .ofNat 1, .ofNat 0), (0, .ofNat 0, .ofNat 0)), (0, 107, (2, .ofNat 1, .ofNat 0), (5, .ofNat 1, .ofNat 0), (0, .ofNat 0, .ofNat 0)), (2, 2, (2, .ofNat 1, .ofNat 0), (4, .ofNat 1, .ofNat 0), (0, .ofNat 0, .ofNat 0)), (0, 1, (0, .ofNat 0, .ofNat 0), (4, .ofNat 1, .ofNat 0), (0, .ofNat 0, .ofNat 0)), (2, 2, (2, .ofNat 1, .ofNat 0), (3, .ofNat 1, .ofNat 0), (0, .ofNat 0, .ofNat 0)), (0, 106, (0, .ofNat 0, .ofNat 0), (3, .ofNat 1, .ofNat 0), (0, .ofNat 0, .ofNat 0))], [(1, [(.ofNat 0, .ofNat 8)]), (2, [(.ofNat 0, .ofNat 7)]), (3, [(.ofNat 1, .ofNat 8)]), (4, [(.ofNat 1, .ofNat 8)]), (5, [(.ofNat 0, .ofNat 1000000)]), (6, [(.ofNat 0, .ofNat 1000000)])], [], [])]
set_option maxRecDepth 1000000 in
theorem sg_uh_x2b_g : sg_go [] [4] 3000 79 4 0 3 [(0, [(.ofNat 0, .ofNat 0)]), (1, [(.ofNat 0, .ofNat 8)]), (2, [(.ofNat 0, .ofNat 8)])] [] [] [] [(0, .inr (.inl [106])), (1, .inr (.inl [1])), (2, .inl (false, (1, .ofNat 1, .ofNat 0))), (3, .inl (false, (2, .ofNat 1, .ofNat 0)))] [] [] sg_uh_x2b_Z = true := by decide +kernel
set_option maxRecDepth 100000 in
theorem sg_uh_x2b {Q : Option Value × am_S → Prop} {d : Nat} {S : am_S} {L : am_L} {x1 x2 : Int} (hd : 0 ≤ d) (hP : ax_P0 none S) (l0 : lc L 0 106) (l1 : lc L 1 1) (l2 : li L 2 x1) (l3 : li L 3 x2) (b1 : (0 ≤ x1 ∧ x1 ≤ 8)) (b2 : (0 ≤ x2 ∧ x2 ≤ 8))
    (k0 : ∀ (x3 : Int) (i1 : Int32), rd S 106 0 = x3 → x3 ≤ x2 → (0 ≤ x1 ∧ x1 ≤ 8) → (0 ≤ x2 ∧ x2 ≤ 8) → (0 ≤ x3 ∧ x3 ≤ 8) → i1.toInt = x1 → Q (some (.int i1), S))
    (k1 : ∀ (x3 x4 : Int) (i1 : Int32), rd S 106 0 = x3 → x2 < x3 → rd S 1 0 = x4 → x4 ≤ x2 → (0 ≤ x1 ∧ x1 ≤ 8) → (0 ≤ x2 ∧ x2 ≤ 7) → (1 ≤ x3 ∧ x3 ≤ 8) → (0 ≤ x4 ∧ x4 ≤ 7) → i1.toInt = x1 → Q (some (.int i1), S))
    (k2 : ∀ (x3 x4 x5 x6 : Int) (L' : am_L), rd S 106 0 = x3 → x2 < x3 → rd S 1 0 = x4 → x2 < x4 → rd S 107 x2 = x5 → rd S 2 x2 = x6 → x5 = x6 → (0 ≤ x1 ∧ x1 ≤ 8) → (0 ≤ x2 ∧ x2 ≤ 7) → (1 ≤ x3 ∧ x3 ≤ 8) → (1 ≤ x4 ∧ x4 ≤ 8) → (0 ≤ x5 ∧ x5 ≤ 1000000) → (0 ≤ x6 ∧ x6 ≤ 1000000) → lc L' 0 106 → lc L' 1 1 → li L' 2 x1 → li L' 3 (x2 + 1) → am_V none d 79 4 L' ([]) S Q)
    (k3 : ∀ (x3 x4 x5 x6 : Int) (L' : am_L), rd S 106 0 = x3 → x2 < x3 → rd S 1 0 = x4 → x2 < x4 → rd S 107 x2 = x5 → rd S 2 x2 = x6 → x5 ≠ x6 → (0 ≤ x1 ∧ x1 ≤ 8) → (0 ≤ x2 ∧ x2 ≤ 7) → (1 ≤ x3 ∧ x3 ≤ 8) → (1 ≤ x4 ∧ x4 ≤ 8) → (0 ≤ x5 ∧ x5 ≤ 1000000) → (0 ≤ x6 ∧ x6 ≤ 1000000) → lc L' 0 106 → lc L' 1 1 → li L' 2 (x1 + 1) → li L' 3 (x2 + 1) → am_V none d 79 4 L' ([]) S Q) : am_V none d 79 4 L ([]) S Q := by
  refine sg_use sg_uh_x2b_g hd hP (sg_xs [0, x1, x2]) ⟨⟨Int.le_refl 0, Int.le_refl 0⟩, b1, b2, trivial⟩ trivial trivial trivial ⟨l0, l1, l2, l3, trivial⟩ trivial ?_
  intro z hz x' L' st' S' hx hP' hW hL' hs' hJ hE' hT' hD'
  have q1 : x' 1 = x1 := hx 1 (by decide)
  subst q1
  have q2 : x' 2 = x2 := hx 2 (by decide)
  subst q2
  have eS : S' = S := hW.1 rfl
  subst eS
  simp only [sg_uh_x2b_Z, List.mem_cons, List.not_mem_nil, or_false] at hz
  rcases hz with rfl | rfl | rfl | rfl
  · obtain ⟨f0, f1, hσ⟩ := hJ
    obtain ⟨e0, e1, e2, -⟩ := hE'
    intro v hv
    subst hv
    cases v with
    | none => exact hs'.elim
    | some v1 =>
      obtain ⟨⟨i1, rfl, g1⟩, -⟩ := hs'
      exact k0 (x' 3) i1 f0 f1 e0 e1 e2 g1
  · obtain ⟨f0, f1, f2, f3, hσ⟩ := hJ
    obtain ⟨e0, e1, e2, e3, -⟩ := hE'
    intro v hv
    subst hv
    cases v with
    | none => exact hs'.elim
    | some v1 =>
      obtain ⟨⟨i1, rfl, g1⟩, -⟩ := hs'
      exact k1 (x' 3) (x' 4) i1 f0 f1 f2 f3 e0 e1 e2 e3 g1
  · obtain ⟨f0, f1, f2, f3, f4, f5, f6, hσ⟩ := hJ
    obtain ⟨e0, e1, e2, e3, e4, e5, -⟩ := hE'
    obtain ⟨p0, p1, p2, p3, -⟩ := hL'
    obtain rfl := sg_tn hs'
    exact k2 (x' 3) (x' 4) (x' 5) (x' 6) L' f0 f1 f2 f3 f4 f5 f6 e0 e1 e2 e3 e4 e5 p0 p1 p2 p3
  · obtain ⟨f0, f1, f2, f3, f4, f5, f6, hσ⟩ := hJ
    obtain ⟨e0, e1, e2, e3, e4, e5, -⟩ := hE'
    obtain ⟨p0, p1, p2, p3, -⟩ := hL'
    obtain rfl := sg_tn hs'
    exact k3 (x' 3) (x' 4) (x' 5) (x' 6) L' f0 f1 f2 f3 f4 f5 f6 e0 e1 e2 e3 e4 e5 p0 p1 p2 p3
def sg_ul_x2a_Z : List sg_z := [(5, [(0, .inr (.inl [106])), (1, .inr (.inl [6])), (2, .inl (false, (0, .ofNat 0, .ofNat 0))), (3, .inl (false, (0, .ofNat 0, .ofNat 0)))], [], [], [], [], [])]
set_option maxRecDepth 1000000 in
theorem sg_ul_x2a_g : sg_go [] [4] 3000 81 0 0 1 [(0, [(.ofNat 0, .ofNat 0)])] [] [] [] [(0, .inr (.inl [106])), (1, .inr (.inl [6]))] [] [] sg_ul_x2a_Z = true := by decide +kernel
set_option maxRecDepth 100000 in
theorem sg_ul_x2a {Q : Option Value × am_S → Prop} {d : Nat} {S : am_S} {L : am_L} (hd : 0 ≤ d) (hP : ax_P0 none S) (l0 : lc L 0 106) (l1 : lc L 1 6)
    (k0 : ∀ (L' : am_L), lc L' 0 106 → lc L' 1 6 → li L' 2 0 → li L' 3 0 → am_V none d 81 4 L' ([]) S Q) : am_V none d 81 0 L ([]) S Q := by
  refine sg_use sg_ul_x2a_g hd hP (sg_xs [0]) ⟨⟨Int.le_refl 0, Int.le_refl 0⟩, trivial⟩ trivial trivial trivial ⟨l0, l1, trivial⟩ trivial ?_
  intro z hz x' L' st' S' hx hP' hW hL' hs' hJ hE' hT' hD'
  have eS : S' = S := hW.1 rfl
  subst eS
  simp only [sg_ul_x2a_Z, List.mem_cons, List.not_mem_nil, or_false] at hz
  rcases hz with rfl
  · have hσ := hJ
    obtain ⟨p0, p1, p2, p3, -⟩ := hL'
    obtain rfl := sg_tn hs'
    exact k0 L' p0 p1 p2 p3
def sg_ul_x2b_Z : List sg_z := [(0, [], [.inl (false, (1, .ofNat 1, .ofNat 0))], [(2, 3, (2, .ofNat 1, .ofNat 0), (3, .ofNat 1, .ofNat 0), (0, .ofNat 0, .ofNat 0)), (0, 106, (0, .ofNat 0, .ofNat 1), (3, .ofNat 1, .ofNat 0), (0, .ofNat 0, .ofNat 0))], [(1, [(.ofNat 0, .ofNat 16)]), (2, [(.ofNat 0, .ofNat 16)]), (3, [(.ofNat 0, .ofNat 16)])], [], []),
  (0, [], [.inl (false, (1, .ofNat 1, .ofNat 0))], [(2, 3, (2, .ofNat 1, .ofNat 0), (4, .ofNat 1, .ofNat 0), (0, .ofNat 0, .ofNat 0)), (0, 6, (0, .ofNat 0, .ofNat 0), (4, .ofNat 1, .ofNat 0), (0, .ofNat 0, .ofNat 0)), (2, 2, (2, .ofNat 1, .ofNat 0), (3, .ofNat 1, .ofNat 0), (0, .ofNat 0, .ofNat 0)), (0, 106, (0, .ofNat 0, .ofNat 1), (3, .ofNat 1, .ofNat 0), (0, .ofNat 0, .ofNat 0))], [(1, [(.ofNat 0, .ofNat 16)]), (2, [(.ofNat 0, .ofNat 15)]), (3, [(.ofNat 1, .ofNat 16)]), (4, [(.ofNat 0, .ofNat 15)])], [], []),
  (5, [(0, .inr (.inl [106])), (1, .inr (.inl [6])), (2, .inl (false, (1, .ofNat 1, .ofNat 1))), (3, .inl (false, (2, .ofNat 1, .ofNat 1)))], [], [(2, 1, (5, .ofNat 1, .ofNat 0), (6, .ofNat 1, .ofNat 0), (0, .ofNat 0, .ofNat 0)), (0, 11, (2, .ofNat 1, .ofNat 0), (6, .ofNat 1, .ofNat 0), (0, .ofNat 0, .ofNat 0)), (0, 108, (2, .ofNat 1, .ofNat 0), (5, .ofNat 1, .ofNat 0), (0, .ofNat 0, .ofNat 0)), (2, 2, (2, .ofNat 1, .ofNat 0), (4, .ofNat 1, .ofNat 0), (0, .ofNat 0, .ofNat 0)), (0, 6, (0, .ofNat 0, .ofNat 0), (4, .ofNat 1, .ofNat 0), (0, .ofNat 0, .ofNat 0)), (2, 2, (2, .ofNat 1, .ofNat 0), (3, .ofNat 1, .ofNat 0), (0, .ofNat 0, .ofNat 0)), (0, 106, (0, .ofNat 0, .ofNat 1), (3, .ofNat 1, .ofNat 0), (0, .ofNat 0, .ofNat 0))], [(1, [(.ofNat 0, .ofNat 16)]), (2, [(.ofNat 0, .ofNat 15)]), (3, [(.ofNat 1, .ofNat 16)]), (4, [(.ofNat 1, .ofNat 16)]), (5, [(.negSucc 3, .negSucc 3), (.ofNat 0, .ofNat 7)]), (6, [(.negSucc 3, .negSucc 3), (.ofNat 0, .ofNat 7)])], [], []),
  (5, [(0, .inr (.inl [106])), (1, .inr (.inl [6])), (2, .inl (false, (1, .ofNat 1, .ofNat 0))), (3, .inl (false, (2, .ofNat 1, .ofNat 1)))], [], [(2, 0, (7, .ofNat 1, .ofNat 0), (8, .ofNat 1, .ofNat 0), (0, .ofNat 0, .ofNat 0)), (0, 12, (2, .ofNat 1, .ofNat 0), (8, .ofNat 1, .ofNat 0), (0, .ofNat 0, .ofNat 0)), (0, 109, (2, .ofNat 1, .ofNat 0), (7, .ofNat 1, .ofNat 0), (0, .ofNat 0, .ofNat 0)), (2, 0, (5, .ofNat 1, .ofNat 0), (6, .ofNat 1, .ofNat 0), (0, .ofNat 0, .ofNat 0)), (0, 11, (2, .ofNat 1, .ofNat 0), (6, .ofNat 1, .ofNat 0), (0, .ofNat 0, .ofNat 0)), (0, 108, (2, .ofNat 1, .ofNat 0), (5, .ofNat 1, .ofNat 0), (0, .ofNat 0, .ofNat 0)), (2, 2, (2, .ofNat 1, .ofNat 0), (4, .ofNat 1, .ofNat 0), (0, .ofNat 0, .ofNat 0)), (0, 6, (0, .ofNat 0, .ofNat 0), (4, .ofNat 1, .ofNat 0), (0, .ofNat 0, .ofNat 0)), (2, 2, (2, .ofNat 1, .ofNat 0), (3, .ofNat 1, .ofNat 0), (0, .ofNat 0, .ofNat 0)), (0, 106, (0, .ofNat 0, .ofNat 1), (3, .ofNat 1, .ofNat 0), (0, .ofNat 0, .ofNat 0))], [(1, [(.ofNat 0, .ofNat 16)]), (2, [(.ofNat 0, .ofNat 15)]), (3, [(.ofNat 1, .ofNat 16)]), (4, [(.ofNat 1, .ofNat 16)]), (5, [(.negSucc 3, .negSucc 3), (.ofNat 0, .ofNat 7)]), (6, [(.negSucc 3, .negSucc 3), (.ofNat 0, .ofNat 7)]), (7, [(.negSucc 3, .negSucc 3), (.ofNat 0, .ofNat 7)]), (8, [(.negSucc 3, .negSucc 3), (.ofNat 0, .ofNat 7)])], [], []),
  (5, [(0, .inr (.inl [106])), (1, .inr (.inl [6])), (2, .inl (false, (1, .ofNat 1, .ofNat 1))), (3, .inl (false, (2, .ofNat 1, .ofNat 1)))], [], [(2, 1, (7, .ofNat 1, .ofNat 0), (8, .ofNat 1, .ofNat 0), (0, .ofNat 0, .ofNat 0)), (0, 12, (2, .ofNat 1, .ofNat 0), (8, .ofNat 1, .ofNat 0), (0, .ofNat 0, .ofNat 0)), (0, 109, (2, .ofNat 1, .ofNat 0), (7, .ofNat 1, .ofNat 0), (0, .ofNat 0, .ofNat 0)), (2, 0, (5, .ofNat 1, .ofNat 0), (6, .ofNat 1, .ofNat 0), (0, .ofNat 0, .ofNat 0)), (0, 11, (2, .ofNat 1, .ofNat 0), (6, .ofNat 1, .ofNat 0), (0, .ofNat 0, .ofNat 0)), (0, 108, (2, .ofNat 1, .ofNat 0), (5, .ofNat 1, .ofNat 0), (0, .ofNat 0, .ofNat 0)), (2, 2, (2, .ofNat 1, .ofNat 0), (4, .ofNat 1, .ofNat 0), (0, .ofNat 0, .ofNat 0)), (0, 6, (0, .ofNat 0, .ofNat 0), (4, .ofNat 1, .ofNat 0), (0, .ofNat 0, .ofNat 0)), (2, 2, (2, .ofNat 1, .ofNat 0), (3, .ofNat 1, .ofNat 0), (0, .ofNat 0, .ofNat 0)), (0, 106, (0, .ofNat 0, .ofNat 1), (3, .ofNat 1, .ofNat 0), (0, .ofNat 0, .ofNat 0))], [(1, [(.ofNat 0, .ofNat 16)]), (2, [(.ofNat 0, .ofNat 15)]), (3, [(.ofNat 1, .ofNat 16)]), (4, [(.ofNat 1, .ofNat 16)]), (5, [(.negSucc 3, .negSucc 3), (.ofNat 0, .ofNat 7)]), (6, [(.negSucc 3, .negSucc 3), (.ofNat 0, .ofNat 7)]), (7, [(.negSucc 3, .negSucc 3), (.ofNat 0, .ofNat 7)]), (8, [(.negSucc 3, .negSucc 3), (.ofNat 0, .ofNat 7)])], [], [])]
set_option maxRecDepth 1000000 in
theorem sg_ul_x2b_g : sg_go [] [4] 3000 81 4 0 3 [(0, [(.ofNat 0, .ofNat 0)]), (1, [(.ofNat 0, .ofNat 16)]), (2, [(.ofNat 0, .ofNat 16)])] [] [] [] [(0, .inr (.inl [106])), (1, .inr (.inl [6])), (2, .inl (false, (1, .ofNat 1, .ofNat 0))), (3, .inl (false, (2, .ofNat 1, .ofNat 0)))] [] [] sg_ul_x2b_Z = true := by decide +kernel
set_option maxRecDepth 100000 in
theorem sg_ul_x2b {Q : Option Value × am_S → Prop} {d : Nat} {S : am_S} {L : am_L} {x1 x2 : Int} (hd : 0 ≤ d) (hP : ax_P0 none S) (l0 : lc L 0 106) (l1 : lc L 1 6) (l2 : li L 2 x1) (l3 : li L 3 x2) (b1 : (0 ≤ x1 ∧ x1 ≤ 16)) (b2 : (0 ≤ x2 ∧ x2 ≤ 16))
    (k0 : ∀ (x3 : Int) (i1 : Int32), rd S 106 1 = x3 → x3 ≤ x2 → (0 ≤ x1 ∧ x1 ≤ 16) → (0 ≤ x2 ∧ x2 ≤ 16) → (0 ≤ x3 ∧ x3 ≤ 16) → i1.toInt = x1 → Q (some (.int i1), S))
    (k1 : ∀ (x3 x4 : Int) (i1 : Int32), rd S 106 1 = x3 → x2 < x3 → rd S 6 0 = x4 → x4 ≤ x2 → (0 ≤ x1 ∧ x1 ≤ 16) → (0 ≤ x2 ∧ x2 ≤ 15) → (1 ≤ x3 ∧ x3 ≤ 16) → (0 ≤ x4 ∧ x4 ≤ 15) → i1.toInt = x1 → Q (some (.int i1), S))
    (k2 : ∀ (x3 x4 x5 x6 : Int) (L' : am_L), rd S 106 1 = x3 → x2 < x3 → rd S 6 0 = x4 → x2 < x4 → rd S 108 x2 = x5 → rd S 11 x2 = x6 → x5 ≠ x6 → (0 ≤ x1 ∧ x1 ≤ 16) → (0 ≤ x2 ∧ x2 ≤ 15) → (1 ≤ x3 ∧ x3 ≤ 16) → (1 ≤ x4 ∧ x4 ≤ 16) → ((-4) ≤ x5 ∧ x5 ≤ (-4)) ∨ (0 ≤ x5 ∧ x5 ≤ 7) → ((-4) ≤ x6 ∧ x6 ≤ (-4)) ∨ (0 ≤ x6 ∧ x6 ≤ 7) → lc L' 0 106 → lc L' 1 6 → li L' 2 (x1 + 1) → li L' 3 (x2 + 1) → am_V none d 81 4 L' ([]) S Q)
    (k3 : ∀ (x3 x4 x5 x6 x7 x8 : Int) (L' : am_L), rd S 106 1 = x3 → x2 < x3 → rd S 6 0 = x4 → x2 < x4 → rd S 108 x2 = x5 → rd S 11 x2 = x6 → x5 = x6 → rd S 109 x2 = x7 → rd S 12 x2 = x8 → x7 = x8 → (0 ≤ x1 ∧ x1 ≤ 16) → (0 ≤ x2 ∧ x2 ≤ 15) → (1 ≤ x3 ∧ x3 ≤ 16) → (1 ≤ x4 ∧ x4 ≤ 16) → ((-4) ≤ x5 ∧ x5 ≤ (-4)) ∨ (0 ≤ x5 ∧ x5 ≤ 7) → ((-4) ≤ x6 ∧ x6 ≤ (-4)) ∨ (0 ≤ x6 ∧ x6 ≤ 7) → ((-4) ≤ x7 ∧ x7 ≤ (-4)) ∨ (0 ≤ x7 ∧ x7 ≤ 7) → ((-4) ≤ x8 ∧ x8 ≤ (-4)) ∨ (0 ≤ x8 ∧ x8 ≤ 7) → lc L' 0 106 → lc L' 1 6 → li L' 2 x1 → li L' 3 (x2 + 1) → am_V none d 81 4 L' ([]) S Q)
    (k4 : ∀ (x3 x4 x5 x6 x7 x8 : Int) (L' : am_L), rd S 106 1 = x3 → x2 < x3 → rd S 6 0 = x4 → x2 < x4 → rd S 108 x2 = x5 → rd S 11 x2 = x6 → x5 = x6 → rd S 109 x2 = x7 → rd S 12 x2 = x8 → x7 ≠ x8 → (0 ≤ x1 ∧ x1 ≤ 16) → (0 ≤ x2 ∧ x2 ≤ 15) → (1 ≤ x3 ∧ x3 ≤ 16) → (1 ≤ x4 ∧ x4 ≤ 16) → ((-4) ≤ x5 ∧ x5 ≤ (-4)) ∨ (0 ≤ x5 ∧ x5 ≤ 7) → ((-4) ≤ x6 ∧ x6 ≤ (-4)) ∨ (0 ≤ x6 ∧ x6 ≤ 7) → ((-4) ≤ x7 ∧ x7 ≤ (-4)) ∨ (0 ≤ x7 ∧ x7 ≤ 7) → ((-4) ≤ x8 ∧ x8 ≤ (-4)) ∨ (0 ≤ x8 ∧ x8 ≤ 7) → lc L' 0 106 → lc L' 1 6 → li L' 2 (x1 + 1) → li L' 3 (x2 + 1) → am_V none d 81 4 L' ([]) S Q) : am_V none d 81 4 L ([]) S Q := by
  refine sg_use sg_ul_x2b_g hd hP (sg_xs [0, x1, x2]) ⟨⟨Int.le_refl 0, Int.le_refl 0⟩, b1, b2, trivial⟩ trivial trivial trivial ⟨l0, l1, l2, l3, trivial⟩ trivial ?_
  intro z hz x' L' st' S' hx hP' hW hL' hs' hJ hE' hT' hD'
  have q1 : x' 1 = x1 := hx 1 (by decide)
  subst q1
  have q2 : x' 2 = x2 := hx 2 (by decide)
  subst q2
  have eS : S' = S := hW.1 rfl
  subst eS
  simp only [sg_ul_x2b_Z, List.mem_cons, List.not_mem_nil, or_false] at hz
  rcases hz with rfl | rfl | rfl | rfl | rfl
  · obtain ⟨f0, f1, hσ⟩ := hJ
    obtain ⟨e0, e1, e2, -⟩ := hE'
    intro v hv
    subst hv
    cases v with
    | none => exact hs'.elim
    | some v1 =>
      obtain ⟨⟨i1, rfl, g1⟩, -⟩ := hs'
      exact k0 (x' 3) i1 f0 f1 e0 e1 e2 g1
  · obtain ⟨f0, f1, f2, f3, hσ⟩ := hJ
    obtain ⟨e0, e1, e2, e3, -⟩ := hE'
    intro v hv
    subst hv
    cases v with
    | none => exact hs'.elim
    | some v1 =>
      obtain ⟨⟨i1, rfl, g1⟩, -⟩ := hs'
      exact k1 (x' 3) (x' 4) i1 f0 f1 f2 f3 e0 e1 e2 e3 g1
  · obtain ⟨f0, f1, f2, f3, f4, f5, f6, hσ⟩ := hJ
    obtain ⟨e0, e1, e2, e3, e4, e5, -⟩ := hE'
    obtain ⟨p0, p1, p2, p3, -⟩ := hL'
    obtain rfl := sg_tn hs'
    exact k2 (x' 3) (x' 4) (x' 5) (x' 6) L' f0 f1 f2 f3 f4 f5 f6 e0 e1 e2 e3 e4 e5 p0 p1 p2 p3
  · obtain ⟨f0, f1, f2, f3, f4, f5, f6, f7, f8, f9, hσ⟩ := hJ
    obtain ⟨e0, e1, e2, e3, e4, e5, e6, e7, -⟩ := hE'
    obtain ⟨p0, p1, p2, p3, -⟩ := hL'
    obtain rfl := sg_tn hs'
    exact k3 (x' 3) (x' 4) (x' 5) (x' 6) (x' 7) (x' 8) L' f0 f1 f2 f3 f4 f5 f6 f7 f8 f9 e0 e1 e2 e3 e4 e5 e6 e7 p0 p1 p2 p3
  · obtain ⟨f0, f1, f2, f3, f4, f5, f6, f7, f8, f9, hσ⟩ := hJ
    obtain ⟨e0, e1, e2, e3, e4, e5, e6, e7, -⟩ := hE'
    obtain ⟨p0, p1, p2, p3, -⟩ := hL'
    obtain rfl := sg_tn hs'
    exact k4 (x' 3) (x' 4) (x' 5) (x' 6) (x' 7) (x' 8) L' f0 f1 f2 f3 f4 f5 f6 f7 f8 f9 e0 e1 e2 e3 e4 e5 e6 e7 p0 p1 p2 p3
def sg_bk_x12_Z : List sg_z := [(34, [(0, .inr (.inl [0])), (1, .inl (false, (0, .ofNat 0, .ofNat 2)))], [.inr (.inl [6]), .inr (.inl [106]), .inl (false, (2, .ofNat 1, .ofNat 0))], [], [(1, [(.ofNat 2, .ofNat 2)]), (2, [(.ofNat 0, .ofNat 8)])], [], [])]
set_option maxRecDepth 1000000 in
theorem sg_bk_x12_g : sg_go [] [33] 3000 136 23 0 3 [(0, [(.ofNat 0, .ofNat 0)]), (1, [(.ofNat 2, .ofNat 2)]), (2, [(.ofNat 0, .ofNat 8)])] [] [] [] [(0, .inr (.inl [0])), (1, .inl (false, (1, .ofNat 1, .ofNat 0)))] [.inl (false, (2, .ofNat 1, .ofNat 0))] [] sg_bk_x12_Z = true := by decide +kernel
set_option maxRecDepth 100000 in
theorem sg_bk_x12 {Q : Option Value × am_S → Prop} {d : Nat} {S : am_S} {L : am_L} {x1 x2 : Int} {i1 : Int32} (hd : 0 ≤ d) (hP : ax_P0 none S) (l0 : lc L 0 0) (l1 : li L 1 x1) (b1 : (2 ≤ x1 ∧ x1 ≤ 2)) (b2 : (0 ≤ x2 ∧ x2 ≤ 8)) (s1 : i1.toInt = x2)
    (k0 : ∀ (L' : am_L) (i3 : Int32), (2 ≤ x1 ∧ x1 ≤ 2) → (0 ≤ x2 ∧ x2 ≤ 8) → lc L' 0 0 → li L' 1 2 → i3.toInt = x2 → am_V none d 136 33 L' ((.ref 6) :: (.ref 106) :: (.int i3) :: []) S Q) : am_V none d 136 23 L ((.int i1) :: []) S Q := by
  refine sg_use sg_bk_x12_g hd hP (sg_xs [0, x1, x2]) ⟨⟨Int.le_refl 0, Int.le_refl 0⟩, b1, b2, trivial⟩ trivial trivial trivial ⟨l0, l1, trivial⟩ ⟨⟨_, rfl, s1⟩, trivial⟩ ?_
  intro z hz x' L' st' S' hx hP' hW hL' hs' hJ hE' hT' hD'
  have q1 : x' 1 = x1 := hx 1 (by decide)
  subst q1
  have q2 : x' 2 = x2 := hx 2 (by decide)
  subst q2
  have eS : S' = S := hW.1 rfl
  subst eS
  simp only [sg_bk_x12_Z, List.mem_cons, List.not_mem_nil, or_false] at hz
  rcases hz with rfl
  · have hσ := hJ
    obtain ⟨e0, e1, -⟩ := hE'
    obtain ⟨p0, p1, -⟩ := hL'
    obtain ⟨v1, r1, rfl, rfl, hs1⟩ := sg_tc hs'
    obtain ⟨v2, r2, rfl, rfl, hs2⟩ := sg_tc hs1
    obtain ⟨v3, r3, rfl, ⟨i3, rfl, g3⟩, hs3⟩ := sg_tc hs2
    obtain rfl := sg_tn hs3
    exact k0 L' i3 e0 e1 p0 p1 g3
def sg_bk_x22_Z : List sg_z := [(53, [(0, .inr (.inl [0])), (1, .inl (false, (0, .ofNat 0, .ofNat 2))), (2, .inl (false, (4, .ofNat 1, .ofNat 0)))], [.inr (.inl [6]), .inr (.inl [1]), .inr (.inl [106])], [], [(1, [(.ofNat 2, .ofNat 2)]), (2, [(.ofNat 0, .ofNat 16)]), (3, [(.ofNat 0, .ofNat 8)]), (4, [(.ofNat 0, .ofNat 24)])], [((3, .ofNat 1, .ofNat 0), (2, .ofNat 1, .ofNat 0), (4, .ofNat 1, .ofNat 0))], [])]
set_option maxRecDepth 1000000 in
theorem sg_bk_x22_g : sg_go [] [52] 3000 136 36 0 4 [(0, [(.ofNat 0, .ofNat 0)]), (1, [(.ofNat 2, .ofNat 2)]), (2, [(.ofNat 0, .ofNat 16)]), (3, [(.ofNat 0, .ofNat 8)])] [] [] [] [(0, .inr (.inl [0])), (1, .inl (false, (1, .ofNat 1, .ofNat 0)))] [.inl (false, (2, .ofNat 1, .ofNat 0)), .inl (false, (3, .ofNat 1, .ofNat 0))] [] sg_bk_x22_Z = true := by decide +kernel
set_option maxRecDepth 100000 in
theorem sg_bk_x22 {Q : Option Value × am_S → Prop} {d : Nat} {S : am_S} {L : am_L} {x1 x2 x3 : Int} {i1 : Int32} {i2 : Int32} (hd : 0 ≤ d) (hP : ax_P0 none S) (l0 : lc L 0 0) (l1 : li L 1 x1) (b1 : (2 ≤ x1 ∧ x1 ≤ 2)) (b2 : (0 ≤ x2 ∧ x2 ≤ 16)) (b3 : (0 ≤ x3 ∧ x3 ≤ 8)) (s1 : i1.toInt = x2) (s2 : i2.toInt = x3)
    (k0 : ∀ (x4 : Int) (L' : am_L), (2 ≤ x1 ∧ x1 ≤ 2) → (0 ≤ x2 ∧ x2 ≤ 16) → (0 ≤ x3 ∧ x3 ≤ 8) → (0 ≤ x4 ∧ x4 ≤ 24) → x3 + x2 = x4 → lc L' 0 0 → li L' 1 2 → li L' 2 x4 → am_V none d 136 52 L' ((.ref 6) :: (.ref 1) :: (.ref 106) :: []) S Q) : am_V none d 136 36 L ((.int i1) :: (.int i2) :: []) S Q := by
  refine sg_use sg_bk_x22_g hd hP (sg_xs [0, x1, x2, x3]) ⟨⟨Int.le_refl 0, Int.le_refl 0⟩, b1, b2, b3, trivial⟩ trivial trivial trivial ⟨l0, l1, trivial⟩ ⟨⟨_, rfl, s1⟩, ⟨_, rfl, s2⟩, trivial⟩ ?_
  intro z hz x' L' st' S' hx hP' hW hL' hs' hJ hE' hT' hD'
  have q1 : x' 1 = x1 := hx 1 (by decide)
  subst q1
  have q2 : x' 2 = x2 := hx 2 (by decide)
  subst q2
  have q3 : x' 3 = x3 := hx 3 (by decide)
  subst q3
  have eS : S' = S := hW.1 rfl
  subst eS
  simp only [sg_bk_x22_Z, List.mem_cons, List.not_mem_nil, or_false] at hz
  rcases hz with rfl
  · have hσ := hJ
    obtain ⟨e0, e1, e2, e3, -⟩ := hE'
    obtain ⟨t0, -⟩ := hT'
    obtain ⟨p0, p1, p2, -⟩ := hL'
    obtain ⟨v1, r1, rfl, rfl, hs1⟩ := sg_tc hs'
    obtain ⟨v2, r2, rfl, rfl, hs2⟩ := sg_tc hs1
    obtain ⟨v3, r3, rfl, rfl, hs3⟩ := sg_tc hs2
    obtain rfl := sg_tn hs3
    exact k0 (x' 4) L' e0 e1 e2 e3 t0 p0 p1 p2
def sg_uh_x3a_Z : List sg_z := [(5, [(0, .inr (.inl [110])), (1, .inr (.inl [1])), (2, .inl (false, (0, .ofNat 0, .ofNat 0))), (3, .inl (false, (0, .ofNat 0, .ofNat 0)))], [], [], [], [], [])]
set_option maxRecDepth 1000000 in
theorem sg_uh_x3a_g : sg_go [] [4] 3000 79 0 0 1 [(0, [(.ofNat 0, .ofNat 0)])] [] [] [] [(0, .inr (.inl [110])), (1, .inr (.inl [1]))] [] [] sg_uh_x3a_Z = true := by decide +kernel
set_option maxRecDepth 100000 in
theorem sg_uh_x3a {Q : Option Value × am_S → Prop} {d : Nat} {S : am_S} {L : am_L} (hd : 0 ≤ d) (hP : ax_P0 none S) (l0 : lc L 0 110) (l1 : lc L 1 1)
    (k0 : ∀ (L' : am_L), lc L' 0 110 → lc L' 1 1 → li L' 2 0 → li L' 3 0 → am_V none d 79 4 L' ([]) S Q) : am_V none d 79 0 L ([]) S Q := by
  refine sg_use sg_uh_x3a_g hd hP (sg_xs [0]) ⟨⟨Int.le_refl 0, Int.le_refl 0⟩, trivial⟩ trivial trivial trivial ⟨l0, l1, trivial⟩ trivial ?_
  intro z hz x' L' st' S' hx hP' hW hL' hs' hJ hE' hT' hD'
  have eS : S' = S := hW.1 rfl
  subst eS
  simp only [sg_uh_x3a_Z, List.mem_cons, List.not_mem_nil, or_false] at hz
  rcases hz with rfl
  · have hσ := hJ
    obtain ⟨p0, p1, p2, p3, -⟩ := hL'
    obtain rfl := sg_tn hs'
    exact k0 L' p0 p1 p2 p3
def sg_uh_x3b_Z : List sg_z := [(0, [], [.inl (false, (1, .ofNat 1, .ofNat 0))], [(2, 3, (2, .ofNat 1, .ofNat 0), (3, .ofNat 1, .ofNat 0), (0, .ofNat 0, .ofNat 0)), (0, 110, (0, .ofNat 0, .ofNat 0), (3, .ofNat 1, .ofNat 0), (0, .ofNat 0, .ofNat 0))], [(1, [(.ofNat 0, .ofNat 8)]), (2, [(.ofNat 0, .ofNat 8)]), (3, [(.ofNat 0, .ofNat 8)])], [], []),
  (0, [], [.inl (false, (1, .ofNat 1, .ofNat 0))], [(2, 3, (2, .ofNat 1, .ofNat 0), (4, .ofNat 1, .ofNat 0), (0, .ofNat 0, .ofNat 0)), (0, 1, (0, .ofNat 0, .ofNat 0), (4, .ofNat 1, .ofNat 0), (0, .ofNat 0, .ofNat 0)), (2, 2, (2, .ofNat 1, .ofNat 0), (3, .ofNat 1, .ofNat 0), (0, .ofNat 0, .ofNat 0)), (0, 110, (0, .ofNat 0, .ofNat 0), (3, .ofNat 1, .ofNat 0), (0, .ofNat 0, .ofNat 0))], [(1, [(.ofNat 0, .ofNat 8)]), (2, [(.ofNat 0, .ofNat 7)]), (3, [(.ofNat 1, .ofNat 8)]), (4, [(.ofNat 0, .ofNat 7)])], [], []),
  (5, [(0, .inr (.inl [110])), (1, .inr (.inl [1])), (2, .inl (false, (1, .ofNat 1, .ofNat 0))), (3, .inl (false, (2, .ofNat 1, .ofNat 1)))], [], [(2, 0, (5, .ofNat 1, .ofNat 0), (6, .ofNat 1, .ofNat 0), (0, .ofNat 0, .ofNat 0)), (0, 2, (2, .ofNat 1, .ofNat 0), (6, .ofNat 1, .ofNat 0), (0, .ofNat 0, .ofNat 0)), (0, 111, (2, .ofNat 1, .ofNat 0), (5, .ofNat 1, .ofNat 0), (0, .ofNat 0, .ofNat 0)), (2, 2, (2, .ofNat 1, .ofNat 0), (4, .ofNat 1, .ofNat 0), (0, .ofNat 0, .ofNat 0)), (0, 1, (0, .ofNat 0, .ofNat 0), (4, .ofNat 1, .ofNat 0), (0, .ofNat 0, .ofNat 0)), (2, 2, (2, .ofNat 1, .ofNat 0), (3, .ofNat 1, .ofNat 0), (0, .ofNat 0, .ofNat 0)), (0, 110, (0, .ofNat 0, .ofNat 0), (3, .ofNat 1, .ofNat 0), (0, .ofNat 0, .ofNat 0))], [(1, [(.ofNat 0, .ofNat 8)]), (2, [(.ofNat 0, .ofNat 7)]), (3, [(.ofNat 1, .ofNat 8)]), (4, [(.ofNat 1, .ofNat 8)]), (5, [(.ofNat 0, .ofNat 1000000)]), (6, [(.ofNat 0, .ofNat 1000000)])], [], []),
  (5, [(0, .inr (.inl [110])), (1, .inr (.inl [1])), (2, .inl (false, (1, .ofNat 1, .ofNat 1))), (3, .inl (false, (2, .ofNat 1, .ofNat 1)))], [], [(2, 1, (5, .ofNat 1, .ofNat 0), (6, .ofNat 1, .ofNat 0), (0, .ofNat 0, .ofNat 0)), (0, 2, (2, .ofNat 1, .ofNat 0), (6, .ofNat 1, .ofNat 0), (0, .ofNat 0, .ofNat 0)), (0, 111, (2, .ofNat 1, .ofNat 0), (5, .ofNat 1, .ofNat 0), (0, .ofNat 0, .ofNat 0)), (2, 2, (2, .ofNat 1, .ofNat 0), (4, .ofNat 1, .ofNat 0), (0, .ofNat 0, .ofNat 0)), (0, 1, (0, .ofNat 0, .ofNat 0), (4, .ofNat 1, .ofNat 0), (0, .ofNat 0, .ofNat 0)), (2, 2, (2, .ofNat 1, .ofNat 0), (3, .ofNat 1, .ofNat 0), (0, .ofNat 0, .ofNat 0)), (0, 110, (0, .ofNat 0, .ofNat 0), (3, .ofNat 1, .ofNat 0), (0, .ofNat 0, .ofNat 0))], [(1, [(.ofNat 0, .ofNat 8)]), (2, [(.ofNat 0, .ofNat 7)]), (3, [(.ofNat 1, .ofNat 8)]), (4, [(.ofNat 1, .ofNat 8)]), (5, [(.ofNat 0, .ofNat 1000000)]), (6, [(.ofNat 0, .ofNat 1000000)])], [], [])]
set_option maxRecDepth 1000000 in
theorem sg_uh_x3b_g : sg_go [] [4] 3000 79 4 0 3 [(0, [(.ofNat 0, .ofNat 0)]), (1, [(.ofNat 0, .ofNat 8)]), (2, [(.ofNat 0, .ofNat 8)])] [] [] [] [(0, .inr (.inl [110])), (1, .inr (.inl [1])), (2, .inl (false, (1, .ofNat 1, .ofNat 0))), (3, .inl (false, (2, .ofNat 1, .ofNat 0)))] [] [] sg_uh_x3b_Z = true := by decide +kernel
set_option maxRecDepth 100000 in
theorem sg_uh_x3b {Q : Option Value × am_S → Prop} {d : Nat} {S : am_S} {L : am_L} {x1 x2 : Int} (hd : 0 ≤ d) (hP : ax_P0 none S) (l0 : lc L 0 110) (l1 : lc L 1 1) (l2 : li L 2 x1) (l3 : li L 3 x2) (b1 : (0 ≤ x1 ∧ x1 ≤ 8)) (b2 : (0 ≤ x2 ∧ x2 ≤ 8))
    (k0 : ∀ (x3 : Int) (i1 : Int32), rd S 110 0 = x3 → x3 ≤ x2 → (0 ≤ x1 ∧ x1 ≤ 8) → (0 ≤ x2 ∧ x2 ≤ 8) → (0 ≤ x3 ∧ x3 ≤ 8) → i1.toInt = x1 → Q (some (.int i1), S))
    (k1 : ∀ (x3 x4 : Int) (i1 : Int32), rd S 110 0 = x3 → x2 < x3 → rd S 1 0 = x4 → x4 ≤ x2 → (0 ≤ x1 ∧ x1 ≤ 8) → (0 ≤ x2 ∧ x2 ≤ 7) → (1 ≤ x3 ∧ x3 ≤ 8) → (0 ≤ x4 ∧ x4 ≤ 7) → i1.toInt = x1 → Q (some (.int i1), S))
    (k2 : ∀ (x3 x4 x5 x6 : Int) (L' : am_L), rd S 110 0 = x3 → x2 < x3 → rd S 1 0 = x4 → x2 < x4 → rd S 111 x2 = x5 → rd S 2 x2 = x6 → x5 = x6 → (0 ≤ x1 ∧ x1 ≤ 8) → (0 ≤ x2 ∧ x2 ≤ 7) → (1 ≤ x3 ∧ x3 ≤ 8) → (1 ≤ x4 ∧ x4 ≤ 8) → (0 ≤ x5 ∧ x5 ≤ 1000000) → (0 ≤ x6 ∧ x6 ≤ 1000000) → lc L' 0 110 → lc L' 1 1 → li L' 2 x1 → li L' 3 (x2 + 1) → am_V none d 79 4 L' ([]) S Q)
    (k3 : ∀ (x3 x4 x5 x6 : Int) (L' : am_L), rd S 110 0 = x3 → x2 < x3 → rd S 1 0 = x4 → x2 < x4 → rd S 111 x2 = x5 → rd S 2 x2 = x6 → x5 ≠ x6 → (0 ≤ x1 ∧ x1 ≤ 8) → (0 ≤ x2 ∧ x2 ≤ 7) → (1 ≤ x3 ∧ x3 ≤ 8) → (1 ≤ x4 ∧ x4 ≤ 8) → (0 ≤ x5 ∧ x5 ≤ 1000000) → (0 ≤ x6 ∧ x6 ≤ 1000000) → lc L' 0 110 → lc L' 1 1 → li L' 2 (x1 + 1) → li L' 3 (x2 + 1) → am_V none d 79 4 L' ([]) S Q) : am_V none d 79 4 L ([]) S Q := by
  refine sg_use sg_uh_x3b_g hd hP (sg_xs [0, x1, x2]) ⟨⟨Int.le_refl 0, Int.le_refl 0⟩, b1, b2, trivial⟩ trivial trivial trivial ⟨l0, l1, l2, l3, trivial⟩ trivial ?_
  intro z hz x' L' st' S' hx hP' hW hL' hs' hJ hE' hT' hD'
  have q1 : x' 1 = x1 := hx 1 (by decide)
  subst q1
  have q2 : x' 2 = x2 := hx 2 (by decide)
  subst q2
  have eS : S' = S := hW.1 rfl
  subst eS
  simp only [sg_uh_x3b_Z, List.mem_cons, List.not_mem_nil, or_false] at hz
  rcases hz with rfl | rfl | rfl | rfl
  · obtain ⟨f0, f1, hσ⟩ := hJ
    obtain ⟨e0, e1, e2, -⟩ := hE'
    intro v hv
    subst hv
    cases v with
    | none => exact hs'.elim
    | some v1 =>
      obtain ⟨⟨i1, rfl, g1⟩, -⟩ := hs'
      exact k0 (x' 3) i1 f0 f1 e0 e1 e2 g1
  · obtain ⟨f0, f1, f2, f3, hσ⟩ := hJ
    obtain ⟨e0, e1, e2, e3, -⟩ := hE'
    intro v hv
    subst hv
    cases v with
    | none => exact hs'.elim
    | some v1 =>
      obtain ⟨⟨i1, rfl, g1⟩, -⟩ := hs'
      exact k1 (x' 3) (x' 4) i1 f0 f1 f2 f3 e0 e1 e2 e3 g1
  · obtain ⟨f0, f1, f2, f3, f4, f5, f6, hσ⟩ := hJ
    obtain ⟨e0, e1, e2, e3, e4, e5, -⟩ := hE'
    obtain ⟨p0, p1, p2, p3, -⟩ := hL'
    obtain rfl := sg_tn hs'
    exact k2 (x' 3) (x' 4) (x' 5) (x' 6) L' f0 f1 f2 f3 f4 f5 f6 e0 e1 e2 e3 e4 e5 p0 p1 p2 p3
  · obtain ⟨f0, f1, f2, f3, f4, f5, f6, hσ⟩ := hJ
    obtain ⟨e0, e1, e2, e3, e4, e5, -⟩ := hE'
    obtain ⟨p0, p1, p2, p3, -⟩ := hL'
    obtain rfl := sg_tn hs'
    exact k3 (x' 3) (x' 4) (x' 5) (x' 6) L' f0 f1 f2 f3 f4 f5 f6 e0 e1 e2 e3 e4 e5 p0 p1 p2 p3
def sg_ul_x3a_Z : List sg_z := [(5, [(0, .inr (.inl [110])), (1, .inr (.inl [6])), (2, .inl (false, (0, .ofNat 0, .ofNat 0))), (3, .inl (false, (0, .ofNat 0, .ofNat 0)))], [], [], [], [], [])]
set_option maxRecDepth 1000000 in
theorem sg_ul_x3a_g : sg_go [] [4] 3000 81 0 0 1 [(0, [(.ofNat 0, .ofNat 0)])] [] [] [] [(0, .inr (.inl [110])), (1, .inr (.inl [6]))] [] [] sg_ul_x3a_Z = true := by decide +kernel
set_option maxRecDepth 100000 in
theorem sg_ul_x3a {Q : Option Value × am_S → Prop} {d : Nat} {S : am_S} {L : am_L} (hd : 0 ≤ d) (hP : ax_P0 none S) (l0 : lc L 0 110) (l1 : lc L 1 6)
    (k0 : ∀ (L' : am_L), lc L' 0 110 → lc L' 1 6 → li L' 2 0 → li L' 3 0 → am_V none d 81 4 L' ([]) S Q) : am_V none d 81 0 L ([]) S Q := by
  refine sg_use sg_ul_x3a_g hd hP (sg_xs [0]) ⟨⟨Int.le_refl 0, Int.le_refl 0⟩, trivial⟩ trivial trivial trivial ⟨l0, l1, trivial⟩ trivial ?_
  intro z hz x' L' st' S' hx hP' hW hL' hs' hJ hE' hT' hD'
  have eS : S' = S := hW.1 rfl
  subst eS
  simp only [sg_ul_x3a_Z, List.mem_cons, List.not_mem_nil, or_false] at hz
  rcases hz with rfl
  · have hσ := hJ
    obtain ⟨p0, p1, p2, p3, -⟩ := hL'
    obtain rfl := sg_tn hs'
    exact k0 L' p0 p1 p2 p3
def sg_ul_x3b_Z : List sg_z := [(0, [], [.inl (false, (1, .ofNat 1, .ofNat 0))], [(2, 3, (2, .ofNat 1, .ofNat 0), (3, .ofNat 1, .ofNat 0), (0, .ofNat 0, .ofNat 0)), (0, 110, (0, .ofNat 0, .ofNat 1), (3, .ofNat 1, .ofNat 0), (0, .ofNat 0, .ofNat 0))], [(1, [(.ofNat 0, .ofNat 16)]), (2, [(.ofNat 0, .ofNat 16)]), (3, [(.ofNat 0, .ofNat 16)])], [], []),
  (0, [], [.inl (false, (1, .ofNat 1, .ofNat 0))], [(2, 3, (2, .ofNat 1, .ofNat 0), (4, .ofNat 1, .ofNat 0), (0, .ofNat 0, .ofNat 0)), (0, 6, (0, .ofNat 0, .ofNat 0), (4, .ofNat 1, .ofNat 0), (0, .ofNat 0, .ofNat 0)), (2, 2, (2, .ofNat 1, .ofNat 0), (3, .ofNat 1, .ofNat 0), (0, .ofNat 0, .ofNat 0)), (0, 110, (0, .ofNat 0, .ofNat 1), (3, .ofNat 1, .ofNat 0), (0, .ofNat 0, .ofNat 0))], [(1, [(.ofNat 0, .ofNat 16)]), (2, [(.ofNat 0, .ofNat 15)]), (3, [(.ofNat 1, .ofNat 16)]), (4, [(.ofNat 0, .ofNat 15)])], [], []),
  (5, [(0, .inr (.inl [110])), (1, .inr (.inl [6])), (2, .inl (false, (1, .ofNat 1, .ofNat 1))), (3, .inl (false, (2, .ofNat 1, .ofNat 1)))], [], [(2, 1, (5, .ofNat 1, .ofNat 0), (6, .ofNat 1, .ofNat 0), (0, .ofNat 0, .ofNat 0)), (0, 11, (2, .ofNat 1, .ofNat 0), (6, .ofNat 1, .ofNat 0), (0, .ofNat 0, .ofNat 0)), (0, 112, (2, .ofNat 1, .ofNat 0), (5, .ofNat 1, .ofNat 0), (0, .ofNat 0, .ofNat 0)), (2, 2, (2, .ofNat 1, .ofNat 0), (4, .ofNat 1, .ofNat 0), (0, .ofNat 0, .ofNat 0)), (0, 6, (0, .ofNat 0, .ofNat 0), (4, .ofNat 1, .ofNat 0), (0, .ofNat 0, .ofNat 0)), (2, 2, (2, .ofNat 1, .ofNat 0), (3, .ofNat 1, .ofNat 0), (0, .ofNat 0, .ofNat 0)), (0, 110, (0, .ofNat 0, .ofNat 1), (3, .ofNat 1, .ofNat 0), (0, .ofNat 0, .ofNat 0))], [(1, [(.ofNat 0, .ofNat 16)]), (2, [(.ofNat 0, .ofNat 15)]), (3, [(.ofNat 1, .ofNat 16)]), (4, [(.ofNat 1, .ofNat 16)]), (5, [(.negSucc 3, .negSucc 3), (.ofNat 0, .ofNat 7)]), (6, [(.negSucc 3, .negSucc 3), (.ofNat 0, .ofNat 7)])], [], []),
  (5, [(0, .inr (.inl [110])), (1, .inr (.inl [6])), (2, .inl (false, (1, .ofNat 1, .ofNat 0))), (3, .inl (false, (2, .ofNat 1, .ofNat 1)))], [], [(2, 0, (7, .ofNat 1, .ofNat 0), (8, .ofNat 1, .ofNat 0), (0, .ofNat 0, .ofNat 0)), (0, 12, (2, .ofNat 1, .ofNat 0), (8, .ofNat 1, .ofNat 0), (0, .ofNat 0, .ofNat 0)), (0, 113, (2, .ofNat 1, .ofNat 0), (7, .ofNat 1, .ofNat 0), (0, .ofNat 0, .ofNat 0)), (2, 0, (5, .ofNat 1, .ofNat 0), (6, .ofNat 1, .ofNat 0), (0, .ofNat 0, .ofNat 0)), (0, 11, (2, .ofNat 1, .ofNat 0), (6, .ofNat 1, .ofNat 0), (0, .ofNat 0, .ofNat 0)), (0, 112, (2, .ofNat 1, .ofNat 0), (5, .ofNat 1, .ofNat 0), (0, .ofNat 0, .ofNat 0)), (2, 2, (2, .ofNat 1, .ofNat 0), (4, .ofNat 1, .ofNat 0), (0, .ofNat 0, .ofNat 0)), (0, 6, (0, .ofNat 0, .ofNat 0), (4, .ofNat 1, .ofNat 0), (0, .ofNat 0, .ofNat 0)), (2, 2, (2, .ofNat 1, .ofNat 0), (3, .ofNat 1, .ofNat 0), (0, .ofNat 0, .ofNat 0)), (0, 110, (0, .ofNat 0, .ofNat 1), (3, .ofNat 1, .ofNat 0), (0, .ofNat 0, .ofNat 0))], [(1, [(.ofNat 0, .ofNat 16)]), (2, [(.ofNat 0, .ofNat 15)]), (3, [(.ofNat 1, .ofNat 16)]), (4, [(.ofNat 1, .ofNat 16)]), (5, [(.negSucc 3, .negSucc 3), (.ofNat 0, .ofNat 7)]), (6, [(.negSucc 3, .negSucc 3), (.ofNat 0, .ofNat 7)]), (7, [(.negSucc 3, .negSucc 3), (.ofNat 0, .ofNat 7)]), (8, [(.negSucc 3, .negSucc 3), (.ofNat 0, .ofNat 7)])], [], []),
  (5, [(0, .inr (.inl [110])), (1, .inr (.inl [6])), (2, .inl (false, (1, .ofNat 1, .ofNat 1))), (3, .inl (false, (2, .ofNat 1, .ofNat 1)))], [], [(2, 1, (7, .ofNat 1, .ofNat 0), (8, .ofNat 1, .ofNat 0), (0, .ofNat 0, .ofNat 0)), (0, 12, (2, .ofNat 1, .ofNat 0), (8, .ofNat 1, .ofNat 0), (0, .ofNat 0, .ofNat 0)), (0, 113, (2, .ofNat 1, .ofNat 0), (7, .ofNat 1, .ofNat 0), (0, .ofNat 0, .ofNat 0)), (2, 0, (5, .ofNat 1, .ofNat 0), (6, .ofNat 1, .ofNat 0), (0, .ofNat 0, .ofNat 0)), (0, 11, (2, .ofNat 1, .ofNat 0), (6, .ofNat 1, .ofNat 0), (0, .ofNat 0, .ofNat 0)), (0, 112, (2, .ofNat 1, .ofNat 0), (5, .ofNat 1, .ofNat 0), (0, .ofNat 0, .ofNat 0)), (2, 2, (2, .ofNat 1, .ofNat 0), (4, .ofNat 1, .ofNat 0), (0, .ofNat 0, .ofNat 0)), (0, 6, (0, .ofNat 0, .ofNat 0), (4, .ofNat 1, .ofNat 0), (0, .ofNat 0, .ofNat 0)), (2, 2, (2, .ofNat 1, .ofNat 0), (3, .ofNat 1, .ofNat 0), (0, .ofNat 0, .ofNat 0)), (0, 110, (0, .ofNat 0, .ofNat 1), (3, .ofNat 1, .ofNat 0), (0, .ofNat 0, .ofNat 0))], [(1, [(.ofNat 0, .ofNat 16)]), (2, [(.ofNat 0, .ofNat 15)]), (3, [(.ofNat 1, .ofNat 16)]), (4, [(.ofNat 1, .ofNat 16)]), (5, [(.negSucc 3, .negSucc 3), (.ofNat 0, .ofNat 7)]), (6, [(.negSucc 3, .negSucc 3), (.ofNat 0, .ofNat 7)]), (7, [(.negSucc 3, .negSucc 3), (.ofNat 0, .ofNat 7)]), (8, [(.negSucc 3, .negSucc 3), (.ofNat 0, .ofNat 7)])], [], [])]
set_option maxRecDepth 1000000 in
theorem sg_ul_x3b_g : sg_go [] [4] 3000 81 4 0 3 [(0, [(.ofNat 0, .ofNat 0)]), (1, [(.ofNat 0, .ofNat 16)]), (2, [(.ofNat 0, .ofNat 16)])] [] [] [] [(0, .inr (.inl [110])), (1, .inr (.inl [6])), (2, .inl (false, (1, .ofNat 1, .ofNat 0))), (3, .inl (false, (2, .ofNat 1, .ofNat 0)))] [] [] sg_ul_x3b_Z = true := by decide +kernel
set_option maxRecDepth 100000 in
theorem sg_ul_x3b {Q : Option Value × am_S → Prop} {d : Nat} {S : am_S} {L : am_L} {x1 x2 : Int} (hd : 0 ≤ d) (hP : ax_P0 none S) (l0 : lc L 0 110) (l1 : lc L 1 6) (l2 : li L 2 x1) (l3 : li L 3 x2) (b1 : (0 ≤ x1 ∧ x1 ≤ 16)) (b2 : (0 ≤ x2 ∧ x2 ≤ 16))
    (k0 : ∀ (x3 : Int) (i1 : Int32), rd S 110 1 = x3 → x3 ≤ x2 → (0 ≤ x1 ∧ x1 ≤ 16) → (0 ≤ x2 ∧ x2 ≤ 16) → (0 ≤ x3 ∧ x3 ≤ 16) → i1.toInt = x1 → Q (some (.int i1), S))
    (k1 : ∀ (x3 x4 : Int) (i1 : Int32), rd S 110 1 = x3 → x2 < x3 → rd S 6 0 = x4 → x4 ≤ x2 → (0 ≤ x1 ∧ x1 ≤ 16) → (0 ≤ x2 ∧ x2 ≤ 15) → (1 ≤ x3 ∧ x3 ≤ 16) → (0 ≤ x4 ∧ x4 ≤ 15) → i1.toInt = x1 → Q (some (.int i1), S))
    (k2 : ∀ (x3 x4 x5 x6 : Int) (L' : am_L), rd S 110 1 = x3 → x2 < x3 → rd S 6 0 = x4 → x2 < x4 → rd S 112 x2 = x5 → rd S 11 x2 = x6 → x5 ≠ x6 → (0 ≤ x1 ∧ x1 ≤ 16) → (0 ≤ x2 ∧ x2 ≤ 15) → (1 ≤ x3 ∧ x3 ≤ 16) → (1 ≤ x4 ∧ x4 ≤ 16) → ((-4) ≤ x5 ∧ x5 ≤ (-4)) ∨ (0 ≤ x5 ∧ x5 ≤ 7) → ((-4) ≤ x6 ∧ x6 ≤ (-4)) ∨ (0 ≤ x6 ∧ x6 ≤ 7) → lc L' 0 110 → lc L' 1 6 → li L' 2 (x1 + 1) → li L' 3 (x2 + 1) → am_V none d 81 4 L' ([]) S Q)
    (k3 : ∀ (x3 x4 x5 x6 x7 x8 : Int) (L' : am_L), rd S 110 1 = x3 → x2 < x3 → rd S 6 0 = x4 → x2 < x4 → rd S 112 x2 = x5 → rd S 11 x2 = x6 → x5 = x6 → rd S 113 x2 = x7 → rd S 12 x2 = x8 → x7 = x8 → (0 ≤ x1 ∧ x1 ≤ 16) → (0 ≤ x2 ∧ x2 ≤ 15) → (1 ≤ x3 ∧ x3 ≤ 16) → (1 ≤ x4 ∧ x4 ≤ 16) → ((-4) ≤ x5 ∧ x5 ≤ (-4)) ∨ (0 ≤ x5 ∧ x5 ≤ 7) → ((-4) ≤ x6 ∧ x6 ≤ (-4)) ∨ (0 ≤ x6 ∧ x6 ≤ 7) → ((-4) ≤ x7 ∧ x7 ≤ (-4)) ∨ (0 ≤ x7 ∧ x7 ≤ 7) → ((-4) ≤ x8 ∧ x8 ≤ (-4)) ∨ (0 ≤ x8 ∧ x8 ≤ 7) → lc L' 0 110 → lc L' 1 6 → li L' 2 x1 → li L' 3 (x2 + 1) → am_V none d 81 4 L' ([]) S Q)
    (k4 : ∀ (x3 x4 x5 x6 x7 x8 : Int) (L' : am_L), rd S 110 1 = x3 → x2 < x3 → rd S 6 0 = x4 → x2 < x4 → rd S 112 x2 = x5 → rd S 11 x2 = x6 → x5 = x6 → rd S 113 x2 = x7 → rd S 12 x2 = x8 → x7 ≠ x8 → (0 ≤ x1 ∧ x1 ≤ 16) → (0 ≤ x2 ∧ x2 ≤ 15) → (1 ≤ x3 ∧ x3 ≤ 16) → (1 ≤ x4 ∧ x4 ≤ 16) → ((-4) ≤ x5 ∧ x5 ≤ (-4)) ∨ (0 ≤ x5 ∧ x5 ≤ 7) → ((-4) ≤ x6 ∧ x6 ≤ (-4)) ∨ (0 ≤ x6 ∧ x6 ≤ 7) → ((-4) ≤ x7 ∧ x7 ≤ (-4)) ∨ (0 ≤ x7 ∧ x7 ≤ 7) → ((-4) ≤ x8 ∧ x8 ≤ (-4)) ∨ (0 ≤ x8 ∧ x8 ≤ 7) → lc L' 0 110 → lc L' 1 6 → li L' 2 (x1 + 1) → li L' 3 (x2 + 1) → am_V none d 81 4 L' ([]) S Q) : am_V none d 81 4 L ([]) S Q := by
  refine sg_use sg_ul_x3b_g hd hP (sg_xs [0, x1, x2]) ⟨⟨Int.le_refl 0, Int.le_refl 0⟩, b1, b2, trivial⟩ trivial trivial trivial ⟨l0, l1, l2, l3, trivial⟩ trivial ?_
  intro z hz x' L' st' S' hx hP' hW hL' hs' hJ hE' hT' hD'
  have q1 : x' 1 = x1 := hx 1 (by decide)
  subst q1
  have q2 : x' 2 = x2 := hx 2 (by decide)
  subst q2
  have eS : S' = S := hW.1 rfl
  subst eS
  simp only [sg_ul_x3b_Z, List.mem_cons, List.not_mem_nil, or_false] at hz
  rcases hz with rfl | rfl | rfl | rfl | rfl
  · obtain ⟨f0, f1, hσ⟩ := hJ
    obtain ⟨e0, e1, e2, -⟩ := hE'
    intro v hv
    subst hv
    cases v with
    | none => exact hs'.elim
    | some v1 =>
      obtain ⟨⟨i1, rfl, g1⟩, -⟩ := hs'
      exact k0 (x' 3) i1 f0 f1 e0 e1 e2 g1
  · obtain ⟨f0, f1, f2, f3, hσ⟩ := hJ
    obtain ⟨e0, e1, e2, e3, -⟩ := hE'
    intro v hv
    subst hv
    cases v with
    | none => exact hs'.elim
    | some v1 =>
      obtain ⟨⟨i1, rfl, g1⟩, -⟩ := hs'
      exact k1 (x' 3) (x' 4) i1 f0 f1 f2 f3 e0 e1 e2 e3 g1
  · obtain ⟨f0, f1, f2, f3, f4, f5, f6, hσ⟩ := hJ
    obtain ⟨e0, e1, e2, e3, e4, e5, -⟩ := hE'
    obtain ⟨p0, p1, p2, p3, -⟩ := hL'
    obtain rfl := sg_tn hs'
    exact k2 (x' 3) (x' 4) (x' 5) (x' 6) L' f0 f1 f2 f3 f4 f5 f6 e0 e1 e2 e3 e4 e5 p0 p1 p2 p3
  · obtain ⟨f0, f1, f2, f3, f4, f5, f6, f7, f8, f9, hσ⟩ := hJ
    obtain ⟨e0, e1, e2, e3, e4, e5, e6, e7, -⟩ := hE'
    obtain ⟨p0, p1, p2, p3, -⟩ := hL'
    obtain rfl := sg_tn hs'
    exact k3 (x' 3) (x' 4) (x' 5) (x' 6) (x' 7) (x' 8) L' f0 f1 f2 f3 f4 f5 f6 f7 f8 f9 e0 e1 e2 e3 e4 e5 e6 e7 p0 p1 p2 p3
  · obtain ⟨f0, f1, f2, f3, f4, f5, f6, f7, f8, f9, hσ⟩ := hJ
    obtain ⟨e0, e1, e2, e3, e4, e5, e6, e7, -⟩ := hE'
    obtain ⟨p0, p1, p2, p3, -⟩ := hL'
    obtain rfl := sg_tn hs'
    exact k4 (x' 3) (x' 4) (x' 5) (x' 6) (x' 7) (x' 8) L' f0 f1 f2 f3 f4 f5 f6 f7 f8 f9 e0 e1 e2 e3 e4 e5 e6 e7 p0 p1 p2 p3
def sg_bk_x13_Z : List sg_z := [(34, [(0, .inr (.inl [0])), (1, .inl (false, (0, .ofNat 0, .ofNat 3)))], [.inr (.inl [6]), .inr (.inl [110]), .inl (false, (2, .ofNat 1, .ofNat 0))], [], [(1, [(.ofNat 3, .ofNat 3)]), (2, [(.ofNat 0, .ofNat 8)])], [], [])]
set_option maxRecDepth 1000000 in
theorem sg_bk_x13_g : sg_go [] [33] 3000 136 23 0 3 [(0, [(.ofNat 0, .ofNat 0)]), (1, [(.ofNat 3, .ofNat 3)]), (2, [(.ofNat 0, .ofNat 8)])] [] [] [] [(0, .inr (.inl [0])), (1, .inl (false, (1, .ofNat 1, .ofNat 0)))] [.inl (false, (2, .ofNat 1, .ofNat 0))] [] sg_bk_x13_Z = true := by decide +kernel
set_option maxRecDepth 100000 in
theorem sg_bk_x13 {Q : Option Value × am_S → Prop} {d : Nat} {S : am_S} {L : am_L} {x1 x2 : Int} {i1 : Int32} (hd : 0 ≤ d) (hP : ax_P0 none S) (l0 : lc L 0 0) (l1 : li L 1 x1) (b1 : (3 ≤ x1 ∧ x1 ≤ 3)) (b2 : (0 ≤ x2 ∧ x2 ≤ 8)) (s1 : i1.toInt = x2)
    (k0 : ∀ (L' : am_L) (i3 : Int32), (3 ≤ x1 ∧ x1 ≤ 3) → (0 ≤ x2 ∧ x2 ≤ 8) → lc L' 0 0 → li L' 1 3 → i3.toInt = x2 → am_V none d 136 33 L' ((.ref 6) :: (.ref 110) :: (.int i3) :: []) S Q) : am_V none d 136 23 L ((.int i1) :: []) S Q := by
  refine sg_use sg_bk_x13_g hd hP (sg_xs [0, x1, x2]) ⟨⟨Int.le_refl 0, Int.le_refl 0⟩, b1, b2, trivial⟩ trivial trivial trivial ⟨l0, l1, trivial⟩ ⟨⟨_, rfl, s1⟩, trivial⟩ ?_
  intro z hz x' L' st' S' hx hP' hW hL' hs' hJ hE' hT' hD'
  have q1 : x' 1 = x1 := hx 1 (by decide)
  subst q1
  have q2 : x' 2 = x2 := hx 2 (by decide)
  subst q2
  have eS : S' = S := hW.1 rfl
  subst eS
  simp only [sg_bk_x13_Z, List.mem_cons, List.not_mem_nil, or_false] at hz
  rcases hz with rfl
  · have hσ := hJ
    obtain ⟨e0, e1, -⟩ := hE'
    obtain ⟨p0, p1, -⟩ := hL'
    obtain ⟨v1, r1, rfl, rfl, hs1⟩ := sg_tc hs'
    obtain ⟨v2, r2, rfl, rfl, hs2⟩ := sg_tc hs1
    obtain ⟨v3, r3, rfl, ⟨i3, rfl, g3⟩, hs3⟩ := sg_tc hs2
    obtain rfl := sg_tn hs3
    exact k0 L' i3 e0 e1 p0 p1 g3
def sg_bk_x23_Z : List sg_z := [(53, [(0, .inr (.inl [0])), (1, .inl (false, (0, .ofNat 0, .ofNat 3))), (2, .inl (false, (4, .ofNat 1, .ofNat 0)))], [.inr (.inl [6]), .inr (.inl [1]), .inr (.inl [110])], [], [(1, [(.ofNat 3, .ofNat 3)]), (2, [(.ofNat 0, .ofNat 16)]), (3, [(.ofNat 0, .ofNat 8)]), (4, [(.ofNat 0, .ofNat 24)])], [((3, .ofNat 1, .ofNat 0), (2, .ofNat 1, .ofNat 0), (4, .ofNat 1, .ofNat 0))], [])]
set_option maxRecDepth 1000000 in
theorem sg_bk_x23_g : sg_go [] [52] 3000 136 36 0 4 [(0, [(.ofNat 0, .ofNat 0)]), (1, [(.ofNat 3, .ofNat 3)]), (2, [(.ofNat 0, .ofNat 16)]), (3, [(.ofNat 0, .ofNat 8)])] [] [] [] [(0, .inr (.inl [0])), (1, .inl (false, (1, .ofNat 1, .ofNat 0)))] [.inl (false, (2, .ofNat 1, .ofNat 0)), .inl (false, (3, .ofNat 1, .ofNat 0))] [] sg_bk_x23_Z = true := by decide +kernel
set_option maxRecDepth 100000 in
theorem sg_bk_x23 {Q : Option Value × am_S → Prop} {d : Nat} {S : am_S} {L : am_L} {x1 x2 x3 : Int} {i1 : Int32} {i2 : Int32} (hd : 0 ≤ d) (hP : ax_P0 none S) (l0 : lc L 0 0) (l1 : li L 1 x1) (b1 : (3 ≤ x1 ∧ x1 ≤ 3)) (b2 : (0 ≤ x2 ∧ x2 ≤ 16)) (b3 : (0 ≤ x3 ∧ x3 ≤ 8)) (s1 : i1.toInt = x2) (s2 : i2.toInt = x3)
    (k0 : ∀ (x4 : Int) (L' : am_L), (3 ≤ x1 ∧ x1 ≤ 3) → (0 ≤ x2 ∧ x2 ≤ 16) → (0 ≤ x3 ∧ x3 ≤ 8) → (0 ≤ x4 ∧ x4 ≤ 24) → x3 + x2 = x4 → lc L' 0 0 → li L' 1 3 → li L' 2 x4 → am_V none d 136 52 L' ((.ref 6) :: (.ref 1) :: (.ref 110) :: []) S Q) : am_V none d 136 36 L ((.int i1) :: (.int i2) :: []) S Q := by
  refine sg_use sg_bk_x23_g hd hP (sg_xs [0, x1, x2, x3]) ⟨⟨Int.le_refl 0, Int.le_refl 0⟩, b1, b2, b3, trivial⟩ trivial trivial trivial ⟨l0, l1, trivial⟩ ⟨⟨_, rfl, s1⟩, ⟨_, rfl, s2⟩, trivial⟩ ?_
  intro z hz x' L' st' S' hx hP' hW hL' hs' hJ hE' hT' hD'
  have q1 : x' 1 = x1 := hx 1 (by decide)
  subst q1
  have q2 : x' 2 = x2 := hx 2 (by decide)
  subst q2
  have q3 : x' 3 = x3 := hx 3 (by decide)
  subst q3
  have eS : S' = S := hW.1 rfl
  subst eS
  simp only [sg_bk_x23_Z, List.mem_cons, List.not_mem_nil, or_false] at hz
  rcases hz with rfl
  · have hσ := hJ
    obtain ⟨e0, e1, e2, e3, -⟩ := hE'
    obtain ⟨t0, -⟩ := hT'
    obtain ⟨p0, p1, p2, -⟩ := hL'
    obtain ⟨v1, r1, rfl, rfl, hs1⟩ := sg_tc hs'
    obtain ⟨v2, r2, rfl, rfl, hs2⟩ := sg_tc hs1
    obtain ⟨v3, r3, rfl, rfl, hs3⟩ := sg_tc hs2
    obtain rfl := sg_tn hs3
    exact k0 (x' 4) L' e0 e1 e2 e3 t0 p0 p1 p2
