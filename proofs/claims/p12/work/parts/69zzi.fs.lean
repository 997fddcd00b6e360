/-! ===== best, offset, rest: what happens from place to place ===== -/
def sg_be_x0_Z : List sg_z := [(0, [], [.inl (true, (0, .ofNat 0, .negSucc 999999999999))], [(2, 0, (0, .ofNat 0, .ofNat 0), (0, .ofNat 0, .ofNat 0), (0, .ofNat 0, .ofNat 0)), (2, 2, (1, .ofNat 1, .ofNat 0), (0, .ofNat 0, .ofNat 0), (0, .ofNat 0, .ofNat 0))], [(1, [(.negSucc 2147483647, .negSucc 0)])], [], []),
  (0, [], [.inl (true, (0, .ofNat 0, .negSucc 999999999999))], [(2, 0, (0, .ofNat 0, .ofNat 0), (0, .ofNat 0, .ofNat 0), (0, .ofNat 0, .ofNat 0)), (2, 3, (1, .ofNat 1, .ofNat 0), (3, .ofNat 1, .ofNat 0), (0, .ofNat 0, .ofNat 0)), (0, 1, (0, .ofNat 0, .ofNat 0), (3, .ofNat 1, .ofNat 0), (0, .ofNat 0, .ofNat 0)), (2, 3, (1, .ofNat 1, .ofNat 0), (0, .ofNat 0, .ofNat 0), (0, .ofNat 0, .ofNat 0))], [(1, [(.ofNat 0, .ofNat 2147483647)]), (3, [(.ofNat 0, .ofNat 8)])], [], []),
  (0, [], [.inl (true, (0, .ofNat 0, .negSucc 999999999999))], [(2, 2, (2, .ofNat 1, .ofNat 0), (0, .ofNat 0, .ofNat 0), (0, .ofNat 0, .ofNat 0)), (2, 1, (0, .ofNat 0, .ofNat 1), (0, .ofNat 0, .ofNat 0), (0, .ofNat 0, .ofNat 0)), (2, 2, (1, .ofNat 1, .ofNat 0), (3, .ofNat 1, .ofNat 0), (0, .ofNat 0, .ofNat 0)), (0, 1, (0, .ofNat 0, .ofNat 0), (3, .ofNat 1, .ofNat 0), (0, .ofNat 0, .ofNat 0)), (2, 3, (1, .ofNat 1, .ofNat 0), (0, .ofNat 0, .ofNat 0), (0, .ofNat 0, .ofNat 0))], [(1, [(.ofNat 0, .ofNat 7)]), (2, [(.negSucc 2147483647, .negSucc 0)]), (3, [(.ofNat 1, .ofNat 8)])], [], []),
  (26, [(0, .inr (.inl [0])), (1, .inl (false, (1, .ofNat 1, .ofNat 0))), (2, .inl (false, (2, .ofNat 1, .ofNat 0)))], [.inr (.inl [0])], [(2, 5, (2, .ofNat 1, .ofNat 0), (0, .ofNat 0, .ofNat 1), (0, .ofNat 0, .ofNat 0)), (2, 3, (2, .ofNat 1, .ofNat 0), (0, .ofNat 0, .ofNat 0), (0, .ofNat 0, .ofNat 0)), (2, 1, (0, .ofNat 0, .ofNat 1), (0, .ofNat 0, .ofNat 0), (0, .ofNat 0, .ofNat 0)), (2, 2, (1, .ofNat 1, .ofNat 0), (3, .ofNat 1, .ofNat 0), (0, .ofNat 0, .ofNat 0)), (0, 1, (0, .ofNat 0, .ofNat 0), (3, .ofNat 1, .ofNat 0), (0, .ofNat 0, .ofNat 0)), (2, 3, (1, .ofNat 1, .ofNat 0), (0, .ofNat 0, .ofNat 0), (0, .ofNat 0, .ofNat 0))], [(1, [(.ofNat 0, .ofNat 7)]), (2, [(.ofNat 0, .ofNat 1)]), (3, [(.ofNat 1, .ofNat 8)])], [], []),
  (0, [], [.inl (true, (0, .ofNat 0, .negSucc 999999999999))], [(2, 4, (2, .ofNat 1, .ofNat 0), (0, .ofNat 0, .ofNat 1), (0, .ofNat 0, .ofNat 0)), (2, 3, (2, .ofNat 1, .ofNat 0), (0, .ofNat 0, .ofNat 0), (0, .ofNat 0, .ofNat 0)), (2, 1, (0, .ofNat 0, .ofNat 1), (0, .ofNat 0, .ofNat 0), (0, .ofNat 0, .ofNat 0)), (2, 2, (1, .ofNat 1, .ofNat 0), (3, .ofNat 1, .ofNat 0), (0, .ofNat 0, .ofNat 0)), (0, 1, (0, .ofNat 0, .ofNat 0), (3, .ofNat 1, .ofNat 0), (0, .ofNat 0, .ofNat 0)), (2, 3, (1, .ofNat 1, .ofNat 0), (0, .ofNat 0, .ofNat 0), (0, .ofNat 0, .ofNat 0))], [(1, [(.ofNat 0, .ofNat 7)]), (2, [(.ofNat 2, .ofNat 2147483647)]), (3, [(.ofNat 1, .ofNat 8)])], [], [])]
set_option maxRecDepth 1000000 in
theorem sg_be_x0_g : sg_go [] [25] 3000 110 0 1 3 [(0, [(.ofNat 0, .ofNat 0)]), (1, [(.negSucc 2147483647, .ofNat 2147483647)]), (2, [(.negSucc 2147483647, .ofNat 2147483647)])] [] [] [] [(0, .inr (.inl [0])), (1, .inl (false, (1, .ofNat 1, .ofNat 0))), (2, .inl (false, (2, .ofNat 1, .ofNat 0)))] [] [] sg_be_x0_Z = true := by decide +kernel
set_option maxRecDepth 100000 in
theorem sg_be_x0 {Q : Option Value × am_S → Prop} {d : Nat} {S : am_S} {L : am_L} {x1 x2 : Int} (hd : 1 ≤ d) (hP : ax_P0 none S) (l0 : lc L 0 0) (l1 : li L 1 x1) (l2 : li L 2 x2) (b1 : ((-2147483648) ≤ x1 ∧ x1 ≤ 2147483647)) (b2 : ((-2147483648) ≤ x2 ∧ x2 ≤ 2147483647))
    (k0 : ∀ (i1 : Int64), x1 < 0 → ((-2147483648) ≤ x1 ∧ x1 ≤ (-1)) → i1.toInt = (-1000000000000) → Q (some (.long i1), S))
    (k1 : ∀ (x3 : Int) (i1 : Int64), 0 ≤ x1 → rd S 1 0 = x3 → x3 ≤ x1 → (0 ≤ x1 ∧ x1 ≤ 2147483647) → (0 ≤ x3 ∧ x3 ≤ 8) → i1.toInt = (-1000000000000) → Q (some (.long i1), S))
    (k2 : ∀ (x3 : Int) (i1 : Int64), 0 ≤ x1 → rd S 1 0 = x3 → x1 < x3 → x2 < 0 → (0 ≤ x1 ∧ x1 ≤ 7) → ((-2147483648) ≤ x2 ∧ x2 ≤ (-1)) → (1 ≤ x3 ∧ x3 ≤ 8) → i1.toInt = (-1000000000000) → Q (some (.long i1), S))
    (k3 : ∀ (x3 : Int) (L' : am_L), 0 ≤ x1 → rd S 1 0 = x3 → x1 < x3 → 0 ≤ x2 → x2 ≤ 1 → (0 ≤ x1 ∧ x1 ≤ 7) → (0 ≤ x2 ∧ x2 ≤ 1) → (1 ≤ x3 ∧ x3 ≤ 8) → lc L' 0 0 → li L' 1 x1 → li L' 2 x2 → am_V none d 110 25 L' ((.ref 0) :: []) S Q)
    (k4 : ∀ (x3 : Int) (i1 : Int64), 0 ≤ x1 → rd S 1 0 = x3 → x1 < x3 → 0 ≤ x2 → 1 < x2 → (0 ≤ x1 ∧ x1 ≤ 7) → (2 ≤ x2 ∧ x2 ≤ 2147483647) → (1 ≤ x3 ∧ x3 ≤ 8) → i1.toInt = (-1000000000000) → Q (some (.long i1), S)) : am_V none d 110 0 L ([]) S Q := by
  refine sg_use sg_be_x0_g hd hP (sg_xs [0, x1, x2]) ⟨⟨Int.le_refl 0, Int.le_refl 0⟩, b1, b2, trivial⟩ trivial trivial trivial ⟨l0, l1, l2, trivial⟩ trivial ?_
  intro z hz x' L' st' S' hx hP' hW hL' hs' hJ hE' hT' hD'
  have q1 : x' 1 = x1 := hx 1 (by decide)
  subst q1
  have q2 : x' 2 = x2 := hx 2 (by decide)
  subst q2
  have eS : S' = S := hW.1 rfl
  subst eS
  simp only [sg_be_x0_Z, List.mem_cons, List.not_mem_nil, or_false] at hz
  rcases hz with rfl | rfl | rfl | rfl | rfl
  · obtain ⟨f0, -, hσ⟩ := hJ
    obtain ⟨e0, -⟩ := hE'
    intro v hv
    subst hv
    cases v with
    | none => exact hs'.elim
    | some v1 =>
      obtain ⟨⟨i1, rfl, g1⟩, -⟩ := hs'
      exact k0 i1 f0 e0 g1
  · obtain ⟨f0, f1, f2, -, hσ⟩ := hJ
    obtain ⟨e0, e1, -⟩ := hE'
    intro v hv
    subst hv
    cases v with
    | none => exact hs'.elim
    | some v1 =>
      obtain ⟨⟨i1, rfl, g1⟩, -⟩ := hs'
      exact k1 (x' 3) i1 f0 f1 f2 e0 e1 g1
  · obtain ⟨f0, f1, f2, -, f4, hσ⟩ := hJ
    obtain ⟨e0, e1, e2, -⟩ := hE'
    intro v hv
    subst hv
    cases v with
    | none => exact hs'.elim
    | some v1 =>
      obtain ⟨⟨i1, rfl, g1⟩, -⟩ := hs'
      exact k2 (x' 3) i1 f0 f1 f2 f4 e0 e1 e2 g1
  · obtain ⟨f0, f1, f2, -, f4, f5, hσ⟩ := hJ
    obtain ⟨e0, e1, e2, -⟩ := hE'
    obtain ⟨p0, p1, p2, -⟩ := hL'
    obtain ⟨v1, r1, rfl, rfl, hs1⟩ := sg_tc hs'
    obtain rfl := sg_tn hs1
    exact k3 (x' 3) L' f0 f1 f2 f4 f5 e0 e1 e2 p0 p1 p2
  · obtain ⟨f0, f1, f2, -, f4, f5, hσ⟩ := hJ
    obtain ⟨e0, e1, e2, -⟩ := hE'
    intro v hv
    subst hv
    cases v with
    | none => exact hs'.elim
    | some v1 =>
      obtain ⟨⟨i1, rfl, g1⟩, -⟩ := hs'
      exact k4 (x' 3) i1 f0 f1 f2 f4 f5 e0 e1 e2 g1
def sg_be_m0_Z : List sg_z := [(0, [], [.inl (true, (0, .ofNat 0, .negSucc 999999999999))], [(2, 0, (0, .ofNat 0, .ofNat 0), (0, .ofNat 0, .ofNat 0), (0, .ofNat 0, .ofNat 0)), (2, 2, (1, .ofNat 1, .ofNat 0), (0, .ofNat 0, .ofNat 0), (0, .ofNat 0, .ofNat 0)), (0, 122, (0, .ofNat 0, .ofNat 0), (3, .ofNat 1, .ofNat 0), (0, .ofNat 0, .ofNat 0))], [(1, [(.negSucc 2147483647, .negSucc 0)]), (3, [(.ofNat 0, .ofNat 8)])], [], []),
  (0, [], [.inl (true, (0, .ofNat 0, .negSucc 999999999999))], [(2, 0, (0, .ofNat 0, .ofNat 0), (0, .ofNat 0, .ofNat 0), (0, .ofNat 0, .ofNat 0)), (2, 4, (1, .ofNat 1, .ofNat 0), (3, .ofNat 1, .negSucc 0), (0, .ofNat 0, .ofNat 0)), (2, 3, (1, .ofNat 1, .ofNat 0), (0, .ofNat 0, .ofNat 0), (0, .ofNat 0, .ofNat 0)), (0, 122, (0, .ofNat 0, .ofNat 0), (3, .ofNat 1, .ofNat 0), (0, .ofNat 0, .ofNat 0))], [(1, [(.ofNat 0, .ofNat 2147483647)]), (3, [(.ofNat 0, .ofNat 8)])], [], []),
  (0, [], [.inl (true, (0, .ofNat 0, .negSucc 999999999999))], [(2, 0, (0, .ofNat 0, .ofNat 0), (0, .ofNat 0, .ofNat 0), (0, .ofNat 0, .ofNat 0)), (2, 2, (2, .ofNat 1, .ofNat 0), (0, .ofNat 0, .ofNat 0), (0, .ofNat 0, .ofNat 0)), (2, 1, (0, .ofNat 0, .ofNat 1), (0, .ofNat 0, .ofNat 0), (0, .ofNat 0, .ofNat 0)), (2, 5, (1, .ofNat 1, .ofNat 0), (3, .ofNat 1, .negSucc 0), (0, .ofNat 0, .ofNat 0)), (2, 3, (1, .ofNat 1, .ofNat 0), (0, .ofNat 0, .ofNat 0), (0, .ofNat 0, .ofNat 0)), (0, 122, (0, .ofNat 0, .ofNat 0), (3, .ofNat 1, .ofNat 0), (0, .ofNat 0, .ofNat 0))], [(1, [(.ofNat 0, .ofNat 7)]), (2, [(.negSucc 2147483647, .negSucc 0)]), (3, [(.ofNat 1, .ofNat 8)])], [], []),
  (0, [], [.inl (true, (0, .ofNat 0, .negSucc 999999999999))], [(2, 0, (0, .ofNat 0, .ofNat 0), (0, .ofNat 0, .ofNat 0), (0, .ofNat 0, .ofNat 0)), (2, 4, (2, .ofNat 1, .ofNat 0), (0, .ofNat 0, .ofNat 1), (0, .ofNat 0, .ofNat 0)), (2, 3, (2, .ofNat 1, .ofNat 0), (0, .ofNat 0, .ofNat 0), (0, .ofNat 0, .ofNat 0)), (2, 1, (0, .ofNat 0, .ofNat 1), (0, .ofNat 0, .ofNat 0), (0, .ofNat 0, .ofNat 0)), (2, 5, (1, .ofNat 1, .ofNat 0), (3, .ofNat 1, .negSucc 0), (0, .ofNat 0, .ofNat 0)), (2, 3, (1, .ofNat 1, .ofNat 0), (0, .ofNat 0, .ofNat 0), (0, .ofNat 0, .ofNat 0)), (0, 122, (0, .ofNat 0, .ofNat 0), (3, .ofNat 1, .ofNat 0), (0, .ofNat 0, .ofNat 0))], [(1, [(.ofNat 0, .ofNat 7)]), (2, [(.ofNat 2, .ofNat 2147483647)]), (3, [(.ofNat 1, .ofNat 8)])], [], []),
  (25, [(0, .inr (.inl [122])), (1, .inl (false, (1, .ofNat 1, .ofNat 0))), (2, .inl (false, (2, .ofNat 1, .ofNat 0)))], [.inl (false, (1, .ofNat 1, .ofNat 0)), .inr (.inl [122])], [(2, 1, (0, .ofNat 0, .ofNat 1), (0, .ofNat 0, .ofNat 0), (0, .ofNat 0, .ofNat 0)), (2, 5, (2, .ofNat 1, .ofNat 0), (0, .ofNat 0, .ofNat 1), (0, .ofNat 0, .ofNat 0)), (2, 3, (2, .ofNat 1, .ofNat 0), (0, .ofNat 0, .ofNat 0), (0, .ofNat 0, .ofNat 0)), (2, 1, (0, .ofNat 0, .ofNat 1), (0, .ofNat 0, .ofNat 0), (0, .ofNat 0, .ofNat 0)), (2, 5, (1, .ofNat 1, .ofNat 0), (3, .ofNat 1, .negSucc 0), (0, .ofNat 0, .ofNat 0)), (2, 3, (1, .ofNat 1, .ofNat 0), (0, .ofNat 0, .ofNat 0), (0, .ofNat 0, .ofNat 0)), (0, 122, (0, .ofNat 0, .ofNat 0), (3, .ofNat 1, .ofNat 0), (0, .ofNat 0, .ofNat 0))], [(1, [(.ofNat 0, .ofNat 7)]), (2, [(.ofNat 0, .ofNat 1)]), (3, [(.ofNat 1, .ofNat 8)])], [], [])]
set_option maxRecDepth 1000000 in
theorem sg_be_m0_g : sg_go [] [24] 3000 192 0 2 3 [(0, [(.ofNat 0, .ofNat 0)]), (1, [(.negSucc 2147483647, .ofNat 2147483647)]), (2, [(.negSucc 2147483647, .ofNat 2147483647)])] [] [] [] [(0, .inr (.inl [122])), (1, .inl (false, (1, .ofNat 1, .ofNat 0))), (2, .inl (false, (2, .ofNat 1, .ofNat 0)))] [] [] sg_be_m0_Z = true := by decide +kernel
set_option maxRecDepth 100000 in
theorem sg_be_m0 {Q : Option Value × am_S → Prop} {d : Nat} {S : am_S} {L : am_L} {x1 x2 : Int} (hd : 2 ≤ d) (hP : ax_P0 none S) (l0 : lc L 0 122) (l1 : li L 1 x1) (l2 : li L 2 x2) (b1 : ((-2147483648) ≤ x1 ∧ x1 ≤ 2147483647)) (b2 : ((-2147483648) ≤ x2 ∧ x2 ≤ 2147483647))
    (k0 : ∀ (x3 : Int) (i1 : Int64), rd S 122 0 = x3 → x1 < 0 → ((-2147483648) ≤ x1 ∧ x1 ≤ (-1)) → (0 ≤ x3 ∧ x3 ≤ 8) → i1.toInt = (-1000000000000) → Q (some (.long i1), S))
    (k1 : ∀ (x3 : Int) (i1 : Int64), rd S 122 0 = x3 → 0 ≤ x1 → x3 + (-1) < x1 → (0 ≤ x1 ∧ x1 ≤ 2147483647) → (0 ≤ x3 ∧ x3 ≤ 8) → i1.toInt = (-1000000000000) → Q (some (.long i1), S))
    (k2 : ∀ (x3 : Int) (i1 : Int64), rd S 122 0 = x3 → 0 ≤ x1 → x1 ≤ x3 + (-1) → x2 < 0 → (0 ≤ x1 ∧ x1 ≤ 7) → ((-2147483648) ≤ x2 ∧ x2 ≤ (-1)) → (1 ≤ x3 ∧ x3 ≤ 8) → i1.toInt = (-1000000000000) → Q (some (.long i1), S))
    (k3 : ∀ (x3 : Int) (i1 : Int64), rd S 122 0 = x3 → 0 ≤ x1 → x1 ≤ x3 + (-1) → 0 ≤ x2 → 1 < x2 → (0 ≤ x1 ∧ x1 ≤ 7) → (2 ≤ x2 ∧ x2 ≤ 2147483647) → (1 ≤ x3 ∧ x3 ≤ 8) → i1.toInt = (-1000000000000) → Q (some (.long i1), S))
    (k4 : ∀ (x3 : Int) (L' : am_L) (i1 : Int32), rd S 122 0 = x3 → 0 ≤ x1 → x1 ≤ x3 + (-1) → 0 ≤ x2 → x2 ≤ 1 → (0 ≤ x1 ∧ x1 ≤ 7) → (0 ≤ x2 ∧ x2 ≤ 1) → (1 ≤ x3 ∧ x3 ≤ 8) → lc L' 0 122 → li L' 1 x1 → li L' 2 x2 → i1.toInt = x1 → am_V none d 192 24 L' ((.int i1) :: (.ref 122) :: []) S Q) : am_V none d 192 0 L ([]) S Q := by
  refine sg_use sg_be_m0_g hd hP (sg_xs [0, x1, x2]) ⟨⟨Int.le_refl 0, Int.le_refl 0⟩, b1, b2, trivial⟩ trivial trivial trivial ⟨l0, l1, l2, trivial⟩ trivial ?_
  intro z hz x' L' st' S' hx hP' hW hL' hs' hJ hE' hT' hD'
  have q1 : x' 1 = x1 := hx 1 (by decide)
  subst q1
  have q2 : x' 2 = x2 := hx 2 (by decide)
  subst q2
  have eS : S' = S := hW.1 rfl
  subst eS
  simp only [sg_be_m0_Z, List.mem_cons, List.not_mem_nil, or_false] at hz
  rcases hz with rfl | rfl | rfl | rfl | rfl
  · obtain ⟨f0, f1, -, hσ⟩ := hJ
    obtain ⟨e0, e1, -⟩ := hE'
    intro v hv
    subst hv
    cases v with
    | none => exact hs'.elim
    | some v1 =>
      obtain ⟨⟨i1, rfl, g1⟩, -⟩ := hs'
      exact k0 (x' 3) i1 f0 f1 e0 e1 g1
  · obtain ⟨f0, f1, f2, -, hσ⟩ := hJ
    obtain ⟨e0, e1, -⟩ := hE'
    intro v hv
    subst hv
    cases v with
    | none => exact hs'.elim
    | some v1 =>
      obtain ⟨⟨i1, rfl, g1⟩, -⟩ := hs'
      exact k1 (x' 3) i1 f0 f1 f2 e0 e1 g1
  · obtain ⟨f0, f1, f2, -, f4, -, hσ⟩ := hJ
    obtain ⟨e0, e1, e2, -⟩ := hE'
    intro v hv
    subst hv
    cases v with
    | none => exact hs'.elim
    | some v1 =>
      obtain ⟨⟨i1, rfl, g1⟩, -⟩ := hs'
      exact k2 (x' 3) i1 f0 f1 f2 f4 e0 e1 e2 g1
  · obtain ⟨f0, f1, f2, -, f4, f5, -, hσ⟩ := hJ
    obtain ⟨e0, e1, e2, -⟩ := hE'
    intro v hv
    subst hv
    cases v with
    | none => exact hs'.elim
    | some v1 =>
      obtain ⟨⟨i1, rfl, g1⟩, -⟩ := hs'
      exact k3 (x' 3) i1 f0 f1 f2 f4 f5 e0 e1 e2 g1
  · obtain ⟨f0, f1, f2, -, f4, f5, -, hσ⟩ := hJ
    obtain ⟨e0, e1, e2, -⟩ := hE'
    obtain ⟨p0, p1, p2, -⟩ := hL'
    obtain ⟨v1, r1, rfl, ⟨i1, rfl, g1⟩, hs1⟩ := sg_tc hs'
    obtain ⟨v2, r2, rfl, rfl, hs2⟩ := sg_tc hs1
    obtain rfl := sg_tn hs2
    exact k4 (x' 3) L' i1 f0 f1 f2 f4 f5 e0 e1 e2 p0 p1 p2 g1
def sg_of_x0_Z : List sg_z := [(0, [], [.inl (true, (0, .ofNat 0, .negSucc 999999999999))], [(2, 0, (0, .ofNat 0, .ofNat 0), (0, .ofNat 0, .ofNat 0), (0, .ofNat 0, .ofNat 0)), (2, 2, (1, .ofNat 1, .ofNat 0), (0, .ofNat 0, .ofNat 0), (0, .ofNat 0, .ofNat 0))], [(1, [(.negSucc 2147483647, .negSucc 0)])], [], []),
  (0, [], [.inl (true, (0, .ofNat 0, .negSucc 999999999999))], [(2, 0, (0, .ofNat 0, .ofNat 0), (0, .ofNat 0, .ofNat 0), (0, .ofNat 0, .ofNat 0)), (2, 3, (1, .ofNat 1, .ofNat 0), (0, .ofNat 0, .ofNat 4), (0, .ofNat 0, .ofNat 0)), (2, 3, (1, .ofNat 1, .ofNat 0), (0, .ofNat 0, .ofNat 0), (0, .ofNat 0, .ofNat 0))], [(1, [(.ofNat 4, .ofNat 2147483647)])], [], []),
  (0, [], [.inl (true, (0, .ofNat 0, .negSucc 999999999999))], [(2, 2, (2, .ofNat 1, .ofNat 0), (0, .ofNat 0, .ofNat 0), (0, .ofNat 0, .ofNat 0)), (2, 1, (0, .ofNat 0, .ofNat 1), (0, .ofNat 0, .ofNat 0), (0, .ofNat 0, .ofNat 0)), (2, 2, (1, .ofNat 1, .ofNat 0), (0, .ofNat 0, .ofNat 4), (0, .ofNat 0, .ofNat 0)), (2, 3, (1, .ofNat 1, .ofNat 0), (0, .ofNat 0, .ofNat 0), (0, .ofNat 0, .ofNat 0))], [(1, [(.ofNat 0, .ofNat 3)]), (2, [(.negSucc 2147483647, .negSucc 0)])], [], []),
  (22, [(0, .inr (.inl [0])), (1, .inl (false, (1, .ofNat 1, .ofNat 0))), (2, .inl (false, (2, .ofNat 1, .ofNat 0)))], [.inr (.inl [0])], [(2, 5, (2, .ofNat 1, .ofNat 0), (0, .ofNat 0, .ofNat 1), (0, .ofNat 0, .ofNat 0)), (2, 3, (2, .ofNat 1, .ofNat 0), (0, .ofNat 0, .ofNat 0), (0, .ofNat 0, .ofNat 0)), (2, 1, (0, .ofNat 0, .ofNat 1), (0, .ofNat 0, .ofNat 0), (0, .ofNat 0, .ofNat 0)), (2, 2, (1, .ofNat 1, .ofNat 0), (0, .ofNat 0, .ofNat 4), (0, .ofNat 0, .ofNat 0)), (2, 3, (1, .ofNat 1, .ofNat 0), (0, .ofNat 0, .ofNat 0), (0, .ofNat 0, .ofNat 0))], [(1, [(.ofNat 0, .ofNat 3)]), (2, [(.ofNat 0, .ofNat 1)])], [], []),
  (0, [], [.inl (true, (0, .ofNat 0, .negSucc 999999999999))], [(2, 4, (2, .ofNat 1, .ofNat 0), (0, .ofNat 0, .ofNat 1), (0, .ofNat 0, .ofNat 0)), (2, 3, (2, .ofNat 1, .ofNat 0), (0, .ofNat 0, .ofNat 0), (0, .ofNat 0, .ofNat 0)), (2, 1, (0, .ofNat 0, .ofNat 1), (0, .ofNat 0, .ofNat 0), (0, .ofNat 0, .ofNat 0)), (2, 2, (1, .ofNat 1, .ofNat 0), (0, .ofNat 0, .ofNat 4), (0, .ofNat 0, .ofNat 0)), (2, 3, (1, .ofNat 1, .ofNat 0), (0, .ofNat 0, .ofNat 0), (0, .ofNat 0, .ofNat 0))], [(1, [(.ofNat 0, .ofNat 3)]), (2, [(.ofNat 2, .ofNat 2147483647)])], [], [])]
set_option maxRecDepth 1000000 in
theorem sg_of_x0_g : sg_go [] [21] 3000 132 0 1 3 [(0, [(.ofNat 0, .ofNat 0)]), (1, [(.negSucc 2147483647, .ofNat 2147483647)]), (2, [(.negSucc 2147483647, .ofNat 2147483647)])] [] [] [] [(0, .inr (.inl [0])), (1, .inl (false, (1, .ofNat 1, .ofNat 0))), (2, .inl (false, (2, .ofNat 1, .ofNat 0)))] [] [] sg_of_x0_Z = true := by decide +kernel
set_option maxRecDepth 100000 in
theorem sg_of_x0 {Q : Option Value × am_S → Prop} {d : Nat} {S : am_S} {L : am_L} {x1 x2 : Int} (hd : 1 ≤ d) (hP : ax_P0 none S) (l0 : lc L 0 0) (l1 : li L 1 x1) (l2 : li L 2 x2) (b1 : ((-2147483648) ≤ x1 ∧ x1 ≤ 2147483647)) (b2 : ((-2147483648) ≤ x2 ∧ x2 ≤ 2147483647))
    (k0 : ∀ (i1 : Int64), x1 < 0 → ((-2147483648) ≤ x1 ∧ x1 ≤ (-1)) → i1.toInt = (-1000000000000) → Q (some (.long i1), S))
    (k1 : ∀ (i1 : Int64), 0 ≤ x1 → 4 ≤ x1 → (4 ≤ x1 ∧ x1 ≤ 2147483647) → i1.toInt = (-1000000000000) → Q (some (.long i1), S))
    (k2 : ∀ (i1 : Int64), 0 ≤ x1 → x1 < 4 → x2 < 0 → (0 ≤ x1 ∧ x1 ≤ 3) → ((-2147483648) ≤ x2 ∧ x2 ≤ (-1)) → i1.toInt = (-1000000000000) → Q (some (.long i1), S))
    (k3 : ∀ (L' : am_L), 0 ≤ x1 → x1 < 4 → 0 ≤ x2 → x2 ≤ 1 → (0 ≤ x1 ∧ x1 ≤ 3) → (0 ≤ x2 ∧ x2 ≤ 1) → lc L' 0 0 → li L' 1 x1 → li L' 2 x2 → am_V none d 132 21 L' ((.ref 0) :: []) S Q)
    (k4 : ∀ (i1 : Int64), 0 ≤ x1 → x1 < 4 → 0 ≤ x2 → 1 < x2 → (0 ≤ x1 ∧ x1 ≤ 3) → (2 ≤ x2 ∧ x2 ≤ 2147483647) → i1.toInt = (-1000000000000) → Q (some (.long i1), S)) : am_V none d 132 0 L ([]) S Q := by
  refine sg_use sg_of_x0_g hd hP (sg_xs [0, x1, x2]) ⟨⟨Int.le_refl 0, Int.le_refl 0⟩, b1, b2, trivial⟩ trivial trivial trivial ⟨l0, l1, l2, trivial⟩ trivial ?_
  intro z hz x' L' st' S' hx hP' hW hL' hs' hJ hE' hT' hD'
  have q1 : x' 1 = x1 := hx 1 (by decide)
  subst q1
  have q2 : x' 2 = x2 := hx 2 (by decide)
  subst q2
  have eS : S' = S := hW.1 rfl
  subst eS
  simp only [sg_of_x0_Z, List.mem_cons, List.not_mem_nil, or_false] at hz
  rcases hz with rfl | rfl | rfl | rfl | rfl
  · obtain ⟨f0, -, hσ⟩ := hJ
    obtain ⟨e0, -⟩ := hE'
    intro v hv
    subst hv
    cases v with
    | none => exact hs'.elim
    | some v1 =>
      obtain ⟨⟨i1, rfl, g1⟩, -⟩ := hs'
      exact k0 i1 f0 e0 g1
  · obtain ⟨f0, f1, -, hσ⟩ := hJ
    obtain ⟨e0, -⟩ := hE'
    intro v hv
    subst hv
    cases v with
    | none => exact hs'.elim
    | some v1 =>
      obtain ⟨⟨i1, rfl, g1⟩, -⟩ := hs'
      exact k1 i1 f0 f1 e0 g1
  · obtain ⟨f0, f1, -, f3, hσ⟩ := hJ
    obtain ⟨e0, e1, -⟩ := hE'
    intro v hv
    subst hv
    cases v with
    | none => exact hs'.elim
    | some v1 =>
      obtain ⟨⟨i1, rfl, g1⟩, -⟩ := hs'
      exact k2 i1 f0 f1 f3 e0 e1 g1
  · obtain ⟨f0, f1, -, f3, f4, hσ⟩ := hJ
    obtain ⟨e0, e1, -⟩ := hE'
    obtain ⟨p0, p1, p2, -⟩ := hL'
    obtain ⟨v1, r1, rfl, rfl, hs1⟩ := sg_tc hs'
    obtain rfl := sg_tn hs1
    exact k3 L' f0 f1 f3 f4 e0 e1 p0 p1 p2
  · obtain ⟨f0, f1, -, f3, f4, hσ⟩ := hJ
    obtain ⟨e0, e1, -⟩ := hE'
    intro v hv
    subst hv
    cases v with
    | none => exact hs'.elim
    | some v1 =>
      obtain ⟨⟨i1, rfl, g1⟩, -⟩ := hs'
      exact k4 i1 f0 f1 f3 f4 e0 e1 g1
def sg_of_m0_Z : List sg_z := [(0, [], [.inl (true, (0, .ofNat 0, .negSucc 999999999999))], [(2, 0, (0, .ofNat 0, .ofNat 0), (0, .ofNat 0, .ofNat 0), (0, .ofNat 0, .ofNat 0)), (2, 2, (1, .ofNat 1, .ofNat 0), (0, .ofNat 0, .ofNat 0), (0, .ofNat 0, .ofNat 0))], [(1, [(.negSucc 2147483647, .negSucc 0)])], [], []),
  (0, [], [.inl (true, (0, .ofNat 0, .negSucc 999999999999))], [(2, 0, (0, .ofNat 0, .ofNat 0), (0, .ofNat 0, .ofNat 0), (0, .ofNat 0, .ofNat 0)), (2, 4, (1, .ofNat 1, .ofNat 0), (0, .ofNat 0, .ofNat 3), (0, .ofNat 0, .ofNat 0)), (2, 3, (1, .ofNat 1, .ofNat 0), (0, .ofNat 0, .ofNat 0), (0, .ofNat 0, .ofNat 0))], [(1, [(.ofNat 4, .ofNat 2147483647)])], [], []),
  (0, [], [.inl (true, (0, .ofNat 0, .negSucc 999999999999))], [(2, 0, (0, .ofNat 0, .ofNat 0), (0, .ofNat 0, .ofNat 0), (0, .ofNat 0, .ofNat 0)), (2, 2, (2, .ofNat 1, .ofNat 0), (0, .ofNat 0, .ofNat 0), (0, .ofNat 0, .ofNat 0)), (2, 1, (0, .ofNat 0, .ofNat 1), (0, .ofNat 0, .ofNat 0), (0, .ofNat 0, .ofNat 0)), (2, 5, (1, .ofNat 1, .ofNat 0), (0, .ofNat 0, .ofNat 3), (0, .ofNat 0, .ofNat 0)), (2, 3, (1, .ofNat 1, .ofNat 0), (0, .ofNat 0, .ofNat 0), (0, .ofNat 0, .ofNat 0))], [(1, [(.ofNat 0, .ofNat 3)]), (2, [(.negSucc 2147483647, .negSucc 0)])], [], []),
  (0, [], [.inl (true, (0, .ofNat 0, .negSucc 999999999999))], [(2, 0, (0, .ofNat 0, .ofNat 0), (0, .ofNat 0, .ofNat 0), (0, .ofNat 0, .ofNat 0)), (2, 4, (2, .ofNat 1, .ofNat 0), (0, .ofNat 0, .ofNat 1), (0, .ofNat 0, .ofNat 0)), (2, 3, (2, .ofNat 1, .ofNat 0), (0, .ofNat 0, .ofNat 0), (0, .ofNat 0, .ofNat 0)), (2, 1, (0, .ofNat 0, .ofNat 1), (0, .ofNat 0, .ofNat 0), (0, .ofNat 0, .ofNat 0)), (2, 5, (1, .ofNat 1, .ofNat 0), (0, .ofNat 0, .ofNat 3), (0, .ofNat 0, .ofNat 0)), (2, 3, (1, .ofNat 1, .ofNat 0), (0, .ofNat 0, .ofNat 0), (0, .ofNat 0, .ofNat 0))], [(1, [(.ofNat 0, .ofNat 3)]), (2, [(.ofNat 2, .ofNat 2147483647)])], [], []),
  (29, [(0, .inr (.inl [122])), (1, .inl (false, (1, .ofNat 1, .ofNat 0))), (2, .inl (false, (2, .ofNat 1, .ofNat 0)))], [.inl (false, (1, .ofNat 1, .ofNat 0)), .inr (.inl [122])], [(2, 1, (0, .ofNat 0, .ofNat 1), (0, .ofNat 0, .ofNat 0), (0, .ofNat 0, .ofNat 0)), (2, 5, (2, .ofNat 1, .ofNat 0), (0, .ofNat 0, .ofNat 1), (0, .ofNat 0, .ofNat 0)), (2, 3, (2, .ofNat 1, .ofNat 0), (0, .ofNat 0, .ofNat 0), (0, .ofNat 0, .ofNat 0)), (2, 1, (0, .ofNat 0, .ofNat 1), (0, .ofNat 0, .ofNat 0), (0, .ofNat 0, .ofNat 0)), (2, 5, (1, .ofNat 1, .ofNat 0), (0, .ofNat 0, .ofNat 3), (0, .ofNat 0, .ofNat 0)), (2, 3, (1, .ofNat 1, .ofNat 0), (0, .ofNat 0, .ofNat 0), (0, .ofNat 0, .ofNat 0))], [(1, [(.ofNat 0, .ofNat 3)]), (2, [(.ofNat 0, .ofNat 1)])], [], [])]
set_option maxRecDepth 1000000 in
theorem sg_of_m0_g : sg_go [] [28] 3000 238 0 1 3 [(0, [(.ofNat 0, .ofNat 0)]), (1, [(.negSucc 2147483647, .ofNat 2147483647)]), (2, [(.negSucc 2147483647, .ofNat 2147483647)])] [] [] [] [(0, .inr (.inl [122])), (1, .inl (false, (1, .ofNat 1, .ofNat 0))), (2, .inl (false, (2, .ofNat 1, .ofNat 0)))] [] [] sg_of_m0_Z = true := by decide +kernel
set_option maxRecDepth 100000 in
theorem sg_of_m0 {Q : Option Value × am_S → Prop} {d : Nat} {S : am_S} {L : am_L} {x1 x2 : Int} (hd : 1 ≤ d) (hP : ax_P0 none S) (l0 : lc L 0 122) (l1 : li L 1 x1) (l2 : li L 2 x2) (b1 : ((-2147483648) ≤ x1 ∧ x1 ≤ 2147483647)) (b2 : ((-2147483648) ≤ x2 ∧ x2 ≤ 2147483647))
    (k0 : ∀ (i1 : Int64), x1 < 0 → ((-2147483648) ≤ x1 ∧ x1 ≤ (-1)) → i1.toInt = (-1000000000000) → Q (some (.long i1), S))
    (k1 : ∀ (i1 : Int64), 0 ≤ x1 → 3 < x1 → (4 ≤ x1 ∧ x1 ≤ 2147483647) → i1.toInt = (-1000000000000) → Q (some (.long i1), S))
    (k2 : ∀ (i1 : Int64), 0 ≤ x1 → x1 ≤ 3 → x2 < 0 → (0 ≤ x1 ∧ x1 ≤ 3) → ((-2147483648) ≤ x2 ∧ x2 ≤ (-1)) → i1.toInt = (-1000000000000) → Q (some (.long i1), S))
    (k3 : ∀ (i1 : Int64), 0 ≤ x1 → x1 ≤ 3 → 0 ≤ x2 → 1 < x2 → (0 ≤ x1 ∧ x1 ≤ 3) → (2 ≤ x2 ∧ x2 ≤ 2147483647) → i1.toInt = (-1000000000000) → Q (some (.long i1), S))
    (k4 : ∀ (L' : am_L) (i1 : Int32), 0 ≤ x1 → x1 ≤ 3 → 0 ≤ x2 → x2 ≤ 1 → (0 ≤ x1 ∧ x1 ≤ 3) → (0 ≤ x2 ∧ x2 ≤ 1) → lc L' 0 122 → li L' 1 x1 → li L' 2 x2 → i1.toInt = x1 → am_V none d 238 28 L' ((.int i1) :: (.ref 122) :: []) S Q) : am_V none d 238 0 L ([]) S Q := by
  refine sg_use sg_of_m0_g hd hP (sg_xs [0, x1, x2]) ⟨⟨Int.le_refl 0, Int.le_refl 0⟩, b1, b2, trivial⟩ trivial trivial trivial ⟨l0, l1, l2, trivial⟩ trivial ?_
  intro z hz x' L' st' S' hx hP' hW hL' hs' hJ hE' hT' hD'
  have q1 : x' 1 = x1 := hx 1 (by decide)
  subst q1
  have q2 : x' 2 = x2 := hx 2 (by decide)
  subst q2
  have eS : S' = S := hW.1 rfl
  subst eS
  simp only [sg_of_m0_Z, List.mem_cons, List.not_mem_nil, or_false] at hz
  rcases hz with rfl | rfl | rfl | rfl | rfl
  · obtain ⟨f0, -, hσ⟩ := hJ
    obtain ⟨e0, -⟩ := hE'
    intro v hv
    subst hv
    cases v with
    | none => exact hs'.elim
    | some v1 =>
      obtain ⟨⟨i1, rfl, g1⟩, -⟩ := hs'
      exact k0 i1 f0 e0 g1
  · obtain ⟨f0, f1, -, hσ⟩ := hJ
    obtain ⟨e0, -⟩ := hE'
    intro v hv
    subst hv
    cases v with
    | none => exact hs'.elim
    | some v1 =>
      obtain ⟨⟨i1, rfl, g1⟩, -⟩ := hs'
      exact k1 i1 f0 f1 e0 g1
  · obtain ⟨f0, f1, -, f3, -, hσ⟩ := hJ
    obtain ⟨e0, e1, -⟩ := hE'
    intro v hv
    subst hv
    cases v with
    | none => exact hs'.elim
    | some v1 =>
      obtain ⟨⟨i1, rfl, g1⟩, -⟩ := hs'
      exact k2 i1 f0 f1 f3 e0 e1 g1
  · obtain ⟨f0, f1, -, f3, f4, -, hσ⟩ := hJ
    obtain ⟨e0, e1, -⟩ := hE'
    intro v hv
    subst hv
    cases v with
    | none => exact hs'.elim
    | some v1 =>
      obtain ⟨⟨i1, rfl, g1⟩, -⟩ := hs'
      exact k3 i1 f0 f1 f3 f4 e0 e1 g1
  · obtain ⟨f0, f1, -, f3, f4, -, hσ⟩ := hJ
    obtain ⟨e0, e1, -⟩ := hE'
    obtain ⟨p0, p1, p2, -⟩ := hL'
    obtain ⟨v1, r1, rfl, ⟨i1, rfl, g1⟩, hs1⟩ := sg_tc hs'
    obtain ⟨v2, r2, rfl, rfl, hs2⟩ := sg_tc hs1
    obtain rfl := sg_tn hs2
    exact k4 L' i1 f0 f1 f3 f4 e0 e1 p0 p1 p2 g1
def sg_rt_x0_Z : List sg_z := [(0, [], [.inl (true, (0, .ofNat 0, .negSucc 999999999999))], [(2, 0, (0, .ofNat 0, .ofNat 0), (0, .ofNat 0, .ofNat 0), (0, .ofNat 0, .ofNat 0)), (2, 2, (1, .ofNat 1, .ofNat 0), (0, .ofNat 0, .ofNat 0), (0, .ofNat 0, .ofNat 0))], [(1, [(.negSucc 2147483647, .negSucc 0)])], [], []),
  (0, [], [.inl (true, (0, .ofNat 0, .negSucc 999999999999))], [(2, 0, (0, .ofNat 0, .ofNat 0), (0, .ofNat 0, .ofNat 0), (0, .ofNat 0, .ofNat 0)), (2, 3, (1, .ofNat 1, .ofNat 0), (3, .ofNat 1, .ofNat 0), (0, .ofNat 0, .ofNat 0)), (0, 6, (0, .ofNat 0, .ofNat 0), (3, .ofNat 1, .ofNat 0), (0, .ofNat 0, .ofNat 0)), (2, 3, (1, .ofNat 1, .ofNat 0), (0, .ofNat 0, .ofNat 0), (0, .ofNat 0, .ofNat 0))], [(1, [(.ofNat 0, .ofNat 2147483647)]), (3, [(.ofNat 0, .ofNat 16)])], [], []),
  (0, [], [.inl (true, (0, .ofNat 0, .negSucc 999999999999))], [(2, 2, (2, .ofNat 1, .ofNat 0), (0, .ofNat 0, .ofNat 0), (0, .ofNat 0, .ofNat 0)), (2, 1, (0, .ofNat 0, .ofNat 1), (0, .ofNat 0, .ofNat 0), (0, .ofNat 0, .ofNat 0)), (2, 2, (1, .ofNat 1, .ofNat 0), (3, .ofNat 1, .ofNat 0), (0, .ofNat 0, .ofNat 0)), (0, 6, (0, .ofNat 0, .ofNat 0), (3, .ofNat 1, .ofNat 0), (0, .ofNat 0, .ofNat 0)), (2, 3, (1, .ofNat 1, .ofNat 0), (0, .ofNat 0, .ofNat 0), (0, .ofNat 0, .ofNat 0))], [(1, [(.ofNat 0, .ofNat 15)]), (2, [(.negSucc 2147483647, .negSucc 0)]), (3, [(.ofNat 1, .ofNat 16)])], [], []),
  (0, [], [.inl (true, (0, .ofNat 0, .negSucc 1000000000001))], [(2, 0, (0, .ofNat 0, .ofNat 0), (0, .ofNat 0, .ofNat 0), (0, .ofNat 0, .ofNat 0)), (2, 0, (4, .ofNat 1, .ofNat 0), (0, .ofNat 0, .negSucc 3), (0, .ofNat 0, .ofNat 0)), (0, 11, (1, .ofNat 1, .ofNat 0), (4, .ofNat 1, .ofNat 0), (0, .ofNat 0, .ofNat 0)), (2, 5, (2, .ofNat 1, .ofNat 0), (0, .ofNat 0, .ofNat 1), (0, .ofNat 0, .ofNat 0)), (2, 3, (2, .ofNat 1, .ofNat 0), (0, .ofNat 0, .ofNat 0), (0, .ofNat 0, .ofNat 0)), (2, 1, (0, .ofNat 0, .ofNat 1), (0, .ofNat 0, .ofNat 0), (0, .ofNat 0, .ofNat 0)), (2, 2, (1, .ofNat 1, .ofNat 0), (3, .ofNat 1, .ofNat 0), (0, .ofNat 0, .ofNat 0)), (0, 6, (0, .ofNat 0, .ofNat 0), (3, .ofNat 1, .ofNat 0), (0, .ofNat 0, .ofNat 0)), (2, 3, (1, .ofNat 1, .ofNat 0), (0, .ofNat 0, .ofNat 0), (0, .ofNat 0, .ofNat 0))], [(1, [(.ofNat 0, .ofNat 15)]), (2, [(.ofNat 0, .ofNat 1)]), (3, [(.ofNat 1, .ofNat 16)]), (4, [(.negSucc 3, .negSucc 3)])], [], []),
  (41, [(0, .inr (.inl [0])), (1, .inl (false, (1, .ofNat 1, .ofNat 0))), (2, .inl (false, (2, .ofNat 1, .ofNat 0)))], [.inr (.inl [0])], [(2, 1, (0, .ofNat 0, .ofNat 1), (0, .ofNat 0, .ofNat 0), (0, .ofNat 0, .ofNat 0)), (2, 1, (4, .ofNat 1, .ofNat 0), (0, .ofNat 0, .negSucc 3), (0, .ofNat 0, .ofNat 0)), (0, 11, (1, .ofNat 1, .ofNat 0), (4, .ofNat 1, .ofNat 0), (0, .ofNat 0, .ofNat 0)), (2, 5, (2, .ofNat 1, .ofNat 0), (0, .ofNat 0, .ofNat 1), (0, .ofNat 0, .ofNat 0)), (2, 3, (2, .ofNat 1, .ofNat 0), (0, .ofNat 0, .ofNat 0), (0, .ofNat 0, .ofNat 0)), (2, 1, (0, .ofNat 0, .ofNat 1), (0, .ofNat 0, .ofNat 0), (0, .ofNat 0, .ofNat 0)), (2, 2, (1, .ofNat 1, .ofNat 0), (3, .ofNat 1, .ofNat 0), (0, .ofNat 0, .ofNat 0)), (0, 6, (0, .ofNat 0, .ofNat 0), (3, .ofNat 1, .ofNat 0), (0, .ofNat 0, .ofNat 0)), (2, 3, (1, .ofNat 1, .ofNat 0), (0, .ofNat 0, .ofNat 0), (0, .ofNat 0, .ofNat 0))], [(1, [(.ofNat 0, .ofNat 15)]), (2, [(.ofNat 0, .ofNat 1)]), (3, [(.ofNat 1, .ofNat 16)]), (4, [(.ofNat 0, .ofNat 7)])], [], []),
  (0, [], [.inl (true, (0, .ofNat 0, .negSucc 999999999999))], [(2, 4, (2, .ofNat 1, .ofNat 0), (0, .ofNat 0, .ofNat 1), (0, .ofNat 0, .ofNat 0)), (2, 3, (2, .ofNat 1, .ofNat 0), (0, .ofNat 0, .ofNat 0), (0, .ofNat 0, .ofNat 0)), (2, 1, (0, .ofNat 0, .ofNat 1), (0, .ofNat 0, .ofNat 0), (0, .ofNat 0, .ofNat 0)), (2, 2, (1, .ofNat 1, .ofNat 0), (3, .ofNat 1, .ofNat 0), (0, .ofNat 0, .ofNat 0)), (0, 6, (0, .ofNat 0, .ofNat 0), (3, .ofNat 1, .ofNat 0), (0, .ofNat 0, .ofNat 0)), (2, 3, (1, .ofNat 1, .ofNat 0), (0, .ofNat 0, .ofNat 0), (0, .ofNat 0, .ofNat 0))], [(1, [(.ofNat 0, .ofNat 15)]), (2, [(.ofNat 2, .ofNat 2147483647)]), (3, [(.ofNat 1, .ofNat 16)])], [], [])]
set_option maxRecDepth 1000000 in
theorem sg_rt_x0_g : sg_go [] [40] 3000 111 0 1 3 [(0, [(.ofNat 0, .ofNat 0)]), (1, [(.negSucc 2147483647, .ofNat 2147483647)]), (2, [(.negSucc 2147483647, .ofNat 2147483647)])] [] [] [] [(0, .inr (.inl [0])), (1, .inl (false, (1, .ofNat 1, .ofNat 0))), (2, .inl (false, (2, .ofNat 1, .ofNat 0)))] [] [] sg_rt_x0_Z = true := by decide +kernel
set_option maxRecDepth 100000 in
theorem sg_rt_x0 {Q : Option Value × am_S → Prop} {d : Nat} {S : am_S} {L : am_L} {x1 x2 : Int} (hd : 1 ≤ d) (hP : ax_P0 none S) (l0 : lc L 0 0) (l1 : li L 1 x1) (l2 : li L 2 x2) (b1 : ((-2147483648) ≤ x1 ∧ x1 ≤ 2147483647)) (b2 : ((-2147483648) ≤ x2 ∧ x2 ≤ 2147483647))
    (k0 : ∀ (i1 : Int64), x1 < 0 → ((-2147483648) ≤ x1 ∧ x1 ≤ (-1)) → i1.toInt = (-1000000000000) → Q (some (.long i1), S))
    (k1 : ∀ (x3 : Int) (i1 : Int64), 0 ≤ x1 → rd S 6 0 = x3 → x3 ≤ x1 → (0 ≤ x1 ∧ x1 ≤ 2147483647) → (0 ≤ x3 ∧ x3 ≤ 16) → i1.toInt = (-1000000000000) → Q (some (.long i1), S))
    (k2 : ∀ (x3 : Int) (i1 : Int64), 0 ≤ x1 → rd S 6 0 = x3 → x1 < x3 → x2 < 0 → (0 ≤ x1 ∧ x1 ≤ 15) → ((-2147483648) ≤ x2 ∧ x2 ≤ (-1)) → (1 ≤ x3 ∧ x3 ≤ 16) → i1.toInt = (-1000000000000) → Q (some (.long i1), S))
    (k3 : ∀ (x3 x4 : Int) (i1 : Int64), 0 ≤ x1 → rd S 6 0 = x3 → x1 < x3 → 0 ≤ x2 → x2 ≤ 1 → rd S 11 x1 = x4 → x4 = (-4) → (0 ≤ x1 ∧ x1 ≤ 15) → (0 ≤ x2 ∧ x2 ≤ 1) → (1 ≤ x3 ∧ x3 ≤ 16) → ((-4) ≤ x4 ∧ x4 ≤ (-4)) → i1.toInt = (-1000000000002) → Q (some (.long i1), S))
    (k4 : ∀ (x3 x4 : Int) (L' : am_L), 0 ≤ x1 → rd S 6 0 = x3 → x1 < x3 → 0 ≤ x2 → x2 ≤ 1 → rd S 11 x1 = x4 → x4 ≠ (-4) → (0 ≤ x1 ∧ x1 ≤ 15) → (0 ≤ x2 ∧ x2 ≤ 1) → (1 ≤ x3 ∧ x3 ≤ 16) → (0 ≤ x4 ∧ x4 ≤ 7) → lc L' 0 0 → li L' 1 x1 → li L' 2 x2 → am_V none d 111 40 L' ((.ref 0) :: []) S Q)
    (k5 : ∀ (x3 : Int) (i1 : Int64), 0 ≤ x1 → rd S 6 0 = x3 → x1 < x3 → 0 ≤ x2 → 1 < x2 → (0 ≤ x1 ∧ x1 ≤ 15) → (2 ≤ x2 ∧ x2 ≤ 2147483647) → (1 ≤ x3 ∧ x3 ≤ 16) → i1.toInt = (-1000000000000) → Q (some (.long i1), S)) : am_V none d 111 0 L ([]) S Q := by
  refine sg_use sg_rt_x0_g hd hP (sg_xs [0, x1, x2]) ⟨⟨Int.le_refl 0, Int.le_refl 0⟩, b1, b2, trivial⟩ trivial trivial trivial ⟨l0, l1, l2, trivial⟩ trivial ?_
  intro z hz x' L' st' S' hx hP' hW hL' hs' hJ hE' hT' hD'
  have q1 : x' 1 = x1 := hx 1 (by decide)
  subst q1
  have q2 : x' 2 = x2 := hx 2 (by decide)
  subst q2
  have eS : S' = S := hW.1 rfl
  subst eS
  simp only [sg_rt_x0_Z, List.mem_cons, List.not_mem_nil, or_false] at hz
  rcases hz with rfl | rfl | rfl | rfl | rfl | rfl
  · obtain ⟨f0, -, hσ⟩ := hJ
    obtain ⟨e0, -⟩ := hE'
    intro v hv
    subst hv
    cases v with
    | none => exact hs'.elim
    | some v1 =>
      obtain ⟨⟨i1, rfl, g1⟩, -⟩ := hs'
      exact k0 i1 f0 e0 g1
  · obtain ⟨f0, f1, f2, -, hσ⟩ := hJ
    obtain ⟨e0, e1, -⟩ := hE'
    intro v hv
    subst hv
    cases v with
    | none => exact hs'.elim
    | some v1 =>
      obtain ⟨⟨i1, rfl, g1⟩, -⟩ := hs'
      exact k1 (x' 3) i1 f0 f1 f2 e0 e1 g1
  · obtain ⟨f0, f1, f2, -, f4, hσ⟩ := hJ
    obtain ⟨e0, e1, e2, -⟩ := hE'
    intro v hv
    subst hv
    cases v with
    | none => exact hs'.elim
    | some v1 =>
      obtain ⟨⟨i1, rfl, g1⟩, -⟩ := hs'
      exact k2 (x' 3) i1 f0 f1 f2 f4 e0 e1 e2 g1
  · obtain ⟨f0, f1, f2, -, f4, f5, f6, f7, -, hσ⟩ := hJ
    obtain ⟨e0, e1, e2, e3, -⟩ := hE'
    intro v hv
    subst hv
    cases v with
    | none => exact hs'.elim
    | some v1 =>
      obtain ⟨⟨i1, rfl, g1⟩, -⟩ := hs'
      exact k3 (x' 3) (x' 4) i1 f0 f1 f2 f4 f5 f6 f7 e0 e1 e2 e3 g1
  · obtain ⟨f0, f1, f2, -, f4, f5, f6, f7, -, hσ⟩ := hJ
    obtain ⟨e0, e1, e2, e3, -⟩ := hE'
    obtain ⟨p0, p1, p2, -⟩ := hL'
    obtain ⟨v1, r1, rfl, rfl, hs1⟩ := sg_tc hs'
    obtain rfl := sg_tn hs1
    exact k4 (x' 3) (x' 4) L' f0 f1 f2 f4 f5 f6 f7 e0 e1 e2 e3 p0 p1 p2
  · obtain ⟨f0, f1, f2, -, f4, f5, hσ⟩ := hJ
    obtain ⟨e0, e1, e2, -⟩ := hE'
    intro v hv
    subst hv
    cases v with
    | none => exact hs'.elim
    | some v1 =>
      obtain ⟨⟨i1, rfl, g1⟩, -⟩ := hs'
      exact k5 (x' 3) i1 f0 f1 f2 f4 f5 e0 e1 e2 g1
def sg_rt_m0_Z : List sg_z := [(0, [], [.inl (true, (0, .ofNat 0, .negSucc 999999999999))], [(2, 0, (0, .ofNat 0, .ofNat 0), (0, .ofNat 0, .ofNat 0), (0, .ofNat 0, .ofNat 0)), (2, 2, (1, .ofNat 1, .ofNat 0), (0, .ofNat 0, .ofNat 0), (0, .ofNat 0, .ofNat 0)), (0, 122, (0, .ofNat 0, .ofNat 5), (3, .ofNat 1, .ofNat 0), (0, .ofNat 0, .ofNat 0))], [(1, [(.negSucc 2147483647, .negSucc 0)]), (3, [(.ofNat 0, .ofNat 16)])], [], []),
  (0, [], [.inl (true, (0, .ofNat 0, .negSucc 999999999999))], [(2, 0, (0, .ofNat 0, .ofNat 0), (0, .ofNat 0, .ofNat 0), (0, .ofNat 0, .ofNat 0)), (2, 4, (1, .ofNat 1, .ofNat 0), (3, .ofNat 1, .negSucc 0), (0, .ofNat 0, .ofNat 0)), (2, 3, (1, .ofNat 1, .ofNat 0), (0, .ofNat 0, .ofNat 0), (0, .ofNat 0, .ofNat 0)), (0, 122, (0, .ofNat 0, .ofNat 5), (3, .ofNat 1, .ofNat 0), (0, .ofNat 0, .ofNat 0))], [(1, [(.ofNat 0, .ofNat 2147483647)]), (3, [(.ofNat 0, .ofNat 16)])], [], []),
  (0, [], [.inl (true, (0, .ofNat 0, .negSucc 999999999999))], [(2, 0, (0, .ofNat 0, .ofNat 0), (0, .ofNat 0, .ofNat 0), (0, .ofNat 0, .ofNat 0)), (2, 2, (2, .ofNat 1, .ofNat 0), (0, .ofNat 0, .ofNat 0), (0, .ofNat 0, .ofNat 0)), (2, 1, (0, .ofNat 0, .ofNat 1), (0, .ofNat 0, .ofNat 0), (0, .ofNat 0, .ofNat 0)), (2, 5, (1, .ofNat 1, .ofNat 0), (3, .ofNat 1, .negSucc 0), (0, .ofNat 0, .ofNat 0)), (2, 3, (1, .ofNat 1, .ofNat 0), (0, .ofNat 0, .ofNat 0), (0, .ofNat 0, .ofNat 0)), (0, 122, (0, .ofNat 0, .ofNat 5), (3, .ofNat 1, .ofNat 0), (0, .ofNat 0, .ofNat 0))], [(1, [(.ofNat 0, .ofNat 15)]), (2, [(.negSucc 2147483647, .negSucc 0)]), (3, [(.ofNat 1, .ofNat 16)])], [], []),
  (0, [], [.inl (true, (0, .ofNat 0, .negSucc 999999999999))], [(2, 0, (0, .ofNat 0, .ofNat 0), (0, .ofNat 0, .ofNat 0), (0, .ofNat 0, .ofNat 0)), (2, 4, (2, .ofNat 1, .ofNat 0), (0, .ofNat 0, .ofNat 1), (0, .ofNat 0, .ofNat 0)), (2, 3, (2, .ofNat 1, .ofNat 0), (0, .ofNat 0, .ofNat 0), (0, .ofNat 0, .ofNat 0)), (2, 1, (0, .ofNat 0, .ofNat 1), (0, .ofNat 0, .ofNat 0), (0, .ofNat 0, .ofNat 0)), (2, 5, (1, .ofNat 1, .ofNat 0), (3, .ofNat 1, .negSucc 0), (0, .ofNat 0, .ofNat 0)), (2, 3, (1, .ofNat 1, .ofNat 0), (0, .ofNat 0, .ofNat 0), (0, .ofNat 0, .ofNat 0)), (0, 122, (0, .ofNat 0, .ofNat 5), (3, .ofNat 1, .ofNat 0), (0, .ofNat 0, .ofNat 0))], [(1, [(.ofNat 0, .ofNat 15)]), (2, [(.ofNat 2, .ofNat 2147483647)]), (3, [(.ofNat 1, .ofNat 16)])], [], []),
  (0, [], [.inl (true, (0, .ofNat 0, .negSucc 1000000000001))], [(2, 0, (0, .ofNat 0, .ofNat 0), (0, .ofNat 0, .ofNat 0), (0, .ofNat 0, .ofNat 0)), (2, 0, (4, .ofNat 1, .ofNat 0), (0, .ofNat 0, .negSucc 3), (0, .ofNat 0, .ofNat 0)), (0, 130, (1, .ofNat 1, .ofNat 0), (4, .ofNat 1, .ofNat 0), (0, .ofNat 0, .ofNat 0)), (2, 1, (0, .ofNat 0, .ofNat 1), (0, .ofNat 0, .ofNat 0), (0, .ofNat 0, .ofNat 0)), (2, 5, (2, .ofNat 1, .ofNat 0), (0, .ofNat 0, .ofNat 1), (0, .ofNat 0, .ofNat 0)), (2, 3, (2, .ofNat 1, .ofNat 0), (0, .ofNat 0, .ofNat 0), (0, .ofNat 0, .ofNat 0)), (2, 1, (0, .ofNat 0, .ofNat 1), (0, .ofNat 0, .ofNat 0), (0, .ofNat 0, .ofNat 0)), (2, 5, (1, .ofNat 1, .ofNat 0), (3, .ofNat 1, .negSucc 0), (0, .ofNat 0, .ofNat 0)), (2, 3, (1, .ofNat 1, .ofNat 0), (0, .ofNat 0, .ofNat 0), (0, .ofNat 0, .ofNat 0)), (0, 122, (0, .ofNat 0, .ofNat 5), (3, .ofNat 1, .ofNat 0), (0, .ofNat 0, .ofNat 0))], [(1, [(.ofNat 0, .ofNat 15)]), (2, [(.ofNat 0, .ofNat 1)]), (3, [(.ofNat 1, .ofNat 16)]), (4, [(.negSucc 3, .negSucc 3)])], [], []),
  (42, [(0, .inr (.inl [122])), (1, .inl (false, (1, .ofNat 1, .ofNat 0))), (2, .inl (false, (2, .ofNat 1, .ofNat 0)))], [.inl (false, (4, .ofNat 1, .ofNat 0)), .inr (.inl [122])], [(0, 130, (1, .ofNat 1, .ofNat 0), (4, .ofNat 1, .ofNat 0), (0, .ofNat 0, .ofNat 0)), (2, 1, (0, .ofNat 0, .ofNat 1), (0, .ofNat 0, .ofNat 0), (0, .ofNat 0, .ofNat 0)), (2, 1, (4, .ofNat 1, .ofNat 0), (0, .ofNat 0, .negSucc 3), (0, .ofNat 0, .ofNat 0)), (0, 130, (1, .ofNat 1, .ofNat 0), (4, .ofNat 1, .ofNat 0), (0, .ofNat 0, .ofNat 0)), (2, 1, (0, .ofNat 0, .ofNat 1), (0, .ofNat 0, .ofNat 0), (0, .ofNat 0, .ofNat 0)), (2, 5, (2, .ofNat 1, .ofNat 0), (0, .ofNat 0, .ofNat 1), (0, .ofNat 0, .ofNat 0)), (2, 3, (2, .ofNat 1, .ofNat 0), (0, .ofNat 0, .ofNat 0), (0, .ofNat 0, .ofNat 0)), (2, 1, (0, .ofNat 0, .ofNat 1), (0, .ofNat 0, .ofNat 0), (0, .ofNat 0, .ofNat 0)), (2, 5, (1, .ofNat 1, .ofNat 0), (3, .ofNat 1, .negSucc 0), (0, .ofNat 0, .ofNat 0)), (2, 3, (1, .ofNat 1, .ofNat 0), (0, .ofNat 0, .ofNat 0), (0, .ofNat 0, .ofNat 0)), (0, 122, (0, .ofNat 0, .ofNat 5), (3, .ofNat 1, .ofNat 0), (0, .ofNat 0, .ofNat 0))], [(1, [(.ofNat 0, .ofNat 15)]), (2, [(.ofNat 0, .ofNat 1)]), (3, [(.ofNat 1, .ofNat 16)]), (4, [(.ofNat 0, .ofNat 7)])], [], [])]
set_option maxRecDepth 1000000 in
theorem sg_rt_m0_g : sg_go [] [41] 3000 193 0 2 3 [(0, [(.ofNat 0, .ofNat 0)]), (1, [(.negSucc 2147483647, .ofNat 2147483647)]), (2, [(.negSucc 2147483647, .ofNat 2147483647)])] [] [] [] [(0, .inr (.inl [122])), (1, .inl (false, (1, .ofNat 1, .ofNat 0))), (2, .inl (false, (2, .ofNat 1, .ofNat 0)))] [] [] sg_rt_m0_Z = true := by decide +kernel
set_option maxRecDepth 100000 in
theorem sg_rt_m0 {Q : Option Value × am_S → Prop} {d : Nat} {S : am_S} {L : am_L} {x1 x2 : Int} (hd : 2 ≤ d) (hP : ax_P0 none S) (l0 : lc L 0 122) (l1 : li L 1 x1) (l2 : li L 2 x2) (b1 : ((-2147483648) ≤ x1 ∧ x1 ≤ 2147483647)) (b2 : ((-2147483648) ≤ x2 ∧ x2 ≤ 2147483647))
    (k0 : ∀ (x3 : Int) (i1 : Int64), rd S 122 5 = x3 → x1 < 0 → ((-2147483648) ≤ x1 ∧ x1 ≤ (-1)) → (0 ≤ x3 ∧ x3 ≤ 16) → i1.toInt = (-1000000000000) → Q (some (.long i1), S))
    (k1 : ∀ (x3 : Int) (i1 : Int64), rd S 122 5 = x3 → 0 ≤ x1 → x3 + (-1) < x1 → (0 ≤ x1 ∧ x1 ≤ 2147483647) → (0 ≤ x3 ∧ x3 ≤ 16) → i1.toInt = (-1000000000000) → Q (some (.long i1), S))
    (k2 : ∀ (x3 : Int) (i1 : Int64), rd S 122 5 = x3 → 0 ≤ x1 → x1 ≤ x3 + (-1) → x2 < 0 → (0 ≤ x1 ∧ x1 ≤ 15) → ((-2147483648) ≤ x2 ∧ x2 ≤ (-1)) → (1 ≤ x3 ∧ x3 ≤ 16) → i1.toInt = (-1000000000000) → Q (some (.long i1), S))
    (k3 : ∀ (x3 : Int) (i1 : Int64), rd S 122 5 = x3 → 0 ≤ x1 → x1 ≤ x3 + (-1) → 0 ≤ x2 → 1 < x2 → (0 ≤ x1 ∧ x1 ≤ 15) → (2 ≤ x2 ∧ x2 ≤ 2147483647) → (1 ≤ x3 ∧ x3 ≤ 16) → i1.toInt = (-1000000000000) → Q (some (.long i1), S))
    (k4 : ∀ (x3 x4 : Int) (i1 : Int64), rd S 122 5 = x3 → 0 ≤ x1 → x1 ≤ x3 + (-1) → 0 ≤ x2 → x2 ≤ 1 → rd S 130 x1 = x4 → x4 = (-4) → (0 ≤ x1 ∧ x1 ≤ 15) → (0 ≤ x2 ∧ x2 ≤ 1) → (1 ≤ x3 ∧ x3 ≤ 16) → ((-4) ≤ x4 ∧ x4 ≤ (-4)) → i1.toInt = (-1000000000002) → Q (some (.long i1), S))
    (k5 : ∀ (x3 x4 : Int) (L' : am_L) (i1 : Int32), rd S 122 5 = x3 → 0 ≤ x1 → x1 ≤ x3 + (-1) → 0 ≤ x2 → x2 ≤ 1 → rd S 130 x1 = x4 → x4 ≠ (-4) → (0 ≤ x1 ∧ x1 ≤ 15) → (0 ≤ x2 ∧ x2 ≤ 1) → (1 ≤ x3 ∧ x3 ≤ 16) → (0 ≤ x4 ∧ x4 ≤ 7) → lc L' 0 122 → li L' 1 x1 → li L' 2 x2 → i1.toInt = x4 → am_V none d 193 41 L' ((.int i1) :: (.ref 122) :: []) S Q) : am_V none d 193 0 L ([]) S Q := by
  refine sg_use sg_rt_m0_g hd hP (sg_xs [0, x1, x2]) ⟨⟨Int.le_refl 0, Int.le_refl 0⟩, b1, b2, trivial⟩ trivial trivial trivial ⟨l0, l1, l2, trivial⟩ trivial ?_
  intro z hz x' L' st' S' hx hP' hW hL' hs' hJ hE' hT' hD'
  have q1 : x' 1 = x1 := hx 1 (by decide)
  subst q1
  have q2 : x' 2 = x2 := hx 2 (by decide)
  subst q2
  have eS : S' = S := hW.1 rfl
  subst eS
  simp only [sg_rt_m0_Z, List.mem_cons, List.not_mem_nil, or_false] at hz
  rcases hz with rfl | rfl | rfl | rfl | rfl | rfl
  · obtain ⟨f0, f1, -, hσ⟩ := hJ
    obtain ⟨e0, e1, -⟩ := hE'
    intro v hv
    subst hv
    cases v with
    | none => exact hs'.elim
    | some v1 =>
      obtain ⟨⟨i1, rfl, g1⟩, -⟩ := hs'
      exact k0 (x' 3) i1 f0 f1 e0 e1 g1
  · obtain ⟨f0, f1, f2, -, hσ⟩ := hJ
    obtain ⟨e0, e1, -⟩ := hE'
    intro v hv
    subst hv
    cases v with
    | none => exact hs'.elim
    | some v1 =>
      obtain ⟨⟨i1, rfl, g1⟩, -⟩ := hs'
      exact k1 (x' 3) i1 f0 f1 f2 e0 e1 g1
  · obtain ⟨f0, f1, f2, -, f4, -, hσ⟩ := hJ
    obtain ⟨e0, e1, e2, -⟩ := hE'
    intro v hv
    subst hv
    cases v with
    | none => exact hs'.elim
    | some v1 =>
      obtain ⟨⟨i1, rfl, g1⟩, -⟩ := hs'
      exact k2 (x' 3) i1 f0 f1 f2 f4 e0 e1 e2 g1
  · obtain ⟨f0, f1, f2, -, f4, f5, -, hσ⟩ := hJ
    obtain ⟨e0, e1, e2, -⟩ := hE'
    intro v hv
    subst hv
    cases v with
    | none => exact hs'.elim
    | some v1 =>
      obtain ⟨⟨i1, rfl, g1⟩, -⟩ := hs'
      exact k3 (x' 3) i1 f0 f1 f2 f4 f5 e0 e1 e2 g1
  · obtain ⟨f0, f1, f2, -, f4, f5, -, f7, f8, -, hσ⟩ := hJ
    obtain ⟨e0, e1, e2, e3, -⟩ := hE'
    intro v hv
    subst hv
    cases v with
    | none => exact hs'.elim
    | some v1 =>
      obtain ⟨⟨i1, rfl, g1⟩, -⟩ := hs'
      exact k4 (x' 3) (x' 4) i1 f0 f1 f2 f4 f5 f7 f8 e0 e1 e2 e3 g1
  · obtain ⟨f0, f1, f2, -, f4, f5, -, f7, f8, -, -, hσ⟩ := hJ
    obtain ⟨e0, e1, e2, e3, -⟩ := hE'
    obtain ⟨p0, p1, p2, -⟩ := hL'
    obtain ⟨v1, r1, rfl, ⟨i1, rfl, g1⟩, hs1⟩ := sg_tc hs'
    obtain ⟨v2, r2, rfl, rfl, hs2⟩ := sg_tc hs1
    obtain rfl := sg_tn hs2
    exact k5 (x' 3) (x' 4) L' i1 f0 f1 f2 f4 f5 f7 f8 e0 e1 e2 e3 p0 p1 p2 g1
