/-! ===== line, drop, plate, meet: what happens from place to place ===== -/
def sg_ln_x_Z : List sg_z := [(0, [], [.inl (false, (0, .ofNat 0, .negSucc 0))], [(2, 1, (0, .ofNat 0, .negSucc 0), (0, .ofNat 0, .ofNat 0), (0, .ofNat 0, .ofNat 0)), (2, 0, (0, .ofNat 0, .ofNat 0), (0, .ofNat 0, .ofNat 0), (0, .ofNat 0, .ofNat 0)), (2, 2, (1, .ofNat 1, .ofNat 0), (0, .ofNat 0, .ofNat 1), (0, .ofNat 0, .ofNat 0))], [(1, [(.negSucc 2147483647, .ofNat 0)])], [], []),
  (0, [], [.inl (false, (0, .ofNat 0, .negSucc 0))], [(2, 1, (0, .ofNat 0, .negSucc 0), (0, .ofNat 0, .ofNat 0), (0, .ofNat 0, .ofNat 0)), (2, 0, (0, .ofNat 0, .ofNat 0), (0, .ofNat 0, .ofNat 0), (0, .ofNat 0, .ofNat 0)), (2, 4, (1, .ofNat 1, .ofNat 0), (0, .ofNat 0, .ofNat 1000000), (0, .ofNat 0, .ofNat 0)), (2, 3, (1, .ofNat 1, .ofNat 0), (0, .ofNat 0, .ofNat 1), (0, .ofNat 0, .ofNat 0))], [(1, [(.ofNat 1000001, .ofNat 2147483647)])], [], []),
  (0, [], [.inl (false, (0, .ofNat 0, .negSucc 0))], [(2, 1, (0, .ofNat 0, .negSucc 0), (0, .ofNat 0, .ofNat 0), (0, .ofNat 0, .ofNat 0)), (2, 0, (0, .ofNat 0, .ofNat 0), (0, .ofNat 0, .ofNat 0), (0, .ofNat 0, .ofNat 0)), (2, 2, (2, .ofNat 1, .ofNat 0), (0, .ofNat 0, .ofNat 0), (0, .ofNat 0, .ofNat 0)), (2, 5, (1, .ofNat 1, .ofNat 0), (0, .ofNat 0, .ofNat 1000000), (0, .ofNat 0, .ofNat 0)), (2, 3, (1, .ofNat 1, .ofNat 0), (0, .ofNat 0, .ofNat 1), (0, .ofNat 0, .ofNat 0))], [(1, [(.ofNat 1, .ofNat 1000000)]), (2, [(.negSucc 2147483647, .negSucc 0)])], [], []),
  (0, [], [.inl (false, (0, .ofNat 0, .negSucc 0))], [(2, 1, (0, .ofNat 0, .negSucc 0), (0, .ofNat 0, .ofNat 0), (0, .ofNat 0, .ofNat 0)), (2, 0, (0, .ofNat 0, .ofNat 0), (0, .ofNat 0, .ofNat 0), (0, .ofNat 0, .ofNat 0)), (2, 4, (2, .ofNat 1, .ofNat 0), (0, .ofNat 0, .ofNat 1000), (0, .ofNat 0, .ofNat 0)), (2, 3, (2, .ofNat 1, .ofNat 0), (0, .ofNat 0, .ofNat 0), (0, .ofNat 0, .ofNat 0)), (2, 5, (1, .ofNat 1, .ofNat 0), (0, .ofNat 0, .ofNat 1000000), (0, .ofNat 0, .ofNat 0)), (2, 3, (1, .ofNat 1, .ofNat 0), (0, .ofNat 0, .ofNat 1), (0, .ofNat 0, .ofNat 0))], [(1, [(.ofNat 1, .ofNat 1000000)]), (2, [(.ofNat 1001, .ofNat 2147483647)])], [], []),
  (0, [], [.inl (false, (0, .ofNat 0, .negSucc 0))], [(2, 1, (0, .ofNat 0, .negSucc 0), (0, .ofNat 0, .ofNat 0), (0, .ofNat 0, .ofNat 0)), (2, 0, (0, .ofNat 0, .ofNat 0), (0, .ofNat 0, .ofNat 0), (0, .ofNat 0, .ofNat 0)), (2, 2, (3, .ofNat 1, .ofNat 0), (0, .ofNat 0, .ofNat 0), (0, .ofNat 0, .ofNat 0)), (2, 5, (2, .ofNat 1, .ofNat 0), (0, .ofNat 0, .ofNat 1000), (0, .ofNat 0, .ofNat 0)), (2, 3, (2, .ofNat 1, .ofNat 0), (0, .ofNat 0, .ofNat 0), (0, .ofNat 0, .ofNat 0)), (2, 5, (1, .ofNat 1, .ofNat 0), (0, .ofNat 0, .ofNat 1000000), (0, .ofNat 0, .ofNat 0)), (2, 3, (1, .ofNat 1, .ofNat 0), (0, .ofNat 0, .ofNat 1), (0, .ofNat 0, .ofNat 0))], [(1, [(.ofNat 1, .ofNat 1000000)]), (2, [(.ofNat 0, .ofNat 1000)]), (3, [(.negSucc 2147483647, .negSucc 0)])], [], []),
  (0, [], [.inl (false, (0, .ofNat 0, .negSucc 0))], [(2, 1, (0, .ofNat 0, .negSucc 0), (0, .ofNat 0, .ofNat 0), (0, .ofNat 0, .ofNat 0)), (2, 0, (0, .ofNat 0, .ofNat 0), (0, .ofNat 0, .ofNat 0), (0, .ofNat 0, .ofNat 0)), (2, 4, (3, .ofNat 1, .ofNat 0), (0, .ofNat 0, .ofNat 999), (0, .ofNat 0, .ofNat 0)), (2, 3, (3, .ofNat 1, .ofNat 0), (0, .ofNat 0, .ofNat 0), (0, .ofNat 0, .ofNat 0)), (2, 5, (2, .ofNat 1, .ofNat 0), (0, .ofNat 0, .ofNat 1000), (0, .ofNat 0, .ofNat 0)), (2, 3, (2, .ofNat 1, .ofNat 0), (0, .ofNat 0, .ofNat 0), (0, .ofNat 0, .ofNat 0)), (2, 5, (1, .ofNat 1, .ofNat 0), (0, .ofNat 0, .ofNat 1000000), (0, .ofNat 0, .ofNat 0)), (2, 3, (1, .ofNat 1, .ofNat 0), (0, .ofNat 0, .ofNat 1), (0, .ofNat 0, .ofNat 0))], [(1, [(.ofNat 1, .ofNat 1000000)]), (2, [(.ofNat 0, .ofNat 1000)]), (3, [(.ofNat 1000, .ofNat 2147483647)])], [], []),
  (0, [], [.inl (false, (4, .ofNat 1, .ofNat 0))], [(0, 6, (0, .ofNat 0, .ofNat 0), (4, .ofNat 1, .ofNat 1), (0, .ofNat 0, .ofNat 0)), (1, 6, (0, .ofNat 0, .ofNat 0), (4, .ofNat 1, .ofNat 1), (0, .ofNat 0, .ofNat 0)), (0, 6, (0, .ofNat 0, .ofNat 0), (4, .ofNat 1, .ofNat 0), (0, .ofNat 0, .ofNat 0)), (1, 12, (4, .ofNat 1, .ofNat 0), (0, .ofNat 0, .negSucc 3), (0, .ofNat 0, .ofNat 0)), (1, 11, (4, .ofNat 1, .ofNat 0), (0, .ofNat 0, .negSucc 3), (0, .ofNat 0, .ofNat 0)), (0, 6, (0, .ofNat 0, .ofNat 0), (4, .ofNat 1, .ofNat 0), (0, .ofNat 0, .ofNat 0)), (1, 10, (4, .ofNat 1, .ofNat 0), (0, .ofNat 0, .ofNat 0), (0, .ofNat 0, .ofNat 0)), (0, 6, (0, .ofNat 0, .ofNat 0), (4, .ofNat 1, .ofNat 0), (0, .ofNat 0, .ofNat 0)), (1, 9, (4, .ofNat 1, .ofNat 0), (3, .ofNat 1, .ofNat 0), (0, .ofNat 0, .ofNat 0)), (0, 6, (0, .ofNat 0, .ofNat 0), (4, .ofNat 1, .ofNat 0), (0, .ofNat 0, .ofNat 0)), (1, 8, (4, .ofNat 1, .ofNat 0), (2, .ofNat 1, .ofNat 0), (0, .ofNat 0, .ofNat 0)), (0, 6, (0, .ofNat 0, .ofNat 0), (4, .ofNat 1, .ofNat 0), (0, .ofNat 0, .ofNat 0)), (1, 7, (4, .ofNat 1, .ofNat 0), (1, .ofNat 1, .ofNat 0), (0, .ofNat 0, .ofNat 0)), (0, 6, (0, .ofNat 0, .ofNat 0), (4, .ofNat 1, .ofNat 0), (0, .ofNat 0, .ofNat 0)), (2, 0, (0, .ofNat 0, .ofNat 0), (0, .ofNat 0, .ofNat 0), (0, .ofNat 0, .ofNat 0)), (2, 2, (4, .ofNat 1, .ofNat 0), (0, .ofNat 0, .ofNat 16), (0, .ofNat 0, .ofNat 0)), (0, 6, (0, .ofNat 0, .ofNat 0), (4, .ofNat 1, .ofNat 0), (0, .ofNat 0, .ofNat 0)), (2, 1, (0, .ofNat 0, .ofNat 1), (0, .ofNat 0, .ofNat 0), (0, .ofNat 0, .ofNat 0)), (2, 5, (3, .ofNat 1, .ofNat 0), (0, .ofNat 0, .ofNat 999), (0, .ofNat 0, .ofNat 0)), (2, 3, (3, .ofNat 1, .ofNat 0), (0, .ofNat 0, .ofNat 0), (0, .ofNat 0, .ofNat 0)), (2, 5, (2, .ofNat 1, .ofNat 0), (0, .ofNat 0, .ofNat 1000), (0, .ofNat 0, .ofNat 0)), (2, 3, (2, .ofNat 1, .ofNat 0), (0, .ofNat 0, .ofNat 0), (0, .ofNat 0, .ofNat 0)), (2, 5, (1, .ofNat 1, .ofNat 0), (0, .ofNat 0, .ofNat 1000000), (0, .ofNat 0, .ofNat 0)), (2, 3, (1, .ofNat 1, .ofNat 0), (0, .ofNat 0, .ofNat 1), (0, .ofNat 0, .ofNat 0))], [(1, [(.ofNat 1, .ofNat 1000000)]), (2, [(.ofNat 0, .ofNat 1000)]), (3, [(.ofNat 0, .ofNat 999)]), (4, [(.ofNat 0, .ofNat 15)])], [], []),
  (0, [], [.inl (false, (0, .ofNat 0, .negSucc 2))], [(2, 1, (0, .ofNat 0, .negSucc 2), (0, .ofNat 0, .ofNat 0), (0, .ofNat 0, .ofNat 0)), (2, 3, (4, .ofNat 1, .ofNat 0), (0, .ofNat 0, .ofNat 16), (0, .ofNat 0, .ofNat 0)), (0, 6, (0, .ofNat 0, .ofNat 0), (4, .ofNat 1, .ofNat 0), (0, .ofNat 0, .ofNat 0)), (2, 1, (0, .ofNat 0, .ofNat 1), (0, .ofNat 0, .ofNat 0), (0, .ofNat 0, .ofNat 0)), (2, 5, (3, .ofNat 1, .ofNat 0), (0, .ofNat 0, .ofNat 999), (0, .ofNat 0, .ofNat 0)), (2, 3, (3, .ofNat 1, .ofNat 0), (0, .ofNat 0, .ofNat 0), (0, .ofNat 0, .ofNat 0)), (2, 5, (2, .ofNat 1, .ofNat 0), (0, .ofNat 0, .ofNat 1000), (0, .ofNat 0, .ofNat 0)), (2, 3, (2, .ofNat 1, .ofNat 0), (0, .ofNat 0, .ofNat 0), (0, .ofNat 0, .ofNat 0)), (2, 5, (1, .ofNat 1, .ofNat 0), (0, .ofNat 0, .ofNat 1000000), (0, .ofNat 0, .ofNat 0)), (2, 3, (1, .ofNat 1, .ofNat 0), (0, .ofNat 0, .ofNat 1), (0, .ofNat 0, .ofNat 0))], [(1, [(.ofNat 1, .ofNat 1000000)]), (2, [(.ofNat 0, .ofNat 1000)]), (3, [(.ofNat 0, .ofNat 999)]), (4, [(.ofNat 16, .ofNat 16)])], [], [])]
set_option maxRecDepth 1000000 in
theorem sg_ln_x_g : sg_go [] [] 3000 98 0 2 4 [(0, [(.ofNat 0, .ofNat 0)]), (1, [(.negSucc 2147483647, .ofNat 2147483647)]), (2, [(.negSucc 2147483647, .ofNat 2147483647)]), (3, [(.negSucc 2147483647, .ofNat 2147483647)])] [] [] [] [(0, .inr (.inl [0])), (1, .inl (false, (1, .ofNat 1, .ofNat 0))), (2, .inl (false, (2, .ofNat 1, .ofNat 0))), (3, .inl (false, (3, .ofNat 1, .ofNat 0)))] [] [(6, some 0), (7, none), (8, none), (9, none), (10, none), (11, none), (12, none)] sg_ln_x_Z = true := by decide +kernel
theorem sg_ln_x {Q : Option Value × am_S → Prop} {d : Nat} {S : am_S} {L : am_L} {x1 x2 x3 : Int} (hd : 2 ≤ d) (hP : ax_P0 none S) (l0 : lc L 0 0) (l1 : li L 1 x1) (l2 : li L 2 x2) (l3 : li L 3 x3) (b1 : ((-2147483648) ≤ x1 ∧ x1 ≤ 2147483647)) (b2 : ((-2147483648) ≤ x2 ∧ x2 ≤ 2147483647)) (b3 : ((-2147483648) ≤ x3 ∧ x3 ≤ 2147483647))
    (k0 : ∀ (S' : am_S) (i1 : Int32), ax_P0 none S' → rd S' = rd S → x1 < 1 → ((-2147483648) ≤ x1 ∧ x1 ≤ 0) → i1.toInt = (-1) → Q (some (.int i1), S'))
    (k1 : ∀ (S' : am_S) (i1 : Int32), ax_P0 none S' → rd S' = rd S → 1 ≤ x1 → 1000000 < x1 → (1000001 ≤ x1 ∧ x1 ≤ 2147483647) → i1.toInt = (-1) → Q (some (.int i1), S'))
    (k2 : ∀ (S' : am_S) (i1 : Int32), ax_P0 none S' → rd S' = rd S → 1 ≤ x1 → x1 ≤ 1000000 → x2 < 0 → (1 ≤ x1 ∧ x1 ≤ 1000000) → ((-2147483648) ≤ x2 ∧ x2 ≤ (-1)) → i1.toInt = (-1) → Q (some (.int i1), S'))
    (k3 : ∀ (S' : am_S) (i1 : Int32), ax_P0 none S' → rd S' = rd S → 1 ≤ x1 → x1 ≤ 1000000 → 0 ≤ x2 → 1000 < x2 → (1 ≤ x1 ∧ x1 ≤ 1000000) → (1001 ≤ x2 ∧ x2 ≤ 2147483647) → i1.toInt = (-1) → Q (some (.int i1), S'))
    (k4 : ∀ (S' : am_S) (i1 : Int32), ax_P0 none S' → rd S' = rd S → 1 ≤ x1 → x1 ≤ 1000000 → 0 ≤ x2 → x2 ≤ 1000 → x3 < 0 → (1 ≤ x1 ∧ x1 ≤ 1000000) → (0 ≤ x2 ∧ x2 ≤ 1000) → ((-2147483648) ≤ x3 ∧ x3 ≤ (-1)) → i1.toInt = (-1) → Q (some (.int i1), S'))
    (k5 : ∀ (S' : am_S) (i1 : Int32), ax_P0 none S' → rd S' = rd S → 1 ≤ x1 → x1 ≤ 1000000 → 0 ≤ x2 → x2 ≤ 1000 → 0 ≤ x3 → 999 < x3 → (1 ≤ x1 ∧ x1 ≤ 1000000) → (0 ≤ x2 ∧ x2 ≤ 1000) → (1000 ≤ x3 ∧ x3 ≤ 2147483647) → i1.toInt = (-1) → Q (some (.int i1), S'))
    (k6 : ∀ (x4 : Int) (S' : am_S) (i1 : Int32), ax_P0 none S' → rd S' = sg_up (sg_up (sg_up (sg_up (sg_up (sg_up (sg_up (rd S) 7 x4 x1) 8 x4 x2) 9 x4 x3) 10 x4 0) 11 x4 (-4)) 12 x4 (-4)) 6 0 (x4 + 1) → 1 ≤ x1 → x1 ≤ 1000000 → 0 ≤ x2 → x2 ≤ 1000 → 0 ≤ x3 → x3 ≤ 999 → rd S 6 0 = x4 → x4 < 16 → (1 ≤ x1 ∧ x1 ≤ 1000000) → (0 ≤ x2 ∧ x2 ≤ 1000) → (0 ≤ x3 ∧ x3 ≤ 999) → (0 ≤ x4 ∧ x4 ≤ 15) → i1.toInt = x4 → Q (some (.int i1), S'))
    (k7 : ∀ (x4 : Int) (S' : am_S) (i1 : Int32), ax_P0 none S' → rd S' = rd S → 1 ≤ x1 → x1 ≤ 1000000 → 0 ≤ x2 → x2 ≤ 1000 → 0 ≤ x3 → x3 ≤ 999 → rd S 6 0 = x4 → 16 ≤ x4 → (1 ≤ x1 ∧ x1 ≤ 1000000) → (0 ≤ x2 ∧ x2 ≤ 1000) → (0 ≤ x3 ∧ x3 ≤ 999) → (16 ≤ x4 ∧ x4 ≤ 16) → i1.toInt = (-3) → Q (some (.int i1), S')) : am_V none d 98 0 L ([]) S Q := by
  refine sg_use sg_ln_x_g hd hP (sg_xs [0, x1, x2, x3]) ⟨⟨Int.le_refl 0, Int.le_refl 0⟩, b1, b2, b3, trivial⟩ trivial trivial trivial ⟨l0, l1, l2, l3, trivial⟩ trivial ?_
  intro z hz x' L' st' S' hx hP' hW hL' hs' hJ hE' hT' hD'
  have q1 : x' 1 = x1 := hx 1 (by decide)
  subst q1
  have q2 : x' 2 = x2 := hx 2 (by decide)
  subst q2
  have q3 : x' 3 = x3 := hx 3 (by decide)
  subst q3
  simp only [sg_ln_x_Z, List.mem_cons, List.not_mem_nil, or_false] at hz
  rcases hz with rfl | rfl | rfl | rfl | rfl | rfl | rfl | rfl
  · obtain ⟨f0, -, -, hσ⟩ := hJ
    obtain ⟨e0, -⟩ := hE'
    intro v hv
    subst hv
    cases v with
    | none => exact hs'.elim
    | some v1 =>
      obtain ⟨⟨i1, rfl, g1⟩, -⟩ := hs'
      exact k0 S' i1 hP' hσ f0 e0 g1
  · obtain ⟨f0, f1, -, -, hσ⟩ := hJ
    obtain ⟨e0, -⟩ := hE'
    intro v hv
    subst hv
    cases v with
    | none => exact hs'.elim
    | some v1 =>
      obtain ⟨⟨i1, rfl, g1⟩, -⟩ := hs'
      exact k1 S' i1 hP' hσ f0 f1 e0 g1
  · obtain ⟨f0, f1, f2, -, -, hσ⟩ := hJ
    obtain ⟨e0, e1, -⟩ := hE'
    intro v hv
    subst hv
    cases v with
    | none => exact hs'.elim
    | some v1 =>
      obtain ⟨⟨i1, rfl, g1⟩, -⟩ := hs'
      exact k2 S' i1 hP' hσ f0 f1 f2 e0 e1 g1
  · obtain ⟨f0, f1, f2, f3, -, -, hσ⟩ := hJ
    obtain ⟨e0, e1, -⟩ := hE'
    intro v hv
    subst hv
    cases v with
    | none => exact hs'.elim
    | some v1 =>
      obtain ⟨⟨i1, rfl, g1⟩, -⟩ := hs'
      exact k3 S' i1 hP' hσ f0 f1 f2 f3 e0 e1 g1
  · obtain ⟨f0, f1, f2, f3, f4, -, -, hσ⟩ := hJ
    obtain ⟨e0, e1, e2, -⟩ := hE'
    intro v hv
    subst hv
    cases v with
    | none => exact hs'.elim
    | some v1 =>
      obtain ⟨⟨i1, rfl, g1⟩, -⟩ := hs'
      exact k4 S' i1 hP' hσ f0 f1 f2 f3 f4 e0 e1 e2 g1
  · obtain ⟨f0, f1, f2, f3, f4, f5, -, -, hσ⟩ := hJ
    obtain ⟨e0, e1, e2, -⟩ := hE'
    intro v hv
    subst hv
    cases v with
    | none => exact hs'.elim
    | some v1 =>
      obtain ⟨⟨i1, rfl, g1⟩, -⟩ := hs'
      exact k5 S' i1 hP' hσ f0 f1 f2 f3 f4 f5 e0 e1 e2 g1
  · obtain ⟨f0, f1, f2, f3, f4, f5, -, f7, f8, -, -, -, -, -, -, -, -, hσ⟩ := hJ
    obtain ⟨e0, e1, e2, e3, -⟩ := hE'
    intro v hv
    subst hv
    cases v with
    | none => exact hs'.elim
    | some v1 =>
      obtain ⟨⟨i1, rfl, g1⟩, -⟩ := hs'
      exact k6 (x' 4) S' i1 hP' hσ f0 f1 f2 f3 f4 f5 f7 f8 e0 e1 e2 e3 g1
  · obtain ⟨f0, f1, f2, f3, f4, f5, -, f7, f8, -, hσ⟩ := hJ
    obtain ⟨e0, e1, e2, e3, -⟩ := hE'
    intro v hv
    subst hv
    cases v with
    | none => exact hs'.elim
    | some v1 =>
      obtain ⟨⟨i1, rfl, g1⟩, -⟩ := hs'
      exact k7 (x' 4) S' i1 hP' hσ f0 f1 f2 f3 f4 f5 f7 f8 e0 e1 e2 e3 g1
def sg_ln_m_Z : List sg_z := [(0, [], [.inl (false, (0, .ofNat 0, .negSucc 0))], [(2, 0, (0, .ofNat 0, .ofNat 0), (0, .ofNat 0, .ofNat 0), (0, .ofNat 0, .ofNat 0)), (2, 2, (1, .ofNat 1, .ofNat 0), (0, .ofNat 0, .ofNat 1), (0, .ofNat 0, .ofNat 0))], [(1, [(.negSucc 2147483647, .ofNat 0)])], [], []),
  (0, [], [.inl (false, (0, .ofNat 0, .negSucc 0))], [(2, 0, (0, .ofNat 0, .ofNat 0), (0, .ofNat 0, .ofNat 0), (0, .ofNat 0, .ofNat 0)), (2, 4, (1, .ofNat 1, .ofNat 0), (0, .ofNat 0, .ofNat 1000000), (0, .ofNat 0, .ofNat 0)), (2, 3, (1, .ofNat 1, .ofNat 0), (0, .ofNat 0, .ofNat 1), (0, .ofNat 0, .ofNat 0))], [(1, [(.ofNat 1000001, .ofNat 2147483647)])], [], []),
  (0, [], [.inl (false, (0, .ofNat 0, .negSucc 0))], [(2, 0, (0, .ofNat 0, .ofNat 0), (0, .ofNat 0, .ofNat 0), (0, .ofNat 0, .ofNat 0)), (2, 2, (2, .ofNat 1, .ofNat 0), (0, .ofNat 0, .ofNat 0), (0, .ofNat 0, .ofNat 0)), (2, 1, (0, .ofNat 0, .ofNat 1), (0, .ofNat 0, .ofNat 0), (0, .ofNat 0, .ofNat 0)), (2, 5, (1, .ofNat 1, .ofNat 0), (0, .ofNat 0, .ofNat 1000000), (0, .ofNat 0, .ofNat 0)), (2, 3, (1, .ofNat 1, .ofNat 0), (0, .ofNat 0, .ofNat 1), (0, .ofNat 0, .ofNat 0))], [(1, [(.ofNat 1, .ofNat 1000000)]), (2, [(.negSucc 2147483647, .negSucc 0)])], [], []),
  (0, [], [.inl (false, (0, .ofNat 0, .negSucc 0))], [(2, 0, (0, .ofNat 0, .ofNat 0), (0, .ofNat 0, .ofNat 0), (0, .ofNat 0, .ofNat 0)), (2, 4, (2, .ofNat 1, .ofNat 0), (0, .ofNat 0, .ofNat 1000), (0, .ofNat 0, .ofNat 0)), (2, 3, (2, .ofNat 1, .ofNat 0), (0, .ofNat 0, .ofNat 0), (0, .ofNat 0, .ofNat 0)), (2, 1, (0, .ofNat 0, .ofNat 1), (0, .ofNat 0, .ofNat 0), (0, .ofNat 0, .ofNat 0)), (2, 5, (1, .ofNat 1, .ofNat 0), (0, .ofNat 0, .ofNat 1000000), (0, .ofNat 0, .ofNat 0)), (2, 3, (1, .ofNat 1, .ofNat 0), (0, .ofNat 0, .ofNat 1), (0, .ofNat 0, .ofNat 0))], [(1, [(.ofNat 1, .ofNat 1000000)]), (2, [(.ofNat 1001, .ofNat 2147483647)])], [], []),
  (0, [], [.inl (false, (0, .ofNat 0, .negSucc 0))], [(2, 0, (0, .ofNat 0, .ofNat 0), (0, .ofNat 0, .ofNat 0), (0, .ofNat 0, .ofNat 0)), (2, 2, (3, .ofNat 1, .ofNat 0), (0, .ofNat 0, .ofNat 0), (0, .ofNat 0, .ofNat 0)), (2, 1, (0, .ofNat 0, .ofNat 1), (0, .ofNat 0, .ofNat 0), (0, .ofNat 0, .ofNat 0)), (2, 5, (2, .ofNat 1, .ofNat 0), (0, .ofNat 0, .ofNat 1000), (0, .ofNat 0, .ofNat 0)), (2, 3, (2, .ofNat 1, .ofNat 0), (0, .ofNat 0, .ofNat 0), (0, .ofNat 0, .ofNat 0)), (2, 1, (0, .ofNat 0, .ofNat 1), (0, .ofNat 0, .ofNat 0), (0, .ofNat 0, .ofNat 0)), (2, 5, (1, .ofNat 1, .ofNat 0), (0, .ofNat 0, .ofNat 1000000), (0, .ofNat 0, .ofNat 0)), (2, 3, (1, .ofNat 1, .ofNat 0), (0, .ofNat 0, .ofNat 1), (0, .ofNat 0, .ofNat 0))], [(1, [(.ofNat 1, .ofNat 1000000)]), (2, [(.ofNat 0, .ofNat 1000)]), (3, [(.negSucc 2147483647, .negSucc 0)])], [], []),
  (0, [], [.inl (false, (0, .ofNat 0, .negSucc 0))], [(2, 0, (0, .ofNat 0, .ofNat 0), (0, .ofNat 0, .ofNat 0), (0, .ofNat 0, .ofNat 0)), (2, 4, (3, .ofNat 1, .ofNat 0), (0, .ofNat 0, .ofNat 999), (0, .ofNat 0, .ofNat 0)), (2, 3, (3, .ofNat 1, .ofNat 0), (0, .ofNat 0, .ofNat 0), (0, .ofNat 0, .ofNat 0)), (2, 1, (0, .ofNat 0, .ofNat 1), (0, .ofNat 0, .ofNat 0), (0, .ofNat 0, .ofNat 0)), (2, 5, (2, .ofNat 1, .ofNat 0), (0, .ofNat 0, .ofNat 1000), (0, .ofNat 0, .ofNat 0)), (2, 3, (2, .ofNat 1, .ofNat 0), (0, .ofNat 0, .ofNat 0), (0, .ofNat 0, .ofNat 0)), (2, 1, (0, .ofNat 0, .ofNat 1), (0, .ofNat 0, .ofNat 0), (0, .ofNat 0, .ofNat 0)), (2, 5, (1, .ofNat 1, .ofNat 0), (0, .ofNat 0, .ofNat 1000000), (0, .ofNat 0, .ofNat 0)), (2, 3, (1, .ofNat 1, .ofNat 0), (0, .ofNat 0, .ofNat 1), (0, .ofNat 0, .ofNat 0))], [(1, [(.ofNat 1, .ofNat 1000000)]), (2, [(.ofNat 0, .ofNat 1000)]), (3, [(.ofNat 1000, .ofNat 2147483647)])], [], []),
  (0, [], [.inl (false, (4, .ofNat 1, .ofNat 0))], [(0, 122, (0, .ofNat 0, .ofNat 5), (4, .ofNat 1, .ofNat 1), (0, .ofNat 0, .ofNat 0)), (1, 122, (0, .ofNat 0, .ofNat 5), (4, .ofNat 1, .ofNat 1), (0, .ofNat 0, .ofNat 0)), (0, 122, (0, .ofNat 0, .ofNat 5), (4, .ofNat 1, .ofNat 0), (0, .ofNat 0, .ofNat 0)), (1, 132, (4, .ofNat 1, .ofNat 0), (0, .ofNat 0, .ofNat 0), (0, .ofNat 0, .ofNat 0)), (0, 122, (0, .ofNat 0, .ofNat 5), (4, .ofNat 1, .ofNat 0), (0, .ofNat 0, .ofNat 0)), (1, 131, (4, .ofNat 1, .ofNat 0), (0, .ofNat 0, .negSucc 3), (0, .ofNat 0, .ofNat 0)), (0, 122, (0, .ofNat 0, .ofNat 5), (4, .ofNat 1, .ofNat 0), (0, .ofNat 0, .ofNat 0)), (1, 130, (4, .ofNat 1, .ofNat 0), (0, .ofNat 0, .negSucc 3), (0, .ofNat 0, .ofNat 0)), (0, 122, (0, .ofNat 0, .ofNat 5), (4, .ofNat 1, .ofNat 0), (0, .ofNat 0, .ofNat 0)), (1, 129, (4, .ofNat 1, .ofNat 0), (3, .ofNat 1, .ofNat 0), (0, .ofNat 0, .ofNat 0)), (0, 122, (0, .ofNat 0, .ofNat 5), (4, .ofNat 1, .ofNat 0), (0, .ofNat 0, .ofNat 0)), (1, 128, (4, .ofNat 1, .ofNat 0), (2, .ofNat 1, .ofNat 0), (0, .ofNat 0, .ofNat 0)), (0, 122, (0, .ofNat 0, .ofNat 5), (4, .ofNat 1, .ofNat 0), (0, .ofNat 0, .ofNat 0)), (1, 127, (4, .ofNat 1, .ofNat 0), (1, .ofNat 1, .ofNat 0), (0, .ofNat 0, .ofNat 0)), (0, 122, (0, .ofNat 0, .ofNat 5), (4, .ofNat 1, .ofNat 0), (0, .ofNat 0, .ofNat 0)), (2, 1, (4, .ofNat 1, .ofNat 0), (0, .ofNat 0, .ofNat 16), (0, .ofNat 0, .ofNat 0)), (0, 122, (0, .ofNat 0, .ofNat 5), (4, .ofNat 1, .ofNat 0), (0, .ofNat 0, .ofNat 0)), (2, 1, (0, .ofNat 0, .ofNat 1), (0, .ofNat 0, .ofNat 0), (0, .ofNat 0, .ofNat 0)), (2, 5, (3, .ofNat 1, .ofNat 0), (0, .ofNat 0, .ofNat 999), (0, .ofNat 0, .ofNat 0)), (2, 3, (3, .ofNat 1, .ofNat 0), (0, .ofNat 0, .ofNat 0), (0, .ofNat 0, .ofNat 0)), (2, 1, (0, .ofNat 0, .ofNat 1), (0, .ofNat 0, .ofNat 0), (0, .ofNat 0, .ofNat 0)), (2, 5, (2, .ofNat 1, .ofNat 0), (0, .ofNat 0, .ofNat 1000), (0, .ofNat 0, .ofNat 0)), (2, 3, (2, .ofNat 1, .ofNat 0), (0, .ofNat 0, .ofNat 0), (0, .ofNat 0, .ofNat 0)), (2, 1, (0, .ofNat 0, .ofNat 1), (0, .ofNat 0, .ofNat 0), (0, .ofNat 0, .ofNat 0)), (2, 5, (1, .ofNat 1, .ofNat 0), (0, .ofNat 0, .ofNat 1000000), (0, .ofNat 0, .ofNat 0)), (2, 3, (1, .ofNat 1, .ofNat 0), (0, .ofNat 0, .ofNat 1), (0, .ofNat 0, .ofNat 0))], [(1, [(.ofNat 1, .ofNat 1000000)]), (2, [(.ofNat 0, .ofNat 1000)]), (3, [(.ofNat 0, .ofNat 999)]), (4, [(.ofNat 0, .ofNat 15)])], [], []),
  (0, [], [.inl (false, (0, .ofNat 0, .negSucc 2))], [(2, 0, (4, .ofNat 1, .ofNat 0), (0, .ofNat 0, .ofNat 16), (0, .ofNat 0, .ofNat 0)), (0, 122, (0, .ofNat 0, .ofNat 5), (4, .ofNat 1, .ofNat 0), (0, .ofNat 0, .ofNat 0)), (2, 1, (0, .ofNat 0, .ofNat 1), (0, .ofNat 0, .ofNat 0), (0, .ofNat 0, .ofNat 0)), (2, 5, (3, .ofNat 1, .ofNat 0), (0, .ofNat 0, .ofNat 999), (0, .ofNat 0, .ofNat 0)), (2, 3, (3, .ofNat 1, .ofNat 0), (0, .ofNat 0, .ofNat 0), (0, .ofNat 0, .ofNat 0)), (2, 1, (0, .ofNat 0, .ofNat 1), (0, .ofNat 0, .ofNat 0), (0, .ofNat 0, .ofNat 0)), (2, 5, (2, .ofNat 1, .ofNat 0), (0, .ofNat 0, .ofNat 1000), (0, .ofNat 0, .ofNat 0)), (2, 3, (2, .ofNat 1, .ofNat 0), (0, .ofNat 0, .ofNat 0), (0, .ofNat 0, .ofNat 0)), (2, 1, (0, .ofNat 0, .ofNat 1), (0, .ofNat 0, .ofNat 0), (0, .ofNat 0, .ofNat 0)), (2, 5, (1, .ofNat 1, .ofNat 0), (0, .ofNat 0, .ofNat 1000000), (0, .ofNat 0, .ofNat 0)), (2, 3, (1, .ofNat 1, .ofNat 0), (0, .ofNat 0, .ofNat 1), (0, .ofNat 0, .ofNat 0))], [(1, [(.ofNat 1, .ofNat 1000000)]), (2, [(.ofNat 0, .ofNat 1000)]), (3, [(.ofNat 0, .ofNat 999)]), (4, [(.ofNat 16, .ofNat 16)])], [], [])]
set_option maxRecDepth 1000000 in
theorem sg_ln_m_g : sg_go [] [] 3000 167 0 1 4 [(0, [(.ofNat 0, .ofNat 0)]), (1, [(.negSucc 2147483647, .ofNat 2147483647)]), (2, [(.negSucc 2147483647, .ofNat 2147483647)]), (3, [(.negSucc 2147483647, .ofNat 2147483647)])] [] [] [] [(0, .inr (.inl [122])), (1, .inl (false, (1, .ofNat 1, .ofNat 0))), (2, .inl (false, (2, .ofNat 1, .ofNat 0))), (3, .inl (false, (3, .ofNat 1, .ofNat 0)))] [] [(122, some 5), (127, none), (128, none), (129, none), (130, none), (131, none), (132, none)] sg_ln_m_Z = true := by decide +kernel
theorem sg_ln_m {Q : Option Value × am_S → Prop} {d : Nat} {S : am_S} {L : am_L} {x1 x2 x3 : Int} (hd : 1 ≤ d) (hP : ax_P0 none S) (l0 : lc L 0 122) (l1 : li L 1 x1) (l2 : li L 2 x2) (l3 : li L 3 x3) (b1 : ((-2147483648) ≤ x1 ∧ x1 ≤ 2147483647)) (b2 : ((-2147483648) ≤ x2 ∧ x2 ≤ 2147483647)) (b3 : ((-2147483648) ≤ x3 ∧ x3 ≤ 2147483647))
    (k0 : ∀ (S' : am_S) (i1 : Int32), ax_P0 none S' → rd S' = rd S → x1 < 1 → ((-2147483648) ≤ x1 ∧ x1 ≤ 0) → i1.toInt = (-1) → Q (some (.int i1), S'))
    (k1 : ∀ (S' : am_S) (i1 : Int32), ax_P0 none S' → rd S' = rd S → 1 ≤ x1 → 1000000 < x1 → (1000001 ≤ x1 ∧ x1 ≤ 2147483647) → i1.toInt = (-1) → Q (some (.int i1), S'))
    (k2 : ∀ (S' : am_S) (i1 : Int32), ax_P0 none S' → rd S' = rd S → 1 ≤ x1 → x1 ≤ 1000000 → x2 < 0 → (1 ≤ x1 ∧ x1 ≤ 1000000) → ((-2147483648) ≤ x2 ∧ x2 ≤ (-1)) → i1.toInt = (-1) → Q (some (.int i1), S'))
    (k3 : ∀ (S' : am_S) (i1 : Int32), ax_P0 none S' → rd S' = rd S → 1 ≤ x1 → x1 ≤ 1000000 → 0 ≤ x2 → 1000 < x2 → (1 ≤ x1 ∧ x1 ≤ 1000000) → (1001 ≤ x2 ∧ x2 ≤ 2147483647) → i1.toInt = (-1) → Q (some (.int i1), S'))
    (k4 : ∀ (S' : am_S) (i1 : Int32), ax_P0 none S' → rd S' = rd S → 1 ≤ x1 → x1 ≤ 1000000 → 0 ≤ x2 → x2 ≤ 1000 → x3 < 0 → (1 ≤ x1 ∧ x1 ≤ 1000000) → (0 ≤ x2 ∧ x2 ≤ 1000) → ((-2147483648) ≤ x3 ∧ x3 ≤ (-1)) → i1.toInt = (-1) → Q (some (.int i1), S'))
    (k5 : ∀ (S' : am_S) (i1 : Int32), ax_P0 none S' → rd S' = rd S → 1 ≤ x1 → x1 ≤ 1000000 → 0 ≤ x2 → x2 ≤ 1000 → 0 ≤ x3 → 999 < x3 → (1 ≤ x1 ∧ x1 ≤ 1000000) → (0 ≤ x2 ∧ x2 ≤ 1000) → (1000 ≤ x3 ∧ x3 ≤ 2147483647) → i1.toInt = (-1) → Q (some (.int i1), S'))
    (k6 : ∀ (x4 : Int) (S' : am_S) (i1 : Int32), ax_P0 none S' → rd S' = sg_up (sg_up (sg_up (sg_up (sg_up (sg_up (sg_up (rd S) 127 x4 x1) 128 x4 x2) 129 x4 x3) 130 x4 (-4)) 131 x4 (-4)) 132 x4 0) 122 5 (x4 + 1) → 1 ≤ x1 → x1 ≤ 1000000 → 0 ≤ x2 → x2 ≤ 1000 → 0 ≤ x3 → x3 ≤ 999 → rd S 122 5 = x4 → x4 ≠ 16 → (1 ≤ x1 ∧ x1 ≤ 1000000) → (0 ≤ x2 ∧ x2 ≤ 1000) → (0 ≤ x3 ∧ x3 ≤ 999) → (0 ≤ x4 ∧ x4 ≤ 15) → i1.toInt = x4 → Q (some (.int i1), S'))
    (k7 : ∀ (x4 : Int) (S' : am_S) (i1 : Int32), ax_P0 none S' → rd S' = rd S → 1 ≤ x1 → x1 ≤ 1000000 → 0 ≤ x2 → x2 ≤ 1000 → 0 ≤ x3 → x3 ≤ 999 → rd S 122 5 = x4 → x4 = 16 → (1 ≤ x1 ∧ x1 ≤ 1000000) → (0 ≤ x2 ∧ x2 ≤ 1000) → (0 ≤ x3 ∧ x3 ≤ 999) → (16 ≤ x4 ∧ x4 ≤ 16) → i1.toInt = (-3) → Q (some (.int i1), S')) : am_V none d 167 0 L ([]) S Q := by
  refine sg_use sg_ln_m_g hd hP (sg_xs [0, x1, x2, x3]) ⟨⟨Int.le_refl 0, Int.le_refl 0⟩, b1, b2, b3, trivial⟩ trivial trivial trivial ⟨l0, l1, l2, l3, trivial⟩ trivial ?_
  intro z hz x' L' st' S' hx hP' hW hL' hs' hJ hE' hT' hD'
  have q1 : x' 1 = x1 := hx 1 (by decide)
  subst q1
  have q2 : x' 2 = x2 := hx 2 (by decide)
  subst q2
  have q3 : x' 3 = x3 := hx 3 (by decide)
  subst q3
  simp only [sg_ln_m_Z, List.mem_cons, List.not_mem_nil, or_false] at hz
  rcases hz with rfl | rfl | rfl | rfl | rfl | rfl | rfl | rfl
  · obtain ⟨f0, -, hσ⟩ := hJ
    obtain ⟨e0, -⟩ := hE'
    intro v hv
    subst hv
    cases v with
    | none => exact hs'.elim
    | some v1 =>
      obtain ⟨⟨i1, rfl, g1⟩, -⟩ := hs'
      exact k0 S' i1 hP' hσ f0 e0 g1
  · obtain ⟨f0, f1, -, hσ⟩ := hJ
    obtain ⟨e0, -⟩ := hE'
    intro v hv
    subst hv
    cases v with
    | none => exact hs'.elim
    | some v1 =>
      obtain ⟨⟨i1, rfl, g1⟩, -⟩ := hs'
      exact k1 S' i1 hP' hσ f0 f1 e0 g1
  · obtain ⟨f0, f1, -, f3, -, hσ⟩ := hJ
    obtain ⟨e0, e1, -⟩ := hE'
    intro v hv
    subst hv
    cases v with
    | none => exact hs'.elim
    | some v1 =>
      obtain ⟨⟨i1, rfl, g1⟩, -⟩ := hs'
      exact k2 S' i1 hP' hσ f0 f1 f3 e0 e1 g1
  · obtain ⟨f0, f1, -, f3, f4, -, hσ⟩ := hJ
    obtain ⟨e0, e1, -⟩ := hE'
    intro v hv
    subst hv
    cases v with
    | none => exact hs'.elim
    | some v1 =>
      obtain ⟨⟨i1, rfl, g1⟩, -⟩ := hs'
      exact k3 S' i1 hP' hσ f0 f1 f3 f4 e0 e1 g1
  · obtain ⟨f0, f1, -, f3, f4, -, f6, -, hσ⟩ := hJ
    obtain ⟨e0, e1, e2, -⟩ := hE'
    intro v hv
    subst hv
    cases v with
    | none => exact hs'.elim
    | some v1 =>
      obtain ⟨⟨i1, rfl, g1⟩, -⟩ := hs'
      exact k4 S' i1 hP' hσ f0 f1 f3 f4 f6 e0 e1 e2 g1
  · obtain ⟨f0, f1, -, f3, f4, -, f6, f7, -, hσ⟩ := hJ
    obtain ⟨e0, e1, e2, -⟩ := hE'
    intro v hv
    subst hv
    cases v with
    | none => exact hs'.elim
    | some v1 =>
      obtain ⟨⟨i1, rfl, g1⟩, -⟩ := hs'
      exact k5 S' i1 hP' hσ f0 f1 f3 f4 f6 f7 e0 e1 e2 g1
  · obtain ⟨f0, f1, -, f3, f4, -, f6, f7, -, f9, f10, -, -, -, -, -, -, -, -, hσ⟩ := hJ
    obtain ⟨e0, e1, e2, e3, -⟩ := hE'
    intro v hv
    subst hv
    cases v with
    | none => exact hs'.elim
    | some v1 =>
      obtain ⟨⟨i1, rfl, g1⟩, -⟩ := hs'
      exact k6 (x' 4) S' i1 hP' hσ f0 f1 f3 f4 f6 f7 f9 f10 e0 e1 e2 e3 g1
  · obtain ⟨f0, f1, -, f3, f4, -, f6, f7, -, f9, f10, hσ⟩ := hJ
    obtain ⟨e0, e1, e2, e3, -⟩ := hE'
    intro v hv
    subst hv
    cases v with
    | none => exact hs'.elim
    | some v1 =>
      obtain ⟨⟨i1, rfl, g1⟩, -⟩ := hs'
      exact k7 (x' 4) S' i1 hP' hσ f0 f1 f3 f4 f6 f7 f9 f10 e0 e1 e2 e3 g1
def sg_im_x0_Z : List sg_z := [(3, [(0, .inr (.inl [0])), (1, .inl (false, (1, .ofNat 1, .ofNat 0))), (2, .inl (false, (0, .ofNat 0, .ofNat 0)))], [], [], [(1, [(.ofNat 0, .ofNat 15)])], [], [])]
set_option maxRecDepth 1000000 in
theorem sg_im_x0_g : sg_go [] [2] 3000 148 0 0 2 [(0, [(.ofNat 0, .ofNat 0)]), (1, [(.ofNat 0, .ofNat 15)])] [] [] [] [(0, .inr (.inl [0])), (1, .inl (false, (1, .ofNat 1, .ofNat 0)))] [] [] sg_im_x0_Z = true := by decide +kernel
theorem sg_im_x0 {Q : Option Value × am_S → Prop} {d : Nat} {S : am_S} {L : am_L} {x1 : Int} (hd : 0 ≤ d) (hP : ax_P0 none S) (l0 : lc L 0 0) (l1 : li L 1 x1) (b1 : (0 ≤ x1 ∧ x1 ≤ 15))
    (k0 : ∀ (L' : am_L), (0 ≤ x1 ∧ x1 ≤ 15) → lc L' 0 0 → li L' 1 x1 → li L' 2 0 → am_V none d 148 2 L' ([]) S Q) : am_V none d 148 0 L ([]) S Q := by
  refine sg_use sg_im_x0_g hd hP (sg_xs [0, x1]) ⟨⟨Int.le_refl 0, Int.le_refl 0⟩, b1, trivial⟩ trivial trivial trivial ⟨l0, l1, trivial⟩ trivial ?_
  intro z hz x' L' st' S' hx hP' hW hL' hs' hJ hE' hT' hD'
  have q1 : x' 1 = x1 := hx 1 (by decide)
  subst q1
  have eS : S' = S := hW.1 rfl
  subst eS
  simp only [sg_im_x0_Z, List.mem_cons, List.not_mem_nil, or_false] at hz
  rcases hz with rfl
  · have hσ := hJ
    obtain ⟨e0, -⟩ := hE'
    obtain ⟨p0, p1, p2, -⟩ := hL'
    obtain rfl := sg_tn hs'
    exact k0 L' e0 p0 p1 p2
def sg_im_x1_Z : List sg_z := [(0, [], [.inl (false, (0, .ofNat 0, .ofNat 0))], [(2, 3, (2, .ofNat 1, .ofNat 0), (3, .ofNat 1, .ofNat 0), (0, .ofNat 0, .ofNat 0)), (0, 0, (0, .ofNat 0, .ofNat 10), (3, .ofNat 1, .ofNat 0), (0, .ofNat 0, .ofNat 0))], [(1, [(.ofNat 0, .ofNat 15)]), (2, [(.ofNat 0, .ofNat 12)]), (3, [(.ofNat 0, .ofNat 12)])], [], []),
  (0, [], [.inl (false, (0, .ofNat 0, .ofNat 1))], [(2, 0, (4, .ofNat 1, .ofNat 0), (1, .ofNat 1, .ofNat 0), (0, .ofNat 0, .ofNat 0)), (0, 68, (2, .ofNat 1, .ofNat 0), (4, .ofNat 1, .ofNat 0), (0, .ofNat 0, .ofNat 0)), (2, 2, (2, .ofNat 1, .ofNat 0), (3, .ofNat 1, .ofNat 0), (0, .ofNat 0, .ofNat 0)), (0, 0, (0, .ofNat 0, .ofNat 10), (3, .ofNat 1, .ofNat 0), (0, .ofNat 0, .ofNat 0))], [(1, [(.ofNat 0, .ofNat 15)]), (2, [(.ofNat 0, .ofNat 11)]), (3, [(.ofNat 1, .ofNat 12)]), (4, [(.ofNat 0, .ofNat 15)])], [], []),
  (3, [(0, .inr (.inl [0])), (1, .inl (false, (1, .ofNat 1, .ofNat 0))), (2, .inl (false, (2, .ofNat 1, .ofNat 1)))], [], [(2, 1, (5, .ofNat 1, .ofNat 0), (1, .ofNat 1, .ofNat 0), (0, .ofNat 0, .ofNat 0)), (0, 69, (2, .ofNat 1, .ofNat 0), (5, .ofNat 1, .ofNat 0), (0, .ofNat 0, .ofNat 0)), (2, 1, (4, .ofNat 1, .ofNat 0), (1, .ofNat 1, .ofNat 0), (0, .ofNat 0, .ofNat 0)), (0, 68, (2, .ofNat 1, .ofNat 0), (4, .ofNat 1, .ofNat 0), (0, .ofNat 0, .ofNat 0)), (2, 2, (2, .ofNat 1, .ofNat 0), (3, .ofNat 1, .ofNat 0), (0, .ofNat 0, .ofNat 0)), (0, 0, (0, .ofNat 0, .ofNat 10), (3, .ofNat 1, .ofNat 0), (0, .ofNat 0, .ofNat 0))], [(1, [(.ofNat 0, .ofNat 15)]), (2, [(.ofNat 0, .ofNat 11)]), (3, [(.ofNat 1, .ofNat 12)]), (4, [(.ofNat 0, .ofNat 15)]), (5, [(.ofNat 0, .ofNat 15)])], [], []),
  (0, [], [.inl (false, (0, .ofNat 0, .ofNat 1))], [(2, 0, (5, .ofNat 1, .ofNat 0), (1, .ofNat 1, .ofNat 0), (0, .ofNat 0, .ofNat 0)), (0, 69, (2, .ofNat 1, .ofNat 0), (5, .ofNat 1, .ofNat 0), (0, .ofNat 0, .ofNat 0)), (2, 1, (4, .ofNat 1, .ofNat 0), (1, .ofNat 1, .ofNat 0), (0, .ofNat 0, .ofNat 0)), (0, 68, (2, .ofNat 1, .ofNat 0), (4, .ofNat 1, .ofNat 0), (0, .ofNat 0, .ofNat 0)), (2, 2, (2, .ofNat 1, .ofNat 0), (3, .ofNat 1, .ofNat 0), (0, .ofNat 0, .ofNat 0)), (0, 0, (0, .ofNat 0, .ofNat 10), (3, .ofNat 1, .ofNat 0), (0, .ofNat 0, .ofNat 0))], [(1, [(.ofNat 0, .ofNat 15)]), (2, [(.ofNat 0, .ofNat 11)]), (3, [(.ofNat 1, .ofNat 12)]), (4, [(.ofNat 0, .ofNat 15)]), (5, [(.ofNat 0, .ofNat 15)])], [], [])]
set_option maxRecDepth 1000000 in
theorem sg_im_x1_g : sg_go [] [2] 3000 148 2 0 3 [(0, [(.ofNat 0, .ofNat 0)]), (1, [(.ofNat 0, .ofNat 15)]), (2, [(.ofNat 0, .ofNat 12)])] [] [] [] [(0, .inr (.inl [0])), (1, .inl (false, (1, .ofNat 1, .ofNat 0))), (2, .inl (false, (2, .ofNat 1, .ofNat 0)))] [] [] sg_im_x1_Z = true := by decide +kernel
theorem sg_im_x1 {Q : Option Value × am_S → Prop} {d : Nat} {S : am_S} {L : am_L} {x1 x2 : Int} (hd : 0 ≤ d) (hP : ax_P0 none S) (l0 : lc L 0 0) (l1 : li L 1 x1) (l2 : li L 2 x2) (b1 : (0 ≤ x1 ∧ x1 ≤ 15)) (b2 : (0 ≤ x2 ∧ x2 ≤ 12))
    (k0 : ∀ (x3 : Int) (i1 : Int32), rd S 0 10 = x3 → x3 ≤ x2 → (0 ≤ x1 ∧ x1 ≤ 15) → (0 ≤ x2 ∧ x2 ≤ 12) → (0 ≤ x3 ∧ x3 ≤ 12) → i1.toInt = 0 → Q (some (.int i1), S))
    (k1 : ∀ (x3 x4 : Int) (i1 : Int32), rd S 0 10 = x3 → x2 < x3 → rd S 68 x2 = x4 → x4 = x1 → (0 ≤ x1 ∧ x1 ≤ 15) → (0 ≤ x2 ∧ x2 ≤ 11) → (1 ≤ x3 ∧ x3 ≤ 12) → (0 ≤ x4 ∧ x4 ≤ 15) → i1.toInt = 1 → Q (some (.int i1), S))
    (k2 : ∀ (x3 x4 x5 : Int) (L' : am_L), rd S 0 10 = x3 → x2 < x3 → rd S 68 x2 = x4 → x4 ≠ x1 → rd S 69 x2 = x5 → x5 ≠ x1 → (0 ≤ x1 ∧ x1 ≤ 15) → (0 ≤ x2 ∧ x2 ≤ 11) → (1 ≤ x3 ∧ x3 ≤ 12) → (0 ≤ x4 ∧ x4 ≤ 15) → (0 ≤ x5 ∧ x5 ≤ 15) → lc L' 0 0 → li L' 1 x1 → li L' 2 (x2 + 1) → am_V none d 148 2 L' ([]) S Q)
    (k3 : ∀ (x3 x4 x5 : Int) (i1 : Int32), rd S 0 10 = x3 → x2 < x3 → rd S 68 x2 = x4 → x4 ≠ x1 → rd S 69 x2 = x5 → x5 = x1 → (0 ≤ x1 ∧ x1 ≤ 15) → (0 ≤ x2 ∧ x2 ≤ 11) → (1 ≤ x3 ∧ x3 ≤ 12) → (0 ≤ x4 ∧ x4 ≤ 15) → (0 ≤ x5 ∧ x5 ≤ 15) → i1.toInt = 1 → Q (some (.int i1), S)) : am_V none d 148 2 L ([]) S Q := by
  refine sg_use sg_im_x1_g hd hP (sg_xs [0, x1, x2]) ⟨⟨Int.le_refl 0, Int.le_refl 0⟩, b1, b2, trivial⟩ trivial trivial trivial ⟨l0, l1, l2, trivial⟩ trivial ?_
  intro z hz x' L' st' S' hx hP' hW hL' hs' hJ hE' hT' hD'
  have q1 : x' 1 = x1 := hx 1 (by decide)
  subst q1
  have q2 : x' 2 = x2 := hx 2 (by decide)
  subst q2
  have eS : S' = S := hW.1 rfl
  subst eS
  simp only [sg_im_x1_Z, List.mem_cons, List.not_mem_nil, or_false] at hz
  rcases hz with rfl | rfl | rfl | rfl
  · obtain ⟨f0, f1, hσ⟩ := hJ
    obtain ⟨e0, e1, e2, -⟩ := hE'
    intro v hv
    subst hv
    cases v with
    | none => exact hs'.elim
    | some v1 =>
      obtain ⟨⟨i1, rfl, g1⟩, -⟩ := hs'
      exact k0 (x' 3) i1 f0 f1 e0 e1 e2 g1
  · obtain ⟨f0, f1, f2, f3, hσ⟩ := hJ
    obtain ⟨e0, e1, e2, e3, -⟩ := hE'
    intro v hv
    subst hv
    cases v with
    | none => exact hs'.elim
    | some v1 =>
      obtain ⟨⟨i1, rfl, g1⟩, -⟩ := hs'
      exact k1 (x' 3) (x' 4) i1 f0 f1 f2 f3 e0 e1 e2 e3 g1
  · obtain ⟨f0, f1, f2, f3, f4, f5, hσ⟩ := hJ
    obtain ⟨e0, e1, e2, e3, e4, -⟩ := hE'
    obtain ⟨p0, p1, p2, -⟩ := hL'
    obtain rfl := sg_tn hs'
    exact k2 (x' 3) (x' 4) (x' 5) L' f0 f1 f2 f3 f4 f5 e0 e1 e2 e3 e4 p0 p1 p2
  · obtain ⟨f0, f1, f2, f3, f4, f5, hσ⟩ := hJ
    obtain ⟨e0, e1, e2, e3, e4, -⟩ := hE'
    intro v hv
    subst hv
    cases v with
    | none => exact hs'.elim
    | some v1 =>
      obtain ⟨⟨i1, rfl, g1⟩, -⟩ := hs'
      exact k3 (x' 3) (x' 4) (x' 5) i1 f0 f1 f2 f3 f4 f5 e0 e1 e2 e3 e4 g1
def sg_im_m0_Z : List sg_z := [(5, [(0, .inr (.inl [122])), (1, .inl (false, (1, .ofNat 1, .ofNat 0))), (2, .inl (false, (0, .ofNat 0, .ofNat 0))), (3, .inl (false, (0, .ofNat 0, .ofNat 0)))], [], [], [(1, [(.ofNat 0, .ofNat 15)])], [], [])]
set_option maxRecDepth 1000000 in
theorem sg_im_m0_g : sg_go [] [4] 3000 234 0 0 2 [(0, [(.ofNat 0, .ofNat 0)]), (1, [(.ofNat 0, .ofNat 15)])] [] [] [] [(0, .inr (.inl [122])), (1, .inl (false, (1, .ofNat 1, .ofNat 0)))] [] [] sg_im_m0_Z = true := by decide +kernel
theorem sg_im_m0 {Q : Option Value × am_S → Prop} {d : Nat} {S : am_S} {L : am_L} {x1 : Int} (hd : 0 ≤ d) (hP : ax_P0 none S) (l0 : lc L 0 122) (l1 : li L 1 x1) (b1 : (0 ≤ x1 ∧ x1 ≤ 15))
    (k0 : ∀ (L' : am_L), (0 ≤ x1 ∧ x1 ≤ 15) → lc L' 0 122 → li L' 1 x1 → li L' 2 0 → li L' 3 0 → am_V none d 234 4 L' ([]) S Q) : am_V none d 234 0 L ([]) S Q := by
  refine sg_use sg_im_m0_g hd hP (sg_xs [0, x1]) ⟨⟨Int.le_refl 0, Int.le_refl 0⟩, b1, trivial⟩ trivial trivial trivial ⟨l0, l1, trivial⟩ trivial ?_
  intro z hz x' L' st' S' hx hP' hW hL' hs' hJ hE' hT' hD'
  have q1 : x' 1 = x1 := hx 1 (by decide)
  subst q1
  have eS : S' = S := hW.1 rfl
  subst eS
  simp only [sg_im_m0_Z, List.mem_cons, List.not_mem_nil, or_false] at hz
  rcases hz with rfl
  · have hσ := hJ
    obtain ⟨e0, -⟩ := hE'
    obtain ⟨p0, p1, p2, p3, -⟩ := hL'
    obtain rfl := sg_tn hs'
    exact k0 L' e0 p0 p1 p2 p3
def sg_im_m1_Z : List sg_z := [(0, [], [.inl (false, (2, .ofNat 1, .ofNat 0))], [(2, 3, (3, .ofNat 1, .ofNat 0), (4, .ofNat 1, .ofNat 0), (0, .ofNat 0, .ofNat 0)), (0, 122, (0, .ofNat 0, .ofNat 47), (4, .ofNat 1, .ofNat 0), (0, .ofNat 0, .ofNat 0))], [(1, [(.ofNat 0, .ofNat 15)]), (2, [(.ofNat 0, .ofNat 1)]), (3, [(.ofNat 0, .ofNat 12)]), (4, [(.ofNat 0, .ofNat 12)])], [], []),
  (5, [(0, .inr (.inl [122])), (1, .inl (false, (1, .ofNat 1, .ofNat 0))), (2, .inl (false, (0, .ofNat 0, .ofNat 1))), (3, .inl (false, (3, .ofNat 1, .ofNat 1)))], [], [(2, 1, (2, .ofNat 1, .ofNat 0), (0, .ofNat 0, .ofNat 0), (0, .ofNat 0, .ofNat 0)), (2, 2, (3, .ofNat 1, .ofNat 0), (4, .ofNat 1, .ofNat 0), (0, .ofNat 0, .ofNat 0)), (0, 122, (0, .ofNat 0, .ofNat 47), (4, .ofNat 1, .ofNat 0), (0, .ofNat 0, .ofNat 0))], [(1, [(.ofNat 0, .ofNat 15)]), (2, [(.ofNat 1, .ofNat 1)]), (3, [(.ofNat 0, .ofNat 11)]), (4, [(.ofNat 1, .ofNat 12)])], [], []),
  (5, [(0, .inr (.inl [122])), (1, .inl (false, (1, .ofNat 1, .ofNat 0))), (2, .inl (false, (0, .ofNat 0, .ofNat 1))), (3, .inl (false, (3, .ofNat 1, .ofNat 1)))], [], [(2, 0, (5, .ofNat 1, .ofNat 0), (1, .ofNat 1, .ofNat 0), (0, .ofNat 0, .ofNat 0)), (0, 152, (3, .ofNat 1, .ofNat 0), (5, .ofNat 1, .ofNat 0), (0, .ofNat 0, .ofNat 0)), (2, 0, (2, .ofNat 1, .ofNat 0), (0, .ofNat 0, .ofNat 0), (0, .ofNat 0, .ofNat 0)), (2, 2, (3, .ofNat 1, .ofNat 0), (4, .ofNat 1, .ofNat 0), (0, .ofNat 0, .ofNat 0)), (0, 122, (0, .ofNat 0, .ofNat 47), (4, .ofNat 1, .ofNat 0), (0, .ofNat 0, .ofNat 0))], [(1, [(.ofNat 0, .ofNat 15)]), (2, [(.ofNat 0, .ofNat 0)]), (3, [(.ofNat 0, .ofNat 11)]), (4, [(.ofNat 1, .ofNat 12)]), (5, [(.ofNat 0, .ofNat 15)])], [], []),
  (5, [(0, .inr (.inl [122])), (1, .inl (false, (1, .ofNat 1, .ofNat 0))), (2, .inl (false, (0, .ofNat 0, .ofNat 0))), (3, .inl (false, (3, .ofNat 1, .ofNat 1)))], [], [(2, 1, (6, .ofNat 1, .ofNat 0), (1, .ofNat 1, .ofNat 0), (0, .ofNat 0, .ofNat 0)), (0, 153, (3, .ofNat 1, .ofNat 0), (6, .ofNat 1, .ofNat 0), (0, .ofNat 0, .ofNat 0)), (2, 1, (5, .ofNat 1, .ofNat 0), (1, .ofNat 1, .ofNat 0), (0, .ofNat 0, .ofNat 0)), (0, 152, (3, .ofNat 1, .ofNat 0), (5, .ofNat 1, .ofNat 0), (0, .ofNat 0, .ofNat 0)), (2, 0, (2, .ofNat 1, .ofNat 0), (0, .ofNat 0, .ofNat 0), (0, .ofNat 0, .ofNat 0)), (2, 2, (3, .ofNat 1, .ofNat 0), (4, .ofNat 1, .ofNat 0), (0, .ofNat 0, .ofNat 0)), (0, 122, (0, .ofNat 0, .ofNat 47), (4, .ofNat 1, .ofNat 0), (0, .ofNat 0, .ofNat 0))], [(1, [(.ofNat 0, .ofNat 15)]), (2, [(.ofNat 0, .ofNat 0)]), (3, [(.ofNat 0, .ofNat 11)]), (4, [(.ofNat 1, .ofNat 12)]), (5, [(.ofNat 0, .ofNat 15)]), (6, [(.ofNat 0, .ofNat 15)])], [], []),
  (5, [(0, .inr (.inl [122])), (1, .inl (false, (1, .ofNat 1, .ofNat 0))), (2, .inl (false, (0, .ofNat 0, .ofNat 1))), (3, .inl (false, (3, .ofNat 1, .ofNat 1)))], [], [(2, 0, (6, .ofNat 1, .ofNat 0), (1, .ofNat 1, .ofNat 0), (0, .ofNat 0, .ofNat 0)), (0, 153, (3, .ofNat 1, .ofNat 0), (6, .ofNat 1, .ofNat 0), (0, .ofNat 0, .ofNat 0)), (2, 1, (5, .ofNat 1, .ofNat 0), (1, .ofNat 1, .ofNat 0), (0, .ofNat 0, .ofNat 0)), (0, 152, (3, .ofNat 1, .ofNat 0), (5, .ofNat 1, .ofNat 0), (0, .ofNat 0, .ofNat 0)), (2, 0, (2, .ofNat 1, .ofNat 0), (0, .ofNat 0, .ofNat 0), (0, .ofNat 0, .ofNat 0)), (2, 2, (3, .ofNat 1, .ofNat 0), (4, .ofNat 1, .ofNat 0), (0, .ofNat 0, .ofNat 0)), (0, 122, (0, .ofNat 0, .ofNat 47), (4, .ofNat 1, .ofNat 0), (0, .ofNat 0, .ofNat 0))], [(1, [(.ofNat 0, .ofNat 15)]), (2, [(.ofNat 0, .ofNat 0)]), (3, [(.ofNat 0, .ofNat 11)]), (4, [(.ofNat 1, .ofNat 12)]), (5, [(.ofNat 0, .ofNat 15)]), (6, [(.ofNat 0, .ofNat 15)])], [], [])]
set_option maxRecDepth 1000000 in
theorem sg_im_m1_g : sg_go [] [4] 3000 234 4 0 4 [(0, [(.ofNat 0, .ofNat 0)]), (1, [(.ofNat 0, .ofNat 15)]), (2, [(.ofNat 0, .ofNat 1)]), (3, [(.ofNat 0, .ofNat 12)])] [] [] [] [(0, .inr (.inl [122])), (1, .inl (false, (1, .ofNat 1, .ofNat 0))), (2, .inl (false, (2, .ofNat 1, .ofNat 0))), (3, .inl (false, (3, .ofNat 1, .ofNat 0)))] [] [] sg_im_m1_Z = true := by decide +kernel
theorem sg_im_m1 {Q : Option Value × am_S → Prop} {d : Nat} {S : am_S} {L : am_L} {x1 x2 x3 : Int} (hd : 0 ≤ d) (hP : ax_P0 none S) (l0 : lc L 0 122) (l1 : li L 1 x1) (l2 : li L 2 x2) (l3 : li L 3 x3) (b1 : (0 ≤ x1 ∧ x1 ≤ 15)) (b2 : (0 ≤ x2 ∧ x2 ≤ 1)) (b3 : (0 ≤ x3 ∧ x3 ≤ 12))
    (k0 : ∀ (x4 : Int) (i1 : Int32), rd S 122 47 = x4 → x4 ≤ x3 → (0 ≤ x1 ∧ x1 ≤ 15) → (0 ≤ x2 ∧ x2 ≤ 1) → (0 ≤ x3 ∧ x3 ≤ 12) → (0 ≤ x4 ∧ x4 ≤ 12) → i1.toInt = x2 → Q (some (.int i1), S))
    (k1 : ∀ (x4 : Int) (L' : am_L), rd S 122 47 = x4 → x3 < x4 → x2 ≠ 0 → (0 ≤ x1 ∧ x1 ≤ 15) → (1 ≤ x2 ∧ x2 ≤ 1) → (0 ≤ x3 ∧ x3 ≤ 11) → (1 ≤ x4 ∧ x4 ≤ 12) → lc L' 0 122 → li L' 1 x1 → li L' 2 1 → li L' 3 (x3 + 1) → am_V none d 234 4 L' ([]) S Q)
    (k2 : ∀ (x4 x5 : Int) (L' : am_L), rd S 122 47 = x4 → x3 < x4 → x2 = 0 → rd S 152 x3 = x5 → x5 = x1 → (0 ≤ x1 ∧ x1 ≤ 15) → (0 ≤ x2 ∧ x2 ≤ 0) → (0 ≤ x3 ∧ x3 ≤ 11) → (1 ≤ x4 ∧ x4 ≤ 12) → (0 ≤ x5 ∧ x5 ≤ 15) → lc L' 0 122 → li L' 1 x1 → li L' 2 1 → li L' 3 (x3 + 1) → am_V none d 234 4 L' ([]) S Q)
    (k3 : ∀ (x4 x5 x6 : Int) (L' : am_L), rd S 122 47 = x4 → x3 < x4 → x2 = 0 → rd S 152 x3 = x5 → x5 ≠ x1 → rd S 153 x3 = x6 → x6 ≠ x1 → (0 ≤ x1 ∧ x1 ≤ 15) → (0 ≤ x2 ∧ x2 ≤ 0) → (0 ≤ x3 ∧ x3 ≤ 11) → (1 ≤ x4 ∧ x4 ≤ 12) → (0 ≤ x5 ∧ x5 ≤ 15) → (0 ≤ x6 ∧ x6 ≤ 15) → lc L' 0 122 → li L' 1 x1 → li L' 2 0 → li L' 3 (x3 + 1) → am_V none d 234 4 L' ([]) S Q)
    (k4 : ∀ (x4 x5 x6 : Int) (L' : am_L), rd S 122 47 = x4 → x3 < x4 → x2 = 0 → rd S 152 x3 = x5 → x5 ≠ x1 → rd S 153 x3 = x6 → x6 = x1 → (0 ≤ x1 ∧ x1 ≤ 15) → (0 ≤ x2 ∧ x2 ≤ 0) → (0 ≤ x3 ∧ x3 ≤ 11) → (1 ≤ x4 ∧ x4 ≤ 12) → (0 ≤ x5 ∧ x5 ≤ 15) → (0 ≤ x6 ∧ x6 ≤ 15) → lc L' 0 122 → li L' 1 x1 → li L' 2 1 → li L' 3 (x3 + 1) → am_V none d 234 4 L' ([]) S Q) : am_V none d 234 4 L ([]) S Q := by
  refine sg_use sg_im_m1_g hd hP (sg_xs [0, x1, x2, x3]) ⟨⟨Int.le_refl 0, Int.le_refl 0⟩, b1, b2, b3, trivial⟩ trivial trivial trivial ⟨l0, l1, l2, l3, trivial⟩ trivial ?_
  intro z hz x' L' st' S' hx hP' hW hL' hs' hJ hE' hT' hD'
  have q1 : x' 1 = x1 := hx 1 (by decide)
  subst q1
  have q2 : x' 2 = x2 := hx 2 (by decide)
  subst q2
  have q3 : x' 3 = x3 := hx 3 (by decide)
  subst q3
  have eS : S' = S := hW.1 rfl
  subst eS
  simp only [sg_im_m1_Z, List.mem_cons, List.not_mem_nil, or_false] at hz
  rcases hz with rfl | rfl | rfl | rfl | rfl
  · obtain ⟨f0, f1, hσ⟩ := hJ
    obtain ⟨e0, e1, e2, e3, -⟩ := hE'
    intro v hv
    subst hv
    cases v with
    | none => exact hs'.elim
    | some v1 =>
      obtain ⟨⟨i1, rfl, g1⟩, -⟩ := hs'
      exact k0 (x' 4) i1 f0 f1 e0 e1 e2 e3 g1
  · obtain ⟨f0, f1, f2, hσ⟩ := hJ
    obtain ⟨e0, e1, e2, e3, -⟩ := hE'
    obtain ⟨p0, p1, p2, p3, -⟩ := hL'
    obtain rfl := sg_tn hs'
    exact k1 (x' 4) L' f0 f1 f2 e0 e1 e2 e3 p0 p1 p2 p3
  · obtain ⟨f0, f1, f2, f3, f4, hσ⟩ := hJ
    obtain ⟨e0, e1, e2, e3, e4, -⟩ := hE'
    obtain ⟨p0, p1, p2, p3, -⟩ := hL'
    obtain rfl := sg_tn hs'
    exact k2 (x' 4) (x' 5) L' f0 f1 f2 f3 f4 e0 e1 e2 e3 e4 p0 p1 p2 p3
  · obtain ⟨f0, f1, f2, f3, f4, f5, f6, hσ⟩ := hJ
    obtain ⟨e0, e1, e2, e3, e4, e5, -⟩ := hE'
    obtain ⟨p0, p1, p2, p3, -⟩ := hL'
    obtain rfl := sg_tn hs'
    exact k3 (x' 4) (x' 5) (x' 6) L' f0 f1 f2 f3 f4 f5 f6 e0 e1 e2 e3 e4 e5 p0 p1 p2 p3
  · obtain ⟨f0, f1, f2, f3, f4, f5, f6, hσ⟩ := hJ
    obtain ⟨e0, e1, e2, e3, e4, e5, -⟩ := hE'
    obtain ⟨p0, p1, p2, p3, -⟩ := hL'
    obtain rfl := sg_tn hs'
    exact k4 (x' 4) (x' 5) (x' 6) L' f0 f1 f2 f3 f4 f5 f6 e0 e1 e2 e3 e4 e5 p0 p1 p2 p3
def sg_dr_x0_Z : List sg_z := [(26, [(0, .inr (.inl [0])), (1, .inl (false, (1, .ofNat 1, .negSucc 0)))], [.inl (false, (1, .ofNat 1, .negSucc 0)), .inr (.inl [0])], [(0, 6, (0, .ofNat 0, .ofNat 0), (1, .ofNat 1, .ofNat 0), (0, .ofNat 0, .ofNat 0)), (2, 1, (1, .ofNat 1, .ofNat 0), (0, .ofNat 0, .ofNat 0), (0, .ofNat 0, .ofNat 0)), (0, 6, (0, .ofNat 0, .ofNat 0), (1, .ofNat 1, .ofNat 0), (0, .ofNat 0, .ofNat 0))], [(1, [(.ofNat 1, .ofNat 16)])], [], []),
  (0, [], [.inl (false, (0, .ofNat 0, .negSucc 3))], [(2, 0, (1, .ofNat 1, .ofNat 0), (0, .ofNat 0, .ofNat 0), (0, .ofNat 0, .ofNat 0)), (0, 6, (0, .ofNat 0, .ofNat 0), (1, .ofNat 1, .ofNat 0), (0, .ofNat 0, .ofNat 0))], [(1, [(.ofNat 0, .ofNat 0)])], [], [])]
set_option maxRecDepth 1000000 in
theorem sg_dr_x0_g : sg_go [] [25] 3000 99 0 0 1 [(0, [(.ofNat 0, .ofNat 0)])] [] [] [] [(0, .inr (.inl [0]))] [] [] sg_dr_x0_Z = true := by decide +kernel
theorem sg_dr_x0 {Q : Option Value × am_S → Prop} {d : Nat} {S : am_S} {L : am_L} (hd : 0 ≤ d) (hP : ax_P0 none S) (l0 : lc L 0 0)
    (k0 : ∀ (x1 : Int) (L' : am_L) (i1 : Int32), rd S 6 0 = x1 → x1 ≠ 0 → (1 ≤ x1 ∧ x1 ≤ 16) → lc L' 0 0 → li L' 1 (x1 + (-1)) → i1.toInt = x1 + (-1) → am_V none d 99 25 L' ((.int i1) :: (.ref 0) :: []) S Q)
    (k1 : ∀ (x1 : Int) (i1 : Int32), rd S 6 0 = x1 → x1 = 0 → (0 ≤ x1 ∧ x1 ≤ 0) → i1.toInt = (-4) → Q (some (.int i1), S)) : am_V none d 99 0 L ([]) S Q := by
  refine sg_use sg_dr_x0_g hd hP (sg_xs [0]) ⟨⟨Int.le_refl 0, Int.le_refl 0⟩, trivial⟩ trivial trivial trivial ⟨l0, trivial⟩ trivial ?_
  intro z hz x' L' st' S' hx hP' hW hL' hs' hJ hE' hT' hD'
  have eS : S' = S := hW.1 rfl
  subst eS
  simp only [sg_dr_x0_Z, List.mem_cons, List.not_mem_nil, or_false] at hz
  rcases hz with rfl | rfl
  · obtain ⟨f0, f1, -, hσ⟩ := hJ
    obtain ⟨e0, -⟩ := hE'
    obtain ⟨p0, p1, -⟩ := hL'
    obtain ⟨v1, r1, rfl, ⟨i1, rfl, g1⟩, hs1⟩ := sg_tc hs'
    obtain ⟨v2, r2, rfl, rfl, hs2⟩ := sg_tc hs1
    obtain rfl := sg_tn hs2
    exact k0 (x' 1) L' i1 f0 f1 e0 p0 p1 g1
  · obtain ⟨f0, f1, hσ⟩ := hJ
    obtain ⟨e0, -⟩ := hE'
    intro v hv
    subst hv
    cases v with
    | none => exact hs'.elim
    | some v1 =>
      obtain ⟨⟨i1, rfl, g1⟩, -⟩ := hs'
      exact k1 (x' 1) i1 f0 f1 e0 g1
def sg_dr_x1_Z : List sg_z := [(0, [], [.inl (false, (1, .ofNat 1, .ofNat 0))], [(1, 71, (0, .ofNat 0, .ofNat 0), (0, .ofNat 0, .ofNat 0), (0, .ofNat 0, .ofNat 0)), (1, 6, (0, .ofNat 0, .ofNat 0), (1, .ofNat 1, .ofNat 0), (0, .ofNat 0, .ofNat 0)), (2, 0, (2, .ofNat 1, .ofNat 0), (0, .ofNat 0, .ofNat 0), (0, .ofNat 0, .ofNat 0))], [(1, [(.ofNat 0, .ofNat 15)]), (2, [(.ofNat 0, .ofNat 0)])], [], []),
  (0, [], [.inl (false, (0, .ofNat 0, .negSucc 1))], [(2, 1, (2, .ofNat 1, .ofNat 0), (0, .ofNat 0, .ofNat 0), (0, .ofNat 0, .ofNat 0))], [(1, [(.ofNat 0, .ofNat 15)]), (2, [(.ofNat 1, .ofNat 1)])], [], [])]
set_option maxRecDepth 1000000 in
theorem sg_dr_x1_g : sg_go [] [] 3000 99 28 1 3 [(0, [(.ofNat 0, .ofNat 0)]), (1, [(.ofNat 0, .ofNat 15)]), (2, [(.ofNat 0, .ofNat 1)])] [] [] [] [(0, .inr (.inl [0])), (1, .inl (false, (1, .ofNat 1, .ofNat 0)))] [.inl (false, (2, .ofNat 1, .ofNat 0))] [(6, some 0), (71, some 0)] sg_dr_x1_Z = true := by decide +kernel
theorem sg_dr_x1 {Q : Option Value × am_S → Prop} {d : Nat} {S : am_S} {L : am_L} {x1 x2 : Int} {i1 : Int32} (hd : 1 ≤ d) (hP : ax_P0 none S) (l0 : lc L 0 0) (l1 : li L 1 x1) (b1 : (0 ≤ x1 ∧ x1 ≤ 15)) (b2 : (0 ≤ x2 ∧ x2 ≤ 1)) (s1 : i1.toInt = x2)
    (k0 : ∀ (S' : am_S) (i1 : Int32), ax_P0 none S' → rd S' = sg_up (sg_up (rd S) 6 0 x1) 71 0 0 → x2 = 0 → (0 ≤ x1 ∧ x1 ≤ 15) → (0 ≤ x2 ∧ x2 ≤ 0) → i1.toInt = x1 → Q (some (.int i1), S'))
    (k1 : ∀ (S' : am_S) (i1 : Int32), ax_P0 none S' → rd S' = rd S → x2 ≠ 0 → (0 ≤ x1 ∧ x1 ≤ 15) → (1 ≤ x2 ∧ x2 ≤ 1) → i1.toInt = (-2) → Q (some (.int i1), S')) : am_V none d 99 28 L ((.int i1) :: []) S Q := by
  refine sg_use sg_dr_x1_g hd hP (sg_xs [0, x1, x2]) ⟨⟨Int.le_refl 0, Int.le_refl 0⟩, b1, b2, trivial⟩ trivial trivial trivial ⟨l0, l1, trivial⟩ ⟨⟨_, rfl, s1⟩, trivial⟩ ?_
  intro z hz x' L' st' S' hx hP' hW hL' hs' hJ hE' hT' hD'
  have q1 : x' 1 = x1 := hx 1 (by decide)
  subst q1
  have q2 : x' 2 = x2 := hx 2 (by decide)
  subst q2
  simp only [sg_dr_x1_Z, List.mem_cons, List.not_mem_nil, or_false] at hz
  rcases hz with rfl | rfl
  · obtain ⟨f0, hσ⟩ := hJ
    obtain ⟨e0, e1, -⟩ := hE'
    intro v hv
    subst hv
    cases v with
    | none => exact hs'.elim
    | some v1 =>
      obtain ⟨⟨i1, rfl, g1⟩, -⟩ := hs'
      exact k0 S' i1 hP' hσ f0 e0 e1 g1
  · obtain ⟨f0, hσ⟩ := hJ
    obtain ⟨e0, e1, -⟩ := hE'
    intro v hv
    subst hv
    cases v with
    | none => exact hs'.elim
    | some v1 =>
      obtain ⟨⟨i1, rfl, g1⟩, -⟩ := hs'
      exact k1 S' i1 hP' hσ f0 e0 e1 g1
def sg_dr_m0_Z : List sg_z := [(18, [(0, .inr (.inl [122]))], [.inl (false, (1, .ofNat 1, .negSucc 0)), .inr (.inl [122])], [(0, 122, (0, .ofNat 0, .ofNat 5), (1, .ofNat 1, .ofNat 0), (0, .ofNat 0, .ofNat 0)), (2, 1, (1, .ofNat 1, .ofNat 0), (0, .ofNat 0, .ofNat 0), (0, .ofNat 0, .ofNat 0)), (0, 122, (0, .ofNat 0, .ofNat 5), (1, .ofNat 1, .ofNat 0), (0, .ofNat 0, .ofNat 0))], [(1, [(.ofNat 1, .ofNat 16)])], [], []),
  (0, [], [.inl (false, (0, .ofNat 0, .negSucc 3))], [(2, 0, (1, .ofNat 1, .ofNat 0), (0, .ofNat 0, .ofNat 0), (0, .ofNat 0, .ofNat 0)), (0, 122, (0, .ofNat 0, .ofNat 5), (1, .ofNat 1, .ofNat 0), (0, .ofNat 0, .ofNat 0))], [(1, [(.ofNat 0, .ofNat 0)])], [], [])]
set_option maxRecDepth 1000000 in
theorem sg_dr_m0_g : sg_go [] [17] 3000 168 0 0 1 [(0, [(.ofNat 0, .ofNat 0)])] [] [] [] [(0, .inr (.inl [122]))] [] [] sg_dr_m0_Z = true := by decide +kernel
theorem sg_dr_m0 {Q : Option Value × am_S → Prop} {d : Nat} {S : am_S} {L : am_L} (hd : 0 ≤ d) (hP : ax_P0 none S) (l0 : lc L 0 122)
    (k0 : ∀ (x1 : Int) (L' : am_L) (i1 : Int32), rd S 122 5 = x1 → x1 ≠ 0 → (1 ≤ x1 ∧ x1 ≤ 16) → lc L' 0 122 → i1.toInt = x1 + (-1) → am_V none d 168 17 L' ((.int i1) :: (.ref 122) :: []) S Q)
    (k1 : ∀ (x1 : Int) (i1 : Int32), rd S 122 5 = x1 → x1 = 0 → (0 ≤ x1 ∧ x1 ≤ 0) → i1.toInt = (-4) → Q (some (.int i1), S)) : am_V none d 168 0 L ([]) S Q := by
  refine sg_use sg_dr_m0_g hd hP (sg_xs [0]) ⟨⟨Int.le_refl 0, Int.le_refl 0⟩, trivial⟩ trivial trivial trivial ⟨l0, trivial⟩ trivial ?_
  intro z hz x' L' st' S' hx hP' hW hL' hs' hJ hE' hT' hD'
  have eS : S' = S := hW.1 rfl
  subst eS
  simp only [sg_dr_m0_Z, List.mem_cons, List.not_mem_nil, or_false] at hz
  rcases hz with rfl | rfl
  · obtain ⟨f0, f1, -, hσ⟩ := hJ
    obtain ⟨e0, -⟩ := hE'
    obtain ⟨p0, -⟩ := hL'
    obtain ⟨v1, r1, rfl, ⟨i1, rfl, g1⟩, hs1⟩ := sg_tc hs'
    obtain ⟨v2, r2, rfl, rfl, hs2⟩ := sg_tc hs1
    obtain rfl := sg_tn hs2
    exact k0 (x' 1) L' i1 f0 f1 e0 p0 g1
  · obtain ⟨f0, f1, hσ⟩ := hJ
    obtain ⟨e0, -⟩ := hE'
    intro v hv
    subst hv
    cases v with
    | none => exact hs'.elim
    | some v1 =>
      obtain ⟨⟨i1, rfl, g1⟩, -⟩ := hs'
      exact k1 (x' 1) i1 f0 f1 e0 g1
def sg_dr_m1_Z : List sg_z := [(0, [], [.inl (false, (2, .ofNat 1, .negSucc 0))], [(0, 122, (0, .ofNat 0, .ofNat 5), (2, .ofNat 1, .negSucc 0), (0, .ofNat 0, .ofNat 0)), (1, 122, (0, .ofNat 0, .ofNat 5), (2, .ofNat 1, .negSucc 0), (0, .ofNat 0, .ofNat 0)), (0, 122, (0, .ofNat 0, .ofNat 5), (2, .ofNat 1, .ofNat 0), (0, .ofNat 0, .ofNat 0)), (1, 122, (0, .ofNat 0, .ofNat 54), (0, .ofNat 0, .ofNat 0), (0, .ofNat 0, .ofNat 0)), (2, 0, (1, .ofNat 1, .ofNat 0), (0, .ofNat 0, .ofNat 0), (0, .ofNat 0, .ofNat 0))], [(1, [(.ofNat 0, .ofNat 0)]), (2, [(.ofNat 1, .ofNat 16)])], [], []),
  (0, [], [.inl (false, (0, .ofNat 0, .negSucc 1))], [(2, 1, (1, .ofNat 1, .ofNat 0), (0, .ofNat 0, .ofNat 0), (0, .ofNat 0, .ofNat 0))], [(1, [(.ofNat 1, .ofNat 1)]), (2, [(.ofNat 1, .ofNat 16)])], [], [])]
set_option maxRecDepth 1000000 in
theorem sg_dr_m1_g : sg_go [] [] 3000 168 20 0 3 [(0, [(.ofNat 0, .ofNat 0)]), (1, [(.ofNat 0, .ofNat 1)]), (2, [(.ofNat 1, .ofNat 16)])] [(122, (0, .ofNat 0, .ofNat 5), (2, .ofNat 1, .ofNat 0))] [] [] [(0, .inr (.inl [122]))] [.inl (false, (1, .ofNat 1, .ofNat 0))] [(122, some 5), (122, some 54)] sg_dr_m1_Z = true := by decide +kernel
theorem sg_dr_m1 {Q : Option Value × am_S → Prop} {d : Nat} {S : am_S} {L : am_L} {x1 x2 : Int} {i1 : Int32} (hd : 0 ≤ d) (hP : ax_P0 none S) (l0 : lc L 0 122) (b1 : (0 ≤ x1 ∧ x1 ≤ 1)) (b2 : (1 ≤ x2 ∧ x2 ≤ 16)) (m122_5 : rd S 122 5 = x2) (s1 : i1.toInt = x1)
    (k0 : ∀ (S' : am_S) (i1 : Int32), ax_P0 none S' → rd S' = sg_up (sg_up (rd S) 122 54 0) 122 5 (x2 + (-1)) → x1 = 0 → (sg_up (rd S) 122 54 0) 122 5 = x2 → (0 ≤ x1 ∧ x1 ≤ 0) → (1 ≤ x2 ∧ x2 ≤ 16) → i1.toInt = x2 + (-1) → Q (some (.int i1), S'))
    (k1 : ∀ (S' : am_S) (i1 : Int32), ax_P0 none S' → rd S' = rd S → x1 ≠ 0 → (1 ≤ x1 ∧ x1 ≤ 1) → (1 ≤ x2 ∧ x2 ≤ 16) → i1.toInt = (-2) → Q (some (.int i1), S')) : am_V none d 168 20 L ((.int i1) :: []) S Q := by
  refine sg_use sg_dr_m1_g hd hP (sg_xs [0, x1, x2]) ⟨⟨Int.le_refl 0, Int.le_refl 0⟩, b1, b2, trivial⟩ ⟨sg_fs hP rfl m122_5, trivial⟩ trivial trivial ⟨l0, trivial⟩ ⟨⟨_, rfl, s1⟩, trivial⟩ ?_
  intro z hz x' L' st' S' hx hP' hW hL' hs' hJ hE' hT' hD'
  have q1 : x' 1 = x1 := hx 1 (by decide)
  subst q1
  have q2 : x' 2 = x2 := hx 2 (by decide)
  subst q2
  simp only [sg_dr_m1_Z, List.mem_cons, List.not_mem_nil, or_false] at hz
  rcases hz with rfl | rfl
  · obtain ⟨f0, f1, -, hσ⟩ := hJ
    obtain ⟨e0, e1, -⟩ := hE'
    intro v hv
    subst hv
    cases v with
    | none => exact hs'.elim
    | some v1 =>
      obtain ⟨⟨i1, rfl, g1⟩, -⟩ := hs'
      exact k0 S' i1 hP' hσ f0 f1 e0 e1 g1
  · obtain ⟨f0, hσ⟩ := hJ
    obtain ⟨e0, e1, -⟩ := hE'
    intro v hv
    subst hv
    cases v with
    | none => exact hs'.elim
    | some v1 =>
      obtain ⟨⟨i1, rfl, g1⟩, -⟩ := hs'
      exact k1 S' i1 hP' hσ f0 e0 e1 g1
def sg_pl_x0_Z : List sg_z := [(0, [], [.inl (false, (0, .ofNat 0, .negSucc 0))], [(2, 0, (0, .ofNat 0, .ofNat 0), (0, .ofNat 0, .ofNat 0), (0, .ofNat 0, .ofNat 0)), (2, 2, (1, .ofNat 1, .ofNat 0), (0, .ofNat 0, .ofNat 0), (0, .ofNat 0, .ofNat 0))], [(1, [(.negSucc 2147483647, .negSucc 0)])], [], []),
  (0, [], [.inl (false, (0, .ofNat 0, .negSucc 0))], [(2, 0, (0, .ofNat 0, .ofNat 0), (0, .ofNat 0, .ofNat 0), (0, .ofNat 0, .ofNat 0)), (2, 3, (1, .ofNat 1, .ofNat 0), (3, .ofNat 1, .ofNat 0), (0, .ofNat 0, .ofNat 0)), (0, 6, (0, .ofNat 0, .ofNat 0), (3, .ofNat 1, .ofNat 0), (0, .ofNat 0, .ofNat 0)), (2, 3, (1, .ofNat 1, .ofNat 0), (0, .ofNat 0, .ofNat 0), (0, .ofNat 0, .ofNat 0))], [(1, [(.ofNat 0, .ofNat 2147483647)]), (3, [(.ofNat 0, .ofNat 16)])], [], []),
  (0, [], [.inl (false, (0, .ofNat 0, .negSucc 0))], [(2, 0, (0, .ofNat 0, .ofNat 0), (0, .ofNat 0, .ofNat 0), (0, .ofNat 0, .ofNat 0)), (2, 2, (2, .ofNat 1, .ofNat 0), (0, .ofNat 0, .ofNat 0), (0, .ofNat 0, .ofNat 0)), (2, 1, (0, .ofNat 0, .ofNat 1), (0, .ofNat 0, .ofNat 0), (0, .ofNat 0, .ofNat 0)), (2, 2, (1, .ofNat 1, .ofNat 0), (3, .ofNat 1, .ofNat 0), (0, .ofNat 0, .ofNat 0)), (0, 6, (0, .ofNat 0, .ofNat 0), (3, .ofNat 1, .ofNat 0), (0, .ofNat 0, .ofNat 0)), (2, 3, (1, .ofNat 1, .ofNat 0), (0, .ofNat 0, .ofNat 0), (0, .ofNat 0, .ofNat 0))], [(1, [(.ofNat 0, .ofNat 15)]), (2, [(.negSucc 2147483647, .negSucc 0)]), (3, [(.ofNat 1, .ofNat 16)])], [], []),
  (0, [], [.inl (false, (0, .ofNat 0, .negSucc 0))], [(2, 0, (0, .ofNat 0, .ofNat 0), (0, .ofNat 0, .ofNat 0), (0, .ofNat 0, .ofNat 0)), (2, 3, (2, .ofNat 1, .ofNat 0), (0, .ofNat 0, .ofNat 4), (0, .ofNat 0, .ofNat 0)), (2, 3, (2, .ofNat 1, .ofNat 0), (0, .ofNat 0, .ofNat 0), (0, .ofNat 0, .ofNat 0)), (2, 1, (0, .ofNat 0, .ofNat 1), (0, .ofNat 0, .ofNat 0), (0, .ofNat 0, .ofNat 0)), (2, 2, (1, .ofNat 1, .ofNat 0), (3, .ofNat 1, .ofNat 0), (0, .ofNat 0, .ofNat 0)), (0, 6, (0, .ofNat 0, .ofNat 0), (3, .ofNat 1, .ofNat 0), (0, .ofNat 0, .ofNat 0)), (2, 3, (1, .ofNat 1, .ofNat 0), (0, .ofNat 0, .ofNat 0), (0, .ofNat 0, .ofNat 0))], [(1, [(.ofNat 0, .ofNat 15)]), (2, [(.ofNat 4, .ofNat 2147483647)]), (3, [(.ofNat 1, .ofNat 16)])], [], []),
  (23, [(0, .inr (.inl [0])), (1, .inl (false, (1, .ofNat 1, .ofNat 0))), (2, .inl (false, (2, .ofNat 1, .ofNat 0)))], [.inl (false, (1, .ofNat 1, .ofNat 0)), .inr (.inl [0])], [(2, 1, (0, .ofNat 0, .ofNat 1), (0, .ofNat 0, .ofNat 0), (0, .ofNat 0, .ofNat 0)), (2, 2, (2, .ofNat 1, .ofNat 0), (0, .ofNat 0, .ofNat 4), (0, .ofNat 0, .ofNat 0)), (2, 3, (2, .ofNat 1, .ofNat 0), (0, .ofNat 0, .ofNat 0), (0, .ofNat 0, .ofNat 0)), (2, 1, (0, .ofNat 0, .ofNat 1), (0, .ofNat 0, .ofNat 0), (0, .ofNat 0, .ofNat 0)), (2, 2, (1, .ofNat 1, .ofNat 0), (3, .ofNat 1, .ofNat 0), (0, .ofNat 0, .ofNat 0)), (0, 6, (0, .ofNat 0, .ofNat 0), (3, .ofNat 1, .ofNat 0), (0, .ofNat 0, .ofNat 0)), (2, 3, (1, .ofNat 1, .ofNat 0), (0, .ofNat 0, .ofNat 0), (0, .ofNat 0, .ofNat 0))], [(1, [(.ofNat 0, .ofNat 15)]), (2, [(.ofNat 0, .ofNat 3)]), (3, [(.ofNat 1, .ofNat 16)])], [], [])]
set_option maxRecDepth 1000000 in
theorem sg_pl_x0_g : sg_go [] [22] 3000 130 0 1 3 [(0, [(.ofNat 0, .ofNat 0)]), (1, [(.negSucc 2147483647, .ofNat 2147483647)]), (2, [(.negSucc 2147483647, .ofNat 2147483647)])] [] [] [] [(0, .inr (.inl [0])), (1, .inl (false, (1, .ofNat 1, .ofNat 0))), (2, .inl (false, (2, .ofNat 1, .ofNat 0)))] [] [] sg_pl_x0_Z = true := by decide +kernel
theorem sg_pl_x0 {Q : Option Value × am_S → Prop} {d : Nat} {S : am_S} {L : am_L} {x1 x2 : Int} (hd : 1 ≤ d) (hP : ax_P0 none S) (l0 : lc L 0 0) (l1 : li L 1 x1) (l2 : li L 2 x2) (b1 : ((-2147483648) ≤ x1 ∧ x1 ≤ 2147483647)) (b2 : ((-2147483648) ≤ x2 ∧ x2 ≤ 2147483647))
    (k0 : ∀ (i1 : Int32), x1 < 0 → ((-2147483648) ≤ x1 ∧ x1 ≤ (-1)) → i1.toInt = (-1) → Q (some (.int i1), S))
    (k1 : ∀ (x3 : Int) (i1 : Int32), 0 ≤ x1 → rd S 6 0 = x3 → x3 ≤ x1 → (0 ≤ x1 ∧ x1 ≤ 2147483647) → (0 ≤ x3 ∧ x3 ≤ 16) → i1.toInt = (-1) → Q (some (.int i1), S))
    (k2 : ∀ (x3 : Int) (i1 : Int32), 0 ≤ x1 → rd S 6 0 = x3 → x1 < x3 → x2 < 0 → (0 ≤ x1 ∧ x1 ≤ 15) → ((-2147483648) ≤ x2 ∧ x2 ≤ (-1)) → (1 ≤ x3 ∧ x3 ≤ 16) → i1.toInt = (-1) → Q (some (.int i1), S))
    (k3 : ∀ (x3 : Int) (i1 : Int32), 0 ≤ x1 → rd S 6 0 = x3 → x1 < x3 → 0 ≤ x2 → 4 ≤ x2 → (0 ≤ x1 ∧ x1 ≤ 15) → (4 ≤ x2 ∧ x2 ≤ 2147483647) → (1 ≤ x3 ∧ x3 ≤ 16) → i1.toInt = (-1) → Q (some (.int i1), S))
    (k4 : ∀ (x3 : Int) (L' : am_L) (i1 : Int32), 0 ≤ x1 → rd S 6 0 = x3 → x1 < x3 → 0 ≤ x2 → x2 < 4 → (0 ≤ x1 ∧ x1 ≤ 15) → (0 ≤ x2 ∧ x2 ≤ 3) → (1 ≤ x3 ∧ x3 ≤ 16) → lc L' 0 0 → li L' 1 x1 → li L' 2 x2 → i1.toInt = x1 → am_V none d 130 22 L' ((.int i1) :: (.ref 0) :: []) S Q) : am_V none d 130 0 L ([]) S Q := by
  refine sg_use sg_pl_x0_g hd hP (sg_xs [0, x1, x2]) ⟨⟨Int.le_refl 0, Int.le_refl 0⟩, b1, b2, trivial⟩ trivial trivial trivial ⟨l0, l1, l2, trivial⟩ trivial ?_
  intro z hz x' L' st' S' hx hP' hW hL' hs' hJ hE' hT' hD'
  have q1 : x' 1 = x1 := hx 1 (by decide)
  subst q1
  have q2 : x' 2 = x2 := hx 2 (by decide)
  subst q2
  have eS : S' = S := hW.1 rfl
  subst eS
  simp only [sg_pl_x0_Z, List.mem_cons, List.not_mem_nil, or_false] at hz
  rcases hz with rfl | rfl | rfl | rfl | rfl
  · obtain ⟨f0, -, hσ⟩ := hJ
    obtain ⟨e0, -⟩ := hE'
    intro v hv
    subst hv
    cases v with
    | none => exact hs'.elim
    | some v1 =>
      obtain ⟨⟨i1, rfl, g1⟩, -⟩ := hs'
      exact k0 i1 f0 e0 g1
  · obtain ⟨f0, f1, f2, -, hσ⟩ := hJ
    obtain ⟨e0, e1, -⟩ := hE'
    intro v hv
    subst hv
    cases v with
    | none => exact hs'.elim
    | some v1 =>
      obtain ⟨⟨i1, rfl, g1⟩, -⟩ := hs'
      exact k1 (x' 3) i1 f0 f1 f2 e0 e1 g1
  · obtain ⟨f0, f1, f2, -, f4, -, hσ⟩ := hJ
    obtain ⟨e0, e1, e2, -⟩ := hE'
    intro v hv
    subst hv
    cases v with
    | none => exact hs'.elim
    | some v1 =>
      obtain ⟨⟨i1, rfl, g1⟩, -⟩ := hs'
      exact k2 (x' 3) i1 f0 f1 f2 f4 e0 e1 e2 g1
  · obtain ⟨f0, f1, f2, -, f4, f5, -, hσ⟩ := hJ
    obtain ⟨e0, e1, e2, -⟩ := hE'
    intro v hv
    subst hv
    cases v with
    | none => exact hs'.elim
    | some v1 =>
      obtain ⟨⟨i1, rfl, g1⟩, -⟩ := hs'
      exact k3 (x' 3) i1 f0 f1 f2 f4 f5 e0 e1 e2 g1
  · obtain ⟨f0, f1, f2, -, f4, f5, -, hσ⟩ := hJ
    obtain ⟨e0, e1, e2, -⟩ := hE'
    obtain ⟨p0, p1, p2, -⟩ := hL'
    obtain ⟨v1, r1, rfl, ⟨i1, rfl, g1⟩, hs1⟩ := sg_tc hs'
    obtain ⟨v2, r2, rfl, rfl, hs2⟩ := sg_tc hs1
    obtain rfl := sg_tn hs2
    exact k4 (x' 3) L' i1 f0 f1 f2 f4 f5 e0 e1 e2 p0 p1 p2 g1
def sg_pl_x1_Z : List sg_z := [(0, [], [.inl (false, (4, .ofNat 1, .ofNat 0))], [(1, 10, (1, .ofNat 1, .ofNat 0), (2, .ofNat 1, .ofNat 0), (0, .ofNat 0, .ofNat 0)), (0, 10, (1, .ofNat 1, .ofNat 0), (4, .ofNat 1, .ofNat 0), (0, .ofNat 0, .ofNat 0)), (2, 0, (3, .ofNat 1, .ofNat 0), (0, .ofNat 0, .ofNat 0), (0, .ofNat 0, .ofNat 0))], [(1, [(.ofNat 0, .ofNat 15)]), (2, [(.ofNat 0, .ofNat 3)]), (3, [(.ofNat 0, .ofNat 0)]), (4, [(.ofNat 0, .ofNat 3)])], [], []),
  (0, [], [.inl (false, (0, .ofNat 0, .negSucc 1))], [(2, 1, (3, .ofNat 1, .ofNat 0), (0, .ofNat 0, .ofNat 0), (0, .ofNat 0, .ofNat 0))], [(1, [(.ofNat 0, .ofNat 15)]), (2, [(.ofNat 0, .ofNat 3)]), (3, [(.ofNat 1, .ofNat 1)])], [], [])]
set_option maxRecDepth 1000000 in
theorem sg_pl_x1_g : sg_go [] [] 3000 130 25 0 4 [(0, [(.ofNat 0, .ofNat 0)]), (1, [(.ofNat 0, .ofNat 15)]), (2, [(.ofNat 0, .ofNat 3)]), (3, [(.ofNat 0, .ofNat 1)])] [] [] [] [(0, .inr (.inl [0])), (1, .inl (false, (1, .ofNat 1, .ofNat 0))), (2, .inl (false, (2, .ofNat 1, .ofNat 0)))] [.inl (false, (3, .ofNat 1, .ofNat 0))] [(10, none)] sg_pl_x1_Z = true := by decide +kernel
theorem sg_pl_x1 {Q : Option Value × am_S → Prop} {d : Nat} {S : am_S} {L : am_L} {x1 x2 x3 : Int} {i1 : Int32} (hd : 0 ≤ d) (hP : ax_P0 none S) (l0 : lc L 0 0) (l1 : li L 1 x1) (l2 : li L 2 x2) (b1 : (0 ≤ x1 ∧ x1 ≤ 15)) (b2 : (0 ≤ x2 ∧ x2 ≤ 3)) (b3 : (0 ≤ x3 ∧ x3 ≤ 1)) (s1 : i1.toInt = x3)
    (k0 : ∀ (x4 : Int) (S' : am_S) (i1 : Int32), ax_P0 none S' → rd S' = sg_up (rd S) 10 x1 x2 → x3 = 0 → rd S 10 x1 = x4 → (0 ≤ x1 ∧ x1 ≤ 15) → (0 ≤ x2 ∧ x2 ≤ 3) → (0 ≤ x3 ∧ x3 ≤ 0) → (0 ≤ x4 ∧ x4 ≤ 3) → i1.toInt = x4 → Q (some (.int i1), S'))
    (k1 : ∀ (S' : am_S) (i1 : Int32), ax_P0 none S' → rd S' = rd S → x3 ≠ 0 → (0 ≤ x1 ∧ x1 ≤ 15) → (0 ≤ x2 ∧ x2 ≤ 3) → (1 ≤ x3 ∧ x3 ≤ 1) → i1.toInt = (-2) → Q (some (.int i1), S')) : am_V none d 130 25 L ((.int i1) :: []) S Q := by
  refine sg_use sg_pl_x1_g hd hP (sg_xs [0, x1, x2, x3]) ⟨⟨Int.le_refl 0, Int.le_refl 0⟩, b1, b2, b3, trivial⟩ trivial trivial trivial ⟨l0, l1, l2, trivial⟩ ⟨⟨_, rfl, s1⟩, trivial⟩ ?_
  intro z hz x' L' st' S' hx hP' hW hL' hs' hJ hE' hT' hD'
  have q1 : x' 1 = x1 := hx 1 (by decide)
  subst q1
  have q2 : x' 2 = x2 := hx 2 (by decide)
  subst q2
  have q3 : x' 3 = x3 := hx 3 (by decide)
  subst q3
  simp only [sg_pl_x1_Z, List.mem_cons, List.not_mem_nil, or_false] at hz
  rcases hz with rfl | rfl
  · obtain ⟨f0, f1, hσ⟩ := hJ
    obtain ⟨e0, e1, e2, e3, -⟩ := hE'
    intro v hv
    subst hv
    cases v with
    | none => exact hs'.elim
    | some v1 =>
      obtain ⟨⟨i1, rfl, g1⟩, -⟩ := hs'
      exact k0 (x' 4) S' i1 hP' hσ f0 f1 e0 e1 e2 e3 g1
  · obtain ⟨f0, hσ⟩ := hJ
    obtain ⟨e0, e1, e2, -⟩ := hE'
    intro v hv
    subst hv
    cases v with
    | none => exact hs'.elim
    | some v1 =>
      obtain ⟨⟨i1, rfl, g1⟩, -⟩ := hs'
      exact k1 S' i1 hP' hσ f0 e0 e1 e2 g1
def sg_pl_m0_Z : List sg_z := [(0, [], [.inl (false, (0, .ofNat 0, .negSucc 0))], [(2, 0, (0, .ofNat 0, .ofNat 0), (0, .ofNat 0, .ofNat 0), (0, .ofNat 0, .ofNat 0)), (2, 2, (1, .ofNat 1, .ofNat 0), (0, .ofNat 0, .ofNat 0), (0, .ofNat 0, .ofNat 0)), (0, 122, (0, .ofNat 0, .ofNat 5), (3, .ofNat 1, .ofNat 0), (0, .ofNat 0, .ofNat 0))], [(1, [(.negSucc 2147483647, .negSucc 0)]), (3, [(.ofNat 0, .ofNat 16)])], [], []),
  (0, [], [.inl (false, (0, .ofNat 0, .negSucc 0))], [(2, 0, (0, .ofNat 0, .ofNat 0), (0, .ofNat 0, .ofNat 0), (0, .ofNat 0, .ofNat 0)), (2, 4, (1, .ofNat 1, .ofNat 0), (3, .ofNat 1, .negSucc 0), (0, .ofNat 0, .ofNat 0)), (2, 3, (1, .ofNat 1, .ofNat 0), (0, .ofNat 0, .ofNat 0), (0, .ofNat 0, .ofNat 0)), (0, 122, (0, .ofNat 0, .ofNat 5), (3, .ofNat 1, .ofNat 0), (0, .ofNat 0, .ofNat 0))], [(1, [(.ofNat 0, .ofNat 2147483647)]), (3, [(.ofNat 0, .ofNat 16)])], [], []),
  (0, [], [.inl (false, (0, .ofNat 0, .negSucc 0))], [(2, 0, (0, .ofNat 0, .ofNat 0), (0, .ofNat 0, .ofNat 0), (0, .ofNat 0, .ofNat 0)), (2, 2, (2, .ofNat 1, .ofNat 0), (0, .ofNat 0, .ofNat 0), (0, .ofNat 0, .ofNat 0)), (2, 1, (0, .ofNat 0, .ofNat 1), (0, .ofNat 0, .ofNat 0), (0, .ofNat 0, .ofNat 0)), (2, 5, (1, .ofNat 1, .ofNat 0), (3, .ofNat 1, .negSucc 0), (0, .ofNat 0, .ofNat 0)), (2, 3, (1, .ofNat 1, .ofNat 0), (0, .ofNat 0, .ofNat 0), (0, .ofNat 0, .ofNat 0)), (0, 122, (0, .ofNat 0, .ofNat 5), (3, .ofNat 1, .ofNat 0), (0, .ofNat 0, .ofNat 0))], [(1, [(.ofNat 0, .ofNat 15)]), (2, [(.negSucc 2147483647, .negSucc 0)]), (3, [(.ofNat 1, .ofNat 16)])], [], []),
  (0, [], [.inl (false, (0, .ofNat 0, .negSucc 0))], [(2, 0, (0, .ofNat 0, .ofNat 0), (0, .ofNat 0, .ofNat 0), (0, .ofNat 0, .ofNat 0)), (2, 4, (2, .ofNat 1, .ofNat 0), (0, .ofNat 0, .ofNat 3), (0, .ofNat 0, .ofNat 0)), (2, 3, (2, .ofNat 1, .ofNat 0), (0, .ofNat 0, .ofNat 0), (0, .ofNat 0, .ofNat 0)), (2, 1, (0, .ofNat 0, .ofNat 1), (0, .ofNat 0, .ofNat 0), (0, .ofNat 0, .ofNat 0)), (2, 5, (1, .ofNat 1, .ofNat 0), (3, .ofNat 1, .negSucc 0), (0, .ofNat 0, .ofNat 0)), (2, 3, (1, .ofNat 1, .ofNat 0), (0, .ofNat 0, .ofNat 0), (0, .ofNat 0, .ofNat 0)), (0, 122, (0, .ofNat 0, .ofNat 5), (3, .ofNat 1, .ofNat 0), (0, .ofNat 0, .ofNat 0))], [(1, [(.ofNat 0, .ofNat 15)]), (2, [(.ofNat 4, .ofNat 2147483647)]), (3, [(.ofNat 1, .ofNat 16)])], [], []),
  (25, [(0, .inr (.inl [122])), (1, .inl (false, (1, .ofNat 1, .ofNat 0))), (2, .inl (false, (2, .ofNat 1, .ofNat 0)))], [.inl (false, (1, .ofNat 1, .ofNat 0)), .inr (.inl [122])], [(2, 1, (0, .ofNat 0, .ofNat 1), (0, .ofNat 0, .ofNat 0), (0, .ofNat 0, .ofNat 0)), (2, 5, (2, .ofNat 1, .ofNat 0), (0, .ofNat 0, .ofNat 3), (0, .ofNat 0, .ofNat 0)), (2, 3, (2, .ofNat 1, .ofNat 0), (0, .ofNat 0, .ofNat 0), (0, .ofNat 0, .ofNat 0)), (2, 1, (0, .ofNat 0, .ofNat 1), (0, .ofNat 0, .ofNat 0), (0, .ofNat 0, .ofNat 0)), (2, 5, (1, .ofNat 1, .ofNat 0), (3, .ofNat 1, .negSucc 0), (0, .ofNat 0, .ofNat 0)), (2, 3, (1, .ofNat 1, .ofNat 0), (0, .ofNat 0, .ofNat 0), (0, .ofNat 0, .ofNat 0)), (0, 122, (0, .ofNat 0, .ofNat 5), (3, .ofNat 1, .ofNat 0), (0, .ofNat 0, .ofNat 0))], [(1, [(.ofNat 0, .ofNat 15)]), (2, [(.ofNat 0, .ofNat 3)]), (3, [(.ofNat 1, .ofNat 16)])], [], [])]
set_option maxRecDepth 1000000 in
theorem sg_pl_m0_g : sg_go [] [24] 3000 235 0 2 3 [(0, [(.ofNat 0, .ofNat 0)]), (1, [(.negSucc 2147483647, .ofNat 2147483647)]), (2, [(.negSucc 2147483647, .ofNat 2147483647)])] [] [] [] [(0, .inr (.inl [122])), (1, .inl (false, (1, .ofNat 1, .ofNat 0))), (2, .inl (false, (2, .ofNat 1, .ofNat 0)))] [] [] sg_pl_m0_Z = true := by decide +kernel
theorem sg_pl_m0 {Q : Option Value × am_S → Prop} {d : Nat} {S : am_S} {L : am_L} {x1 x2 : Int} (hd : 2 ≤ d) (hP : ax_P0 none S) (l0 : lc L 0 122) (l1 : li L 1 x1) (l2 : li L 2 x2) (b1 : ((-2147483648) ≤ x1 ∧ x1 ≤ 2147483647)) (b2 : ((-2147483648) ≤ x2 ∧ x2 ≤ 2147483647))
    (k0 : ∀ (x3 : Int) (i1 : Int32), rd S 122 5 = x3 → x1 < 0 → ((-2147483648) ≤ x1 ∧ x1 ≤ (-1)) → (0 ≤ x3 ∧ x3 ≤ 16) → i1.toInt = (-1) → Q (some (.int i1), S))
    (k1 : ∀ (x3 : Int) (i1 : Int32), rd S 122 5 = x3 → 0 ≤ x1 → x3 + (-1) < x1 → (0 ≤ x1 ∧ x1 ≤ 2147483647) → (0 ≤ x3 ∧ x3 ≤ 16) → i1.toInt = (-1) → Q (some (.int i1), S))
    (k2 : ∀ (x3 : Int) (i1 : Int32), rd S 122 5 = x3 → 0 ≤ x1 → x1 ≤ x3 + (-1) → x2 < 0 → (0 ≤ x1 ∧ x1 ≤ 15) → ((-2147483648) ≤ x2 ∧ x2 ≤ (-1)) → (1 ≤ x3 ∧ x3 ≤ 16) → i1.toInt = (-1) → Q (some (.int i1), S))
    (k3 : ∀ (x3 : Int) (i1 : Int32), rd S 122 5 = x3 → 0 ≤ x1 → x1 ≤ x3 + (-1) → 0 ≤ x2 → 3 < x2 → (0 ≤ x1 ∧ x1 ≤ 15) → (4 ≤ x2 ∧ x2 ≤ 2147483647) → (1 ≤ x3 ∧ x3 ≤ 16) → i1.toInt = (-1) → Q (some (.int i1), S))
    (k4 : ∀ (x3 : Int) (L' : am_L) (i1 : Int32), rd S 122 5 = x3 → 0 ≤ x1 → x1 ≤ x3 + (-1) → 0 ≤ x2 → x2 ≤ 3 → (0 ≤ x1 ∧ x1 ≤ 15) → (0 ≤ x2 ∧ x2 ≤ 3) → (1 ≤ x3 ∧ x3 ≤ 16) → lc L' 0 122 → li L' 1 x1 → li L' 2 x2 → i1.toInt = x1 → am_V none d 235 24 L' ((.int i1) :: (.ref 122) :: []) S Q) : am_V none d 235 0 L ([]) S Q := by
  refine sg_use sg_pl_m0_g hd hP (sg_xs [0, x1, x2]) ⟨⟨Int.le_refl 0, Int.le_refl 0⟩, b1, b2, trivial⟩ trivial trivial trivial ⟨l0, l1, l2, trivial⟩ trivial ?_
  intro z hz x' L' st' S' hx hP' hW hL' hs' hJ hE' hT' hD'
  have q1 : x' 1 = x1 := hx 1 (by decide)
  subst q1
  have q2 : x' 2 = x2 := hx 2 (by decide)
  subst q2
  have eS : S' = S := hW.1 rfl
  subst eS
  simp only [sg_pl_m0_Z, List.mem_cons, List.not_mem_nil, or_false] at hz
  rcases hz with rfl | rfl | rfl | rfl | rfl
  · obtain ⟨f0, f1, -, hσ⟩ := hJ
    obtain ⟨e0, e1, -⟩ := hE'
    intro v hv
    subst hv
    cases v with
    | none => exact hs'.elim
    | some v1 =>
      obtain ⟨⟨i1, rfl, g1⟩, -⟩ := hs'
      exact k0 (x' 3) i1 f0 f1 e0 e1 g1
  · obtain ⟨f0, f1, f2, -, hσ⟩ := hJ
    obtain ⟨e0, e1, -⟩ := hE'
    intro v hv
    subst hv
    cases v with
    | none => exact hs'.elim
    | some v1 =>
      obtain ⟨⟨i1, rfl, g1⟩, -⟩ := hs'
      exact k1 (x' 3) i1 f0 f1 f2 e0 e1 g1
  · obtain ⟨f0, f1, f2, -, f4, -, hσ⟩ := hJ
    obtain ⟨e0, e1, e2, -⟩ := hE'
    intro v hv
    subst hv
    cases v with
    | none => exact hs'.elim
    | some v1 =>
      obtain ⟨⟨i1, rfl, g1⟩, -⟩ := hs'
      exact k2 (x' 3) i1 f0 f1 f2 f4 e0 e1 e2 g1
  · obtain ⟨f0, f1, f2, -, f4, f5, -, hσ⟩ := hJ
    obtain ⟨e0, e1, e2, -⟩ := hE'
    intro v hv
    subst hv
    cases v with
    | none => exact hs'.elim
    | some v1 =>
      obtain ⟨⟨i1, rfl, g1⟩, -⟩ := hs'
      exact k3 (x' 3) i1 f0 f1 f2 f4 f5 e0 e1 e2 g1
  · obtain ⟨f0, f1, f2, -, f4, f5, -, hσ⟩ := hJ
    obtain ⟨e0, e1, e2, -⟩ := hE'
    obtain ⟨p0, p1, p2, -⟩ := hL'
    obtain ⟨v1, r1, rfl, ⟨i1, rfl, g1⟩, hs1⟩ := sg_tc hs'
    obtain ⟨v2, r2, rfl, rfl, hs2⟩ := sg_tc hs1
    obtain rfl := sg_tn hs2
    exact k4 (x' 3) L' i1 f0 f1 f2 f4 f5 e0 e1 e2 p0 p1 p2 g1
def sg_pl_m1_Z : List sg_z := [(0, [], [.inl (false, (4, .ofNat 1, .ofNat 0))], [(1, 132, (1, .ofNat 1, .ofNat 0), (2, .ofNat 1, .ofNat 0), (0, .ofNat 0, .ofNat 0)), (0, 132, (1, .ofNat 1, .ofNat 0), (4, .ofNat 1, .ofNat 0), (0, .ofNat 0, .ofNat 0)), (2, 0, (3, .ofNat 1, .ofNat 0), (0, .ofNat 0, .ofNat 0), (0, .ofNat 0, .ofNat 0))], [(1, [(.ofNat 0, .ofNat 15)]), (2, [(.ofNat 0, .ofNat 3)]), (3, [(.ofNat 0, .ofNat 0)]), (4, [(.ofNat 0, .ofNat 3)])], [], []),
  (0, [], [.inl (false, (0, .ofNat 0, .negSucc 1))], [(2, 1, (3, .ofNat 1, .ofNat 0), (0, .ofNat 0, .ofNat 0), (0, .ofNat 0, .ofNat 0))], [(1, [(.ofNat 0, .ofNat 15)]), (2, [(.ofNat 0, .ofNat 3)]), (3, [(.ofNat 1, .ofNat 1)])], [], [])]
set_option maxRecDepth 1000000 in
theorem sg_pl_m1_g : sg_go [] [] 3000 235 27 0 4 [(0, [(.ofNat 0, .ofNat 0)]), (1, [(.ofNat 0, .ofNat 15)]), (2, [(.ofNat 0, .ofNat 3)]), (3, [(.ofNat 0, .ofNat 1)])] [] [] [] [(0, .inr (.inl [122])), (1, .inl (false, (1, .ofNat 1, .ofNat 0))), (2, .inl (false, (2, .ofNat 1, .ofNat 0)))] [.inl (false, (3, .ofNat 1, .ofNat 0))] [(132, none)] sg_pl_m1_Z = true := by decide +kernel
theorem sg_pl_m1 {Q : Option Value × am_S → Prop} {d : Nat} {S : am_S} {L : am_L} {x1 x2 x3 : Int} {i1 : Int32} (hd : 0 ≤ d) (hP : ax_P0 none S) (l0 : lc L 0 122) (l1 : li L 1 x1) (l2 : li L 2 x2) (b1 : (0 ≤ x1 ∧ x1 ≤ 15)) (b2 : (0 ≤ x2 ∧ x2 ≤ 3)) (b3 : (0 ≤ x3 ∧ x3 ≤ 1)) (s1 : i1.toInt = x3)
    (k0 : ∀ (x4 : Int) (S' : am_S) (i1 : Int32), ax_P0 none S' → rd S' = sg_up (rd S) 132 x1 x2 → x3 = 0 → rd S 132 x1 = x4 → (0 ≤ x1 ∧ x1 ≤ 15) → (0 ≤ x2 ∧ x2 ≤ 3) → (0 ≤ x3 ∧ x3 ≤ 0) → (0 ≤ x4 ∧ x4 ≤ 3) → i1.toInt = x4 → Q (some (.int i1), S'))
    (k1 : ∀ (S' : am_S) (i1 : Int32), ax_P0 none S' → rd S' = rd S → x3 ≠ 0 → (0 ≤ x1 ∧ x1 ≤ 15) → (0 ≤ x2 ∧ x2 ≤ 3) → (1 ≤ x3 ∧ x3 ≤ 1) → i1.toInt = (-2) → Q (some (.int i1), S')) : am_V none d 235 27 L ((.int i1) :: []) S Q := by
  refine sg_use sg_pl_m1_g hd hP (sg_xs [0, x1, x2, x3]) ⟨⟨Int.le_refl 0, Int.le_refl 0⟩, b1, b2, b3, trivial⟩ trivial trivial trivial ⟨l0, l1, l2, trivial⟩ ⟨⟨_, rfl, s1⟩, trivial⟩ ?_
  intro z hz x' L' st' S' hx hP' hW hL' hs' hJ hE' hT' hD'
  have q1 : x' 1 = x1 := hx 1 (by decide)
  subst q1
  have q2 : x' 2 = x2 := hx 2 (by decide)
  subst q2
  have q3 : x' 3 = x3 := hx 3 (by decide)
  subst q3
  simp only [sg_pl_m1_Z, List.mem_cons, List.not_mem_nil, or_false] at hz
  rcases hz with rfl | rfl
  · obtain ⟨f0, f1, hσ⟩ := hJ
    obtain ⟨e0, e1, e2, e3, -⟩ := hE'
    intro v hv
    subst hv
    cases v with
    | none => exact hs'.elim
    | some v1 =>
      obtain ⟨⟨i1, rfl, g1⟩, -⟩ := hs'
      exact k0 (x' 4) S' i1 hP' hσ f0 f1 e0 e1 e2 e3 g1
  · obtain ⟨f0, hσ⟩ := hJ
    obtain ⟨e0, e1, e2, -⟩ := hE'
    intro v hv
    subst hv
    cases v with
    | none => exact hs'.elim
    | some v1 =>
      obtain ⟨⟨i1, rfl, g1⟩, -⟩ := hs'
      exact k1 S' i1 hP' hσ f0 e0 e1 e2 g1
def sg_mt_x_Z : List sg_z := [(0, [], [.inl (false, (0, .ofNat 0, .negSucc 0))], [(2, 0, (0, .ofNat 0, .ofNat 0), (0, .ofNat 0, .ofNat 0), (0, .ofNat 0, .ofNat 0)), (2, 2, (1, .ofNat 1, .ofNat 0), (0, .ofNat 0, .ofNat 0), (0, .ofNat 0, .ofNat 0))], [(1, [(.negSucc 2147483647, .negSucc 0)])], [], []),
  (0, [], [.inl (false, (0, .ofNat 0, .negSucc 0))], [(2, 0, (0, .ofNat 0, .ofNat 0), (0, .ofNat 0, .ofNat 0), (0, .ofNat 0, .ofNat 0)), (2, 3, (1, .ofNat 1, .ofNat 0), (3, .ofNat 1, .ofNat 0), (0, .ofNat 0, .ofNat 0)), (0, 6, (0, .ofNat 0, .ofNat 0), (3, .ofNat 1, .ofNat 0), (0, .ofNat 0, .ofNat 0)), (2, 3, (1, .ofNat 1, .ofNat 0), (0, .ofNat 0, .ofNat 0), (0, .ofNat 0, .ofNat 0))], [(1, [(.ofNat 0, .ofNat 2147483647)]), (3, [(.ofNat 0, .ofNat 16)])], [], []),
  (0, [], [.inl (false, (0, .ofNat 0, .negSucc 0))], [(2, 0, (0, .ofNat 0, .ofNat 0), (0, .ofNat 0, .ofNat 0), (0, .ofNat 0, .ofNat 0)), (2, 2, (2, .ofNat 1, .ofNat 0), (0, .ofNat 0, .ofNat 0), (0, .ofNat 0, .ofNat 0)), (2, 1, (0, .ofNat 0, .ofNat 1), (0, .ofNat 0, .ofNat 0), (0, .ofNat 0, .ofNat 0)), (2, 2, (1, .ofNat 1, .ofNat 0), (3, .ofNat 1, .ofNat 0), (0, .ofNat 0, .ofNat 0)), (0, 6, (0, .ofNat 0, .ofNat 0), (3, .ofNat 1, .ofNat 0), (0, .ofNat 0, .ofNat 0)), (2, 3, (1, .ofNat 1, .ofNat 0), (0, .ofNat 0, .ofNat 0), (0, .ofNat 0, .ofNat 0))], [(1, [(.ofNat 0, .ofNat 15)]), (2, [(.negSucc 2147483647, .negSucc 0)]), (3, [(.ofNat 1, .ofNat 16)])], [], []),
  (0, [], [.inl (false, (0, .ofNat 0, .negSucc 0))], [(2, 0, (0, .ofNat 0, .ofNat 0), (0, .ofNat 0, .ofNat 0), (0, .ofNat 0, .ofNat 0)), (2, 3, (2, .ofNat 1, .ofNat 0), (3, .ofNat 1, .ofNat 0), (0, .ofNat 0, .ofNat 0)), (0, 6, (0, .ofNat 0, .ofNat 0), (3, .ofNat 1, .ofNat 0), (0, .ofNat 0, .ofNat 0)), (2, 3, (2, .ofNat 1, .ofNat 0), (0, .ofNat 0, .ofNat 0), (0, .ofNat 0, .ofNat 0)), (2, 1, (0, .ofNat 0, .ofNat 1), (0, .ofNat 0, .ofNat 0), (0, .ofNat 0, .ofNat 0)), (2, 2, (1, .ofNat 1, .ofNat 0), (3, .ofNat 1, .ofNat 0), (0, .ofNat 0, .ofNat 0)), (0, 6, (0, .ofNat 0, .ofNat 0), (3, .ofNat 1, .ofNat 0), (0, .ofNat 0, .ofNat 0)), (2, 3, (1, .ofNat 1, .ofNat 0), (0, .ofNat 0, .ofNat 0), (0, .ofNat 0, .ofNat 0))], [(1, [(.ofNat 0, .ofNat 15)]), (2, [(.ofNat 1, .ofNat 2147483647)]), (3, [(.ofNat 1, .ofNat 16)])], [], []),
  (0, [], [.inl (false, (6, .ofNat 1, .ofNat 0))], [(0, 0, (0, .ofNat 0, .ofNat 10), (6, .ofNat 1, .ofNat 1), (0, .ofNat 0, .ofNat 0)), (1, 0, (0, .ofNat 0, .ofNat 10), (6, .ofNat 1, .ofNat 1), (0, .ofNat 0, .ofNat 0)), (0, 0, (0, .ofNat 0, .ofNat 10), (6, .ofNat 1, .ofNat 0), (0, .ofNat 0, .ofNat 0)), (1, 69, (6, .ofNat 1, .ofNat 0), (2, .ofNat 1, .ofNat 0), (0, .ofNat 0, .ofNat 0)), (0, 0, (0, .ofNat 0, .ofNat 10), (6, .ofNat 1, .ofNat 0), (0, .ofNat 0, .ofNat 0)), (1, 68, (6, .ofNat 1, .ofNat 0), (1, .ofNat 1, .ofNat 0), (0, .ofNat 0, .ofNat 0)), (0, 0, (0, .ofNat 0, .ofNat 10), (6, .ofNat 1, .ofNat 0), (0, .ofNat 0, .ofNat 0)), (2, 2, (6, .ofNat 1, .ofNat 0), (0, .ofNat 0, .ofNat 12), (0, .ofNat 0, .ofNat 0)), (0, 0, (0, .ofNat 0, .ofNat 10), (6, .ofNat 1, .ofNat 0), (0, .ofNat 0, .ofNat 0)), (2, 1, (4, .ofNat 1, .ofNat 0), (5, .ofNat 1, .ofNat 0), (0, .ofNat 0, .ofNat 0)), (0, 10, (2, .ofNat 1, .ofNat 0), (5, .ofNat 1, .ofNat 0), (0, .ofNat 0, .ofNat 0)), (0, 10, (1, .ofNat 1, .ofNat 0), (4, .ofNat 1, .ofNat 0), (0, .ofNat 0, .ofNat 0)), (2, 1, (0, .ofNat 0, .ofNat 1), (0, .ofNat 0, .ofNat 0), (0, .ofNat 0, .ofNat 0)), (2, 2, (2, .ofNat 1, .ofNat 0), (3, .ofNat 1, .ofNat 0), (0, .ofNat 0, .ofNat 0)), (0, 6, (0, .ofNat 0, .ofNat 0), (3, .ofNat 1, .ofNat 0), (0, .ofNat 0, .ofNat 0)), (2, 3, (2, .ofNat 1, .ofNat 0), (0, .ofNat 0, .ofNat 0), (0, .ofNat 0, .ofNat 0)), (2, 1, (0, .ofNat 0, .ofNat 1), (0, .ofNat 0, .ofNat 0), (0, .ofNat 0, .ofNat 0)), (2, 2, (1, .ofNat 1, .ofNat 0), (3, .ofNat 1, .ofNat 0), (0, .ofNat 0, .ofNat 0)), (0, 6, (0, .ofNat 0, .ofNat 0), (3, .ofNat 1, .ofNat 0), (0, .ofNat 0, .ofNat 0)), (2, 3, (1, .ofNat 1, .ofNat 0), (0, .ofNat 0, .ofNat 0), (0, .ofNat 0, .ofNat 0))], [(1, [(.ofNat 0, .ofNat 15)]), (2, [(.ofNat 0, .ofNat 15)]), (3, [(.ofNat 1, .ofNat 16)]), (4, [(.ofNat 0, .ofNat 3)]), (5, [(.ofNat 0, .ofNat 3)]), (6, [(.ofNat 0, .ofNat 11)])], [], []),
  (0, [], [.inl (false, (0, .ofNat 0, .negSucc 2))], [(2, 3, (6, .ofNat 1, .ofNat 0), (0, .ofNat 0, .ofNat 12), (0, .ofNat 0, .ofNat 0)), (0, 0, (0, .ofNat 0, .ofNat 10), (6, .ofNat 1, .ofNat 0), (0, .ofNat 0, .ofNat 0)), (2, 1, (4, .ofNat 1, .ofNat 0), (5, .ofNat 1, .ofNat 0), (0, .ofNat 0, .ofNat 0)), (0, 10, (2, .ofNat 1, .ofNat 0), (5, .ofNat 1, .ofNat 0), (0, .ofNat 0, .ofNat 0)), (0, 10, (1, .ofNat 1, .ofNat 0), (4, .ofNat 1, .ofNat 0), (0, .ofNat 0, .ofNat 0)), (2, 1, (0, .ofNat 0, .ofNat 1), (0, .ofNat 0, .ofNat 0), (0, .ofNat 0, .ofNat 0)), (2, 2, (2, .ofNat 1, .ofNat 0), (3, .ofNat 1, .ofNat 0), (0, .ofNat 0, .ofNat 0)), (0, 6, (0, .ofNat 0, .ofNat 0), (3, .ofNat 1, .ofNat 0), (0, .ofNat 0, .ofNat 0)), (2, 3, (2, .ofNat 1, .ofNat 0), (0, .ofNat 0, .ofNat 0), (0, .ofNat 0, .ofNat 0)), (2, 1, (0, .ofNat 0, .ofNat 1), (0, .ofNat 0, .ofNat 0), (0, .ofNat 0, .ofNat 0)), (2, 2, (1, .ofNat 1, .ofNat 0), (3, .ofNat 1, .ofNat 0), (0, .ofNat 0, .ofNat 0)), (0, 6, (0, .ofNat 0, .ofNat 0), (3, .ofNat 1, .ofNat 0), (0, .ofNat 0, .ofNat 0)), (2, 3, (1, .ofNat 1, .ofNat 0), (0, .ofNat 0, .ofNat 0), (0, .ofNat 0, .ofNat 0))], [(1, [(.ofNat 0, .ofNat 15)]), (2, [(.ofNat 0, .ofNat 15)]), (3, [(.ofNat 1, .ofNat 16)]), (4, [(.ofNat 0, .ofNat 3)]), (5, [(.ofNat 0, .ofNat 3)]), (6, [(.ofNat 12, .ofNat 12)])], [], []),
  (0, [], [.inl (false, (0, .ofNat 0, .negSucc 0))], [(2, 0, (4, .ofNat 1, .ofNat 0), (5, .ofNat 1, .ofNat 0), (0, .ofNat 0, .ofNat 0)), (0, 10, (2, .ofNat 1, .ofNat 0), (5, .ofNat 1, .ofNat 0), (0, .ofNat 0, .ofNat 0)), (0, 10, (1, .ofNat 1, .ofNat 0), (4, .ofNat 1, .ofNat 0), (0, .ofNat 0, .ofNat 0)), (2, 1, (0, .ofNat 0, .ofNat 1), (0, .ofNat 0, .ofNat 0), (0, .ofNat 0, .ofNat 0)), (2, 2, (2, .ofNat 1, .ofNat 0), (3, .ofNat 1, .ofNat 0), (0, .ofNat 0, .ofNat 0)), (0, 6, (0, .ofNat 0, .ofNat 0), (3, .ofNat 1, .ofNat 0), (0, .ofNat 0, .ofNat 0)), (2, 3, (2, .ofNat 1, .ofNat 0), (0, .ofNat 0, .ofNat 0), (0, .ofNat 0, .ofNat 0)), (2, 1, (0, .ofNat 0, .ofNat 1), (0, .ofNat 0, .ofNat 0), (0, .ofNat 0, .ofNat 0)), (2, 2, (1, .ofNat 1, .ofNat 0), (3, .ofNat 1, .ofNat 0), (0, .ofNat 0, .ofNat 0)), (0, 6, (0, .ofNat 0, .ofNat 0), (3, .ofNat 1, .ofNat 0), (0, .ofNat 0, .ofNat 0)), (2, 3, (1, .ofNat 1, .ofNat 0), (0, .ofNat 0, .ofNat 0), (0, .ofNat 0, .ofNat 0))], [(1, [(.ofNat 0, .ofNat 15)]), (2, [(.ofNat 0, .ofNat 15)]), (3, [(.ofNat 1, .ofNat 16)]), (4, [(.ofNat 0, .ofNat 3)]), (5, [(.ofNat 0, .ofNat 3)])], [], [])]
set_option maxRecDepth 1000000 in
theorem sg_mt_x_g : sg_go [] [] 3000 131 0 1 3 [(0, [(.ofNat 0, .ofNat 0)]), (1, [(.negSucc 2147483647, .ofNat 2147483647)]), (2, [(.negSucc 2147483647, .ofNat 2147483647)])] [] [] [] [(0, .inr (.inl [0])), (1, .inl (false, (1, .ofNat 1, .ofNat 0))), (2, .inl (false, (2, .ofNat 1, .ofNat 0)))] [] [(0, some 10), (68, none), (69, none)] sg_mt_x_Z = true := by decide +kernel
theorem sg_mt_x {Q : Option Value × am_S → Prop} {d : Nat} {S : am_S} {L : am_L} {x1 x2 : Int} (hd : 1 ≤ d) (hP : ax_P0 none S) (l0 : lc L 0 0) (l1 : li L 1 x1) (l2 : li L 2 x2) (b1 : ((-2147483648) ≤ x1 ∧ x1 ≤ 2147483647)) (b2 : ((-2147483648) ≤ x2 ∧ x2 ≤ 2147483647))
    (k0 : ∀ (S' : am_S) (i1 : Int32), ax_P0 none S' → rd S' = rd S → x1 < 0 → ((-2147483648) ≤ x1 ∧ x1 ≤ (-1)) → i1.toInt = (-1) → Q (some (.int i1), S'))
    (k1 : ∀ (x3 : Int) (S' : am_S) (i1 : Int32), ax_P0 none S' → rd S' = rd S → 0 ≤ x1 → rd S 6 0 = x3 → x3 ≤ x1 → (0 ≤ x1 ∧ x1 ≤ 2147483647) → (0 ≤ x3 ∧ x3 ≤ 16) → i1.toInt = (-1) → Q (some (.int i1), S'))
    (k2 : ∀ (x3 : Int) (S' : am_S) (i1 : Int32), ax_P0 none S' → rd S' = rd S → 0 ≤ x1 → rd S 6 0 = x3 → x1 < x3 → x2 < 0 → (0 ≤ x1 ∧ x1 ≤ 15) → ((-2147483648) ≤ x2 ∧ x2 ≤ (-1)) → (1 ≤ x3 ∧ x3 ≤ 16) → i1.toInt = (-1) → Q (some (.int i1), S'))
    (k3 : ∀ (x3 : Int) (S' : am_S) (i1 : Int32), ax_P0 none S' → rd S' = rd S → 0 ≤ x1 → rd S 6 0 = x3 → x1 < x3 → 0 ≤ x2 → x3 ≤ x2 → (0 ≤ x1 ∧ x1 ≤ 15) → (1 ≤ x2 ∧ x2 ≤ 2147483647) → (1 ≤ x3 ∧ x3 ≤ 16) → i1.toInt = (-1) → Q (some (.int i1), S'))
    (k4 : ∀ (x3 x4 x5 x6 : Int) (S' : am_S) (i1 : Int32), ax_P0 none S' → rd S' = sg_up (sg_up (sg_up (rd S) 68 x6 x1) 69 x6 x2) 0 10 (x6 + 1) → 0 ≤ x1 → rd S 6 0 = x3 → x1 < x3 → 0 ≤ x2 → x2 < x3 → rd S 10 x1 = x4 → rd S 10 x2 = x5 → x4 ≠ x5 → rd S 0 10 = x6 → x6 < 12 → (0 ≤ x1 ∧ x1 ≤ 15) → (0 ≤ x2 ∧ x2 ≤ 15) → (1 ≤ x3 ∧ x3 ≤ 16) → (0 ≤ x4 ∧ x4 ≤ 3) → (0 ≤ x5 ∧ x5 ≤ 3) → (0 ≤ x6 ∧ x6 ≤ 11) → i1.toInt = x6 → Q (some (.int i1), S'))
    (k5 : ∀ (x3 x4 x5 x6 : Int) (S' : am_S) (i1 : Int32), ax_P0 none S' → rd S' = rd S → 0 ≤ x1 → rd S 6 0 = x3 → x1 < x3 → 0 ≤ x2 → x2 < x3 → rd S 10 x1 = x4 → rd S 10 x2 = x5 → x4 ≠ x5 → rd S 0 10 = x6 → 12 ≤ x6 → (0 ≤ x1 ∧ x1 ≤ 15) → (0 ≤ x2 ∧ x2 ≤ 15) → (1 ≤ x3 ∧ x3 ≤ 16) → (0 ≤ x4 ∧ x4 ≤ 3) → (0 ≤ x5 ∧ x5 ≤ 3) → (12 ≤ x6 ∧ x6 ≤ 12) → i1.toInt = (-3) → Q (some (.int i1), S'))
    (k6 : ∀ (x3 x4 x5 : Int) (S' : am_S) (i1 : Int32), ax_P0 none S' → rd S' = rd S → 0 ≤ x1 → rd S 6 0 = x3 → x1 < x3 → 0 ≤ x2 → x2 < x3 → rd S 10 x1 = x4 → rd S 10 x2 = x5 → x4 = x5 → (0 ≤ x1 ∧ x1 ≤ 15) → (0 ≤ x2 ∧ x2 ≤ 15) → (1 ≤ x3 ∧ x3 ≤ 16) → (0 ≤ x4 ∧ x4 ≤ 3) → (0 ≤ x5 ∧ x5 ≤ 3) → i1.toInt = (-1) → Q (some (.int i1), S')) : am_V none d 131 0 L ([]) S Q := by
  refine sg_use sg_mt_x_g hd hP (sg_xs [0, x1, x2]) ⟨⟨Int.le_refl 0, Int.le_refl 0⟩, b1, b2, trivial⟩ trivial trivial trivial ⟨l0, l1, l2, trivial⟩ trivial ?_
  intro z hz x' L' st' S' hx hP' hW hL' hs' hJ hE' hT' hD'
  have q1 : x' 1 = x1 := hx 1 (by decide)
  subst q1
  have q2 : x' 2 = x2 := hx 2 (by decide)
  subst q2
  simp only [sg_mt_x_Z, List.mem_cons, List.not_mem_nil, or_false] at hz
  rcases hz with rfl | rfl | rfl | rfl | rfl | rfl | rfl
  · obtain ⟨f0, -, hσ⟩ := hJ
    obtain ⟨e0, -⟩ := hE'
    intro v hv
    subst hv
    cases v with
    | none => exact hs'.elim
    | some v1 =>
      obtain ⟨⟨i1, rfl, g1⟩, -⟩ := hs'
      exact k0 S' i1 hP' hσ f0 e0 g1
  · obtain ⟨f0, f1, f2, -, hσ⟩ := hJ
    obtain ⟨e0, e1, -⟩ := hE'
    intro v hv
    subst hv
    cases v with
    | none => exact hs'.elim
    | some v1 =>
      obtain ⟨⟨i1, rfl, g1⟩, -⟩ := hs'
      exact k1 (x' 3) S' i1 hP' hσ f0 f1 f2 e0 e1 g1
  · obtain ⟨f0, f1, f2, -, f4, -, hσ⟩ := hJ
    obtain ⟨e0, e1, e2, -⟩ := hE'
    intro v hv
    subst hv
    cases v with
    | none => exact hs'.elim
    | some v1 =>
      obtain ⟨⟨i1, rfl, g1⟩, -⟩ := hs'
      exact k2 (x' 3) S' i1 hP' hσ f0 f1 f2 f4 e0 e1 e2 g1
  · obtain ⟨f0, f1, f2, -, f4, -, f6, -, hσ⟩ := hJ
    obtain ⟨e0, e1, e2, -⟩ := hE'
    intro v hv
    subst hv
    cases v with
    | none => exact hs'.elim
    | some v1 =>
      obtain ⟨⟨i1, rfl, g1⟩, -⟩ := hs'
      exact k3 (x' 3) S' i1 hP' hσ f0 f1 f2 f4 f6 e0 e1 e2 g1
  · obtain ⟨f0, f1, f2, -, f4, -, f6, -, f8, f9, f10, f11, f12, -, -, -, -, hσ⟩ := hJ
    obtain ⟨e0, e1, e2, e3, e4, e5, -⟩ := hE'
    intro v hv
    subst hv
    cases v with
    | none => exact hs'.elim
    | some v1 =>
      obtain ⟨⟨i1, rfl, g1⟩, -⟩ := hs'
      exact k4 (x' 3) (x' 4) (x' 5) (x' 6) S' i1 hP' hσ f0 f1 f2 f4 f6 f8 f9 f10 f11 f12 e0 e1 e2 e3 e4 e5 g1
  · obtain ⟨f0, f1, f2, -, f4, -, f6, -, f8, f9, f10, f11, f12, hσ⟩ := hJ
    obtain ⟨e0, e1, e2, e3, e4, e5, -⟩ := hE'
    intro v hv
    subst hv
    cases v with
    | none => exact hs'.elim
    | some v1 =>
      obtain ⟨⟨i1, rfl, g1⟩, -⟩ := hs'
      exact k5 (x' 3) (x' 4) (x' 5) (x' 6) S' i1 hP' hσ f0 f1 f2 f4 f6 f8 f9 f10 f11 f12 e0 e1 e2 e3 e4 e5 g1
  · obtain ⟨f0, f1, f2, -, f4, -, f6, -, f8, f9, f10, hσ⟩ := hJ
    obtain ⟨e0, e1, e2, e3, e4, -⟩ := hE'
    intro v hv
    subst hv
    cases v with
    | none => exact hs'.elim
    | some v1 =>
      obtain ⟨⟨i1, rfl, g1⟩, -⟩ := hs'
      exact k6 (x' 3) (x' 4) (x' 5) S' i1 hP' hσ f0 f1 f2 f4 f6 f8 f9 f10 e0 e1 e2 e3 e4 g1
def sg_mt_m_Z : List sg_z := [(0, [], [.inl (false, (0, .ofNat 0, .negSucc 0))], [(2, 0, (0, .ofNat 0, .ofNat 0), (0, .ofNat 0, .ofNat 0), (0, .ofNat 0, .ofNat 0)), (2, 2, (1, .ofNat 1, .ofNat 0), (0, .ofNat 0, .ofNat 0), (0, .ofNat 0, .ofNat 0)), (0, 122, (0, .ofNat 0, .ofNat 5), (3, .ofNat 1, .ofNat 0), (0, .ofNat 0, .ofNat 0))], [(1, [(.negSucc 2147483647, .negSucc 0)]), (3, [(.ofNat 0, .ofNat 16)])], [], []),
  (0, [], [.inl (false, (0, .ofNat 0, .negSucc 0))], [(2, 0, (0, .ofNat 0, .ofNat 0), (0, .ofNat 0, .ofNat 0), (0, .ofNat 0, .ofNat 0)), (2, 4, (1, .ofNat 1, .ofNat 0), (3, .ofNat 1, .negSucc 0), (0, .ofNat 0, .ofNat 0)), (2, 3, (1, .ofNat 1, .ofNat 0), (0, .ofNat 0, .ofNat 0), (0, .ofNat 0, .ofNat 0)), (0, 122, (0, .ofNat 0, .ofNat 5), (3, .ofNat 1, .ofNat 0), (0, .ofNat 0, .ofNat 0))], [(1, [(.ofNat 0, .ofNat 2147483647)]), (3, [(.ofNat 0, .ofNat 16)])], [], []),
  (0, [], [.inl (false, (0, .ofNat 0, .negSucc 0))], [(2, 0, (0, .ofNat 0, .ofNat 0), (0, .ofNat 0, .ofNat 0), (0, .ofNat 0, .ofNat 0)), (2, 2, (2, .ofNat 1, .ofNat 0), (0, .ofNat 0, .ofNat 0), (0, .ofNat 0, .ofNat 0)), (0, 122, (0, .ofNat 0, .ofNat 5), (3, .ofNat 1, .ofNat 0), (0, .ofNat 0, .ofNat 0)), (2, 1, (0, .ofNat 0, .ofNat 1), (0, .ofNat 0, .ofNat 0), (0, .ofNat 0, .ofNat 0)), (2, 5, (1, .ofNat 1, .ofNat 0), (3, .ofNat 1, .negSucc 0), (0, .ofNat 0, .ofNat 0)), (2, 3, (1, .ofNat 1, .ofNat 0), (0, .ofNat 0, .ofNat 0), (0, .ofNat 0, .ofNat 0)), (0, 122, (0, .ofNat 0, .ofNat 5), (3, .ofNat 1, .ofNat 0), (0, .ofNat 0, .ofNat 0))], [(1, [(.ofNat 0, .ofNat 15)]), (2, [(.negSucc 2147483647, .negSucc 0)]), (3, [(.ofNat 1, .ofNat 16)])], [], []),
  (0, [], [.inl (false, (0, .ofNat 0, .negSucc 0))], [(2, 0, (0, .ofNat 0, .ofNat 0), (0, .ofNat 0, .ofNat 0), (0, .ofNat 0, .ofNat 0)), (2, 4, (2, .ofNat 1, .ofNat 0), (3, .ofNat 1, .negSucc 0), (0, .ofNat 0, .ofNat 0)), (2, 3, (2, .ofNat 1, .ofNat 0), (0, .ofNat 0, .ofNat 0), (0, .ofNat 0, .ofNat 0)), (0, 122, (0, .ofNat 0, .ofNat 5), (3, .ofNat 1, .ofNat 0), (0, .ofNat 0, .ofNat 0)), (2, 1, (0, .ofNat 0, .ofNat 1), (0, .ofNat 0, .ofNat 0), (0, .ofNat 0, .ofNat 0)), (2, 5, (1, .ofNat 1, .ofNat 0), (3, .ofNat 1, .negSucc 0), (0, .ofNat 0, .ofNat 0)), (2, 3, (1, .ofNat 1, .ofNat 0), (0, .ofNat 0, .ofNat 0), (0, .ofNat 0, .ofNat 0)), (0, 122, (0, .ofNat 0, .ofNat 5), (3, .ofNat 1, .ofNat 0), (0, .ofNat 0, .ofNat 0))], [(1, [(.ofNat 0, .ofNat 15)]), (2, [(.ofNat 1, .ofNat 2147483647)]), (3, [(.ofNat 1, .ofNat 16)])], [], []),
  (0, [], [.inl (false, (6, .ofNat 1, .ofNat 0))], [(0, 122, (0, .ofNat 0, .ofNat 47), (6, .ofNat 1, .ofNat 1), (0, .ofNat 0, .ofNat 0)), (1, 122, (0, .ofNat 0, .ofNat 47), (6, .ofNat 1, .ofNat 1), (0, .ofNat 0, .ofNat 0)), (0, 122, (0, .ofNat 0, .ofNat 47), (6, .ofNat 1, .ofNat 0), (0, .ofNat 0, .ofNat 0)), (1, 153, (6, .ofNat 1, .ofNat 0), (2, .ofNat 1, .ofNat 0), (0, .ofNat 0, .ofNat 0)), (0, 122, (0, .ofNat 0, .ofNat 47), (6, .ofNat 1, .ofNat 0), (0, .ofNat 0, .ofNat 0)), (1, 152, (6, .ofNat 1, .ofNat 0), (1, .ofNat 1, .ofNat 0), (0, .ofNat 0, .ofNat 0)), (0, 122, (0, .ofNat 0, .ofNat 47), (6, .ofNat 1, .ofNat 0), (0, .ofNat 0, .ofNat 0)), (2, 1, (6, .ofNat 1, .ofNat 0), (0, .ofNat 0, .ofNat 12), (0, .ofNat 0, .ofNat 0)), (0, 122, (0, .ofNat 0, .ofNat 47), (6, .ofNat 1, .ofNat 0), (0, .ofNat 0, .ofNat 0)), (2, 1, (4, .ofNat 1, .ofNat 0), (5, .ofNat 1, .ofNat 0), (0, .ofNat 0, .ofNat 0)), (0, 132, (2, .ofNat 1, .ofNat 0), (5, .ofNat 1, .ofNat 0), (0, .ofNat 0, .ofNat 0)), (0, 132, (1, .ofNat 1, .ofNat 0), (4, .ofNat 1, .ofNat 0), (0, .ofNat 0, .ofNat 0)), (2, 1, (0, .ofNat 0, .ofNat 1), (0, .ofNat 0, .ofNat 0), (0, .ofNat 0, .ofNat 0)), (2, 5, (2, .ofNat 1, .ofNat 0), (3, .ofNat 1, .negSucc 0), (0, .ofNat 0, .ofNat 0)), (2, 3, (2, .ofNat 1, .ofNat 0), (0, .ofNat 0, .ofNat 0), (0, .ofNat 0, .ofNat 0)), (0, 122, (0, .ofNat 0, .ofNat 5), (3, .ofNat 1, .ofNat 0), (0, .ofNat 0, .ofNat 0)), (2, 1, (0, .ofNat 0, .ofNat 1), (0, .ofNat 0, .ofNat 0), (0, .ofNat 0, .ofNat 0)), (2, 5, (1, .ofNat 1, .ofNat 0), (3, .ofNat 1, .negSucc 0), (0, .ofNat 0, .ofNat 0)), (2, 3, (1, .ofNat 1, .ofNat 0), (0, .ofNat 0, .ofNat 0), (0, .ofNat 0, .ofNat 0)), (0, 122, (0, .ofNat 0, .ofNat 5), (3, .ofNat 1, .ofNat 0), (0, .ofNat 0, .ofNat 0))], [(1, [(.ofNat 0, .ofNat 15)]), (2, [(.ofNat 0, .ofNat 15)]), (3, [(.ofNat 1, .ofNat 16)]), (4, [(.ofNat 0, .ofNat 3)]), (5, [(.ofNat 0, .ofNat 3)]), (6, [(.ofNat 0, .ofNat 11)])], [], []),
  (0, [], [.inl (false, (0, .ofNat 0, .negSucc 2))], [(2, 0, (6, .ofNat 1, .ofNat 0), (0, .ofNat 0, .ofNat 12), (0, .ofNat 0, .ofNat 0)), (0, 122, (0, .ofNat 0, .ofNat 47), (6, .ofNat 1, .ofNat 0), (0, .ofNat 0, .ofNat 0)), (2, 1, (4, .ofNat 1, .ofNat 0), (5, .ofNat 1, .ofNat 0), (0, .ofNat 0, .ofNat 0)), (0, 132, (2, .ofNat 1, .ofNat 0), (5, .ofNat 1, .ofNat 0), (0, .ofNat 0, .ofNat 0)), (0, 132, (1, .ofNat 1, .ofNat 0), (4, .ofNat 1, .ofNat 0), (0, .ofNat 0, .ofNat 0)), (2, 1, (0, .ofNat 0, .ofNat 1), (0, .ofNat 0, .ofNat 0), (0, .ofNat 0, .ofNat 0)), (2, 5, (2, .ofNat 1, .ofNat 0), (3, .ofNat 1, .negSucc 0), (0, .ofNat 0, .ofNat 0)), (2, 3, (2, .ofNat 1, .ofNat 0), (0, .ofNat 0, .ofNat 0), (0, .ofNat 0, .ofNat 0)), (0, 122, (0, .ofNat 0, .ofNat 5), (3, .ofNat 1, .ofNat 0), (0, .ofNat 0, .ofNat 0)), (2, 1, (0, .ofNat 0, .ofNat 1), (0, .ofNat 0, .ofNat 0), (0, .ofNat 0, .ofNat 0)), (2, 5, (1, .ofNat 1, .ofNat 0), (3, .ofNat 1, .negSucc 0), (0, .ofNat 0, .ofNat 0)), (2, 3, (1, .ofNat 1, .ofNat 0), (0, .ofNat 0, .ofNat 0), (0, .ofNat 0, .ofNat 0)), (0, 122, (0, .ofNat 0, .ofNat 5), (3, .ofNat 1, .ofNat 0), (0, .ofNat 0, .ofNat 0))], [(1, [(.ofNat 0, .ofNat 15)]), (2, [(.ofNat 0, .ofNat 15)]), (3, [(.ofNat 1, .ofNat 16)]), (4, [(.ofNat 0, .ofNat 3)]), (5, [(.ofNat 0, .ofNat 3)]), (6, [(.ofNat 12, .ofNat 12)])], [], []),
  (0, [], [.inl (false, (0, .ofNat 0, .negSucc 0))], [(2, 0, (4, .ofNat 1, .ofNat 0), (5, .ofNat 1, .ofNat 0), (0, .ofNat 0, .ofNat 0)), (0, 132, (2, .ofNat 1, .ofNat 0), (5, .ofNat 1, .ofNat 0), (0, .ofNat 0, .ofNat 0)), (0, 132, (1, .ofNat 1, .ofNat 0), (4, .ofNat 1, .ofNat 0), (0, .ofNat 0, .ofNat 0)), (2, 1, (0, .ofNat 0, .ofNat 1), (0, .ofNat 0, .ofNat 0), (0, .ofNat 0, .ofNat 0)), (2, 5, (2, .ofNat 1, .ofNat 0), (3, .ofNat 1, .negSucc 0), (0, .ofNat 0, .ofNat 0)), (2, 3, (2, .ofNat 1, .ofNat 0), (0, .ofNat 0, .ofNat 0), (0, .ofNat 0, .ofNat 0)), (0, 122, (0, .ofNat 0, .ofNat 5), (3, .ofNat 1, .ofNat 0), (0, .ofNat 0, .ofNat 0)), (2, 1, (0, .ofNat 0, .ofNat 1), (0, .ofNat 0, .ofNat 0), (0, .ofNat 0, .ofNat 0)), (2, 5, (1, .ofNat 1, .ofNat 0), (3, .ofNat 1, .negSucc 0), (0, .ofNat 0, .ofNat 0)), (2, 3, (1, .ofNat 1, .ofNat 0), (0, .ofNat 0, .ofNat 0), (0, .ofNat 0, .ofNat 0)), (0, 122, (0, .ofNat 0, .ofNat 5), (3, .ofNat 1, .ofNat 0), (0, .ofNat 0, .ofNat 0))], [(1, [(.ofNat 0, .ofNat 15)]), (2, [(.ofNat 0, .ofNat 15)]), (3, [(.ofNat 1, .ofNat 16)]), (4, [(.ofNat 0, .ofNat 3)]), (5, [(.ofNat 0, .ofNat 3)])], [], [])]
set_option maxRecDepth 1000000 in
theorem sg_mt_m_g : sg_go [] [] 3000 236 0 2 3 [(0, [(.ofNat 0, .ofNat 0)]), (1, [(.negSucc 2147483647, .ofNat 2147483647)]), (2, [(.negSucc 2147483647, .ofNat 2147483647)])] [] [] [] [(0, .inr (.inl [122])), (1, .inl (false, (1, .ofNat 1, .ofNat 0))), (2, .inl (false, (2, .ofNat 1, .ofNat 0)))] [] [(122, some 47), (152, none), (153, none)] sg_mt_m_Z = true := by decide +kernel
theorem sg_mt_m {Q : Option Value × am_S → Prop} {d : Nat} {S : am_S} {L : am_L} {x1 x2 : Int} (hd : 2 ≤ d) (hP : ax_P0 none S) (l0 : lc L 0 122) (l1 : li L 1 x1) (l2 : li L 2 x2) (b1 : ((-2147483648) ≤ x1 ∧ x1 ≤ 2147483647)) (b2 : ((-2147483648) ≤ x2 ∧ x2 ≤ 2147483647))
    (k0 : ∀ (x3 : Int) (S' : am_S) (i1 : Int32), ax_P0 none S' → rd S' = rd S → rd S 122 5 = x3 → x1 < 0 → ((-2147483648) ≤ x1 ∧ x1 ≤ (-1)) → (0 ≤ x3 ∧ x3 ≤ 16) → i1.toInt = (-1) → Q (some (.int i1), S'))
    (k1 : ∀ (x3 : Int) (S' : am_S) (i1 : Int32), ax_P0 none S' → rd S' = rd S → rd S 122 5 = x3 → 0 ≤ x1 → x3 + (-1) < x1 → (0 ≤ x1 ∧ x1 ≤ 2147483647) → (0 ≤ x3 ∧ x3 ≤ 16) → i1.toInt = (-1) → Q (some (.int i1), S'))
    (k2 : ∀ (x3 : Int) (S' : am_S) (i1 : Int32), ax_P0 none S' → rd S' = rd S → rd S 122 5 = x3 → 0 ≤ x1 → x1 ≤ x3 + (-1) → x2 < 0 → (0 ≤ x1 ∧ x1 ≤ 15) → ((-2147483648) ≤ x2 ∧ x2 ≤ (-1)) → (1 ≤ x3 ∧ x3 ≤ 16) → i1.toInt = (-1) → Q (some (.int i1), S'))
    (k3 : ∀ (x3 : Int) (S' : am_S) (i1 : Int32), ax_P0 none S' → rd S' = rd S → rd S 122 5 = x3 → 0 ≤ x1 → x1 ≤ x3 + (-1) → 0 ≤ x2 → x3 + (-1) < x2 → (0 ≤ x1 ∧ x1 ≤ 15) → (1 ≤ x2 ∧ x2 ≤ 2147483647) → (1 ≤ x3 ∧ x3 ≤ 16) → i1.toInt = (-1) → Q (some (.int i1), S'))
    (k4 : ∀ (x3 x4 x5 x6 : Int) (S' : am_S) (i1 : Int32), ax_P0 none S' → rd S' = sg_up (sg_up (sg_up (rd S) 152 x6 x1) 153 x6 x2) 122 47 (x6 + 1) → rd S 122 5 = x3 → 0 ≤ x1 → x1 ≤ x3 + (-1) → 0 ≤ x2 → x2 ≤ x3 + (-1) → rd S 132 x1 = x4 → rd S 132 x2 = x5 → x4 ≠ x5 → rd S 122 47 = x6 → x6 ≠ 12 → (0 ≤ x1 ∧ x1 ≤ 15) → (0 ≤ x2 ∧ x2 ≤ 15) → (1 ≤ x3 ∧ x3 ≤ 16) → (0 ≤ x4 ∧ x4 ≤ 3) → (0 ≤ x5 ∧ x5 ≤ 3) → (0 ≤ x6 ∧ x6 ≤ 11) → i1.toInt = x6 → Q (some (.int i1), S'))
    (k5 : ∀ (x3 x4 x5 x6 : Int) (S' : am_S) (i1 : Int32), ax_P0 none S' → rd S' = rd S → rd S 122 5 = x3 → 0 ≤ x1 → x1 ≤ x3 + (-1) → 0 ≤ x2 → x2 ≤ x3 + (-1) → rd S 132 x1 = x4 → rd S 132 x2 = x5 → x4 ≠ x5 → rd S 122 47 = x6 → x6 = 12 → (0 ≤ x1 ∧ x1 ≤ 15) → (0 ≤ x2 ∧ x2 ≤ 15) → (1 ≤ x3 ∧ x3 ≤ 16) → (0 ≤ x4 ∧ x4 ≤ 3) → (0 ≤ x5 ∧ x5 ≤ 3) → (12 ≤ x6 ∧ x6 ≤ 12) → i1.toInt = (-3) → Q (some (.int i1), S'))
    (k6 : ∀ (x3 x4 x5 : Int) (S' : am_S) (i1 : Int32), ax_P0 none S' → rd S' = rd S → rd S 122 5 = x3 → 0 ≤ x1 → x1 ≤ x3 + (-1) → 0 ≤ x2 → x2 ≤ x3 + (-1) → rd S 132 x1 = x4 → rd S 132 x2 = x5 → x4 = x5 → (0 ≤ x1 ∧ x1 ≤ 15) → (0 ≤ x2 ∧ x2 ≤ 15) → (1 ≤ x3 ∧ x3 ≤ 16) → (0 ≤ x4 ∧ x4 ≤ 3) → (0 ≤ x5 ∧ x5 ≤ 3) → i1.toInt = (-1) → Q (some (.int i1), S')) : am_V none d 236 0 L ([]) S Q := by
  refine sg_use sg_mt_m_g hd hP (sg_xs [0, x1, x2]) ⟨⟨Int.le_refl 0, Int.le_refl 0⟩, b1, b2, trivial⟩ trivial trivial trivial ⟨l0, l1, l2, trivial⟩ trivial ?_
  intro z hz x' L' st' S' hx hP' hW hL' hs' hJ hE' hT' hD'
  have q1 : x' 1 = x1 := hx 1 (by decide)
  subst q1
  have q2 : x' 2 = x2 := hx 2 (by decide)
  subst q2
  simp only [sg_mt_m_Z, List.mem_cons, List.not_mem_nil, or_false] at hz
  rcases hz with rfl | rfl | rfl | rfl | rfl | rfl | rfl
  · obtain ⟨f0, f1, -, hσ⟩ := hJ
    obtain ⟨e0, e1, -⟩ := hE'
    intro v hv
    subst hv
    cases v with
    | none => exact hs'.elim
    | some v1 =>
      obtain ⟨⟨i1, rfl, g1⟩, -⟩ := hs'
      exact k0 (x' 3) S' i1 hP' hσ f0 f1 e0 e1 g1
  · obtain ⟨f0, f1, f2, -, hσ⟩ := hJ
    obtain ⟨e0, e1, -⟩ := hE'
    intro v hv
    subst hv
    cases v with
    | none => exact hs'.elim
    | some v1 =>
      obtain ⟨⟨i1, rfl, g1⟩, -⟩ := hs'
      exact k1 (x' 3) S' i1 hP' hσ f0 f1 f2 e0 e1 g1
  · obtain ⟨f0, f1, f2, -, -, f5, -, hσ⟩ := hJ
    obtain ⟨e0, e1, e2, -⟩ := hE'
    intro v hv
    subst hv
    cases v with
    | none => exact hs'.elim
    | some v1 =>
      obtain ⟨⟨i1, rfl, g1⟩, -⟩ := hs'
      exact k2 (x' 3) S' i1 hP' hσ f0 f1 f2 f5 e0 e1 e2 g1
  · obtain ⟨f0, f1, f2, -, -, f5, f6, -, hσ⟩ := hJ
    obtain ⟨e0, e1, e2, -⟩ := hE'
    intro v hv
    subst hv
    cases v with
    | none => exact hs'.elim
    | some v1 =>
      obtain ⟨⟨i1, rfl, g1⟩, -⟩ := hs'
      exact k3 (x' 3) S' i1 hP' hσ f0 f1 f2 f5 f6 e0 e1 e2 g1
  · obtain ⟨f0, f1, f2, -, -, f5, f6, -, f8, f9, f10, f11, f12, -, -, -, -, hσ⟩ := hJ
    obtain ⟨e0, e1, e2, e3, e4, e5, -⟩ := hE'
    intro v hv
    subst hv
    cases v with
    | none => exact hs'.elim
    | some v1 =>
      obtain ⟨⟨i1, rfl, g1⟩, -⟩ := hs'
      exact k4 (x' 3) (x' 4) (x' 5) (x' 6) S' i1 hP' hσ f0 f1 f2 f5 f6 f8 f9 f10 f11 f12 e0 e1 e2 e3 e4 e5 g1
  · obtain ⟨f0, f1, f2, -, -, f5, f6, -, f8, f9, f10, f11, f12, hσ⟩ := hJ
    obtain ⟨e0, e1, e2, e3, e4, e5, -⟩ := hE'
    intro v hv
    subst hv
    cases v with
    | none => exact hs'.elim
    | some v1 =>
      obtain ⟨⟨i1, rfl, g1⟩, -⟩ := hs'
      exact k5 (x' 3) (x' 4) (x' 5) (x' 6) S' i1 hP' hσ f0 f1 f2 f5 f6 f8 f9 f10 f11 f12 e0 e1 e2 e3 e4 e5 g1
  · obtain ⟨f0, f1, f2, -, -, f5, f6, -, f8, f9, f10, hσ⟩ := hJ
    obtain ⟨e0, e1, e2, e3, e4, -⟩ := hE'
    intro v hv
    subst hv
    cases v with
    | none => exact hs'.elim
    | some v1 =>
      obtain ⟨⟨i1, rfl, g1⟩, -⟩ := hs'
      exact k6 (x' 3) (x' 4) (x' 5) S' i1 hP' hσ f0 f1 f2 f5 f6 f8 f9 f10 e0 e1 e2 e3 e4 g1
