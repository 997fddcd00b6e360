/-! ===== levels, factors, steps that are allowed, lines given, the tape: what happens from place to place ===== -/
def sg_lv_x_Z : List sg_z := [(0, [], [.inl (false, (0, .ofNat 0, .negSucc 0))], [(2, 0, (0, .ofNat 0, .ofNat 0), (0, .ofNat 0, .ofNat 0), (0, .ofNat 0, .ofNat 0)), (2, 2, (1, .ofNat 1, .ofNat 0), (0, .ofNat 0, .ofNat 0), (0, .ofNat 0, .ofNat 0))], [(1, [(.negSucc 2147483647, .negSucc 0)])], [], []),
  (0, [], [.inl (false, (0, .ofNat 0, .negSucc 0))], [(2, 0, (0, .ofNat 0, .ofNat 0), (0, .ofNat 0, .ofNat 0), (0, .ofNat 0, .ofNat 0)), (2, 4, (1, .ofNat 1, .ofNat 0), (0, .ofNat 0, .ofNat 1000000), (0, .ofNat 0, .ofNat 0)), (2, 3, (1, .ofNat 1, .ofNat 0), (0, .ofNat 0, .ofNat 0), (0, .ofNat 0, .ofNat 0))], [(1, [(.ofNat 1000001, .ofNat 2147483647)])], [], []),
  (0, [], [.inl (false, (0, .ofNat 0, .negSucc 0))], [(2, 0, (0, .ofNat 0, .ofNat 0), (0, .ofNat 0, .ofNat 0), (0, .ofNat 0, .ofNat 0)), (2, 2, (2, .ofNat 1, .ofNat 0), (0, .ofNat 0, .ofNat 0), (0, .ofNat 0, .ofNat 0)), (2, 1, (0, .ofNat 0, .ofNat 1), (0, .ofNat 0, .ofNat 0), (0, .ofNat 0, .ofNat 0)), (2, 5, (1, .ofNat 1, .ofNat 0), (0, .ofNat 0, .ofNat 1000000), (0, .ofNat 0, .ofNat 0)), (2, 3, (1, .ofNat 1, .ofNat 0), (0, .ofNat 0, .ofNat 0), (0, .ofNat 0, .ofNat 0))], [(1, [(.ofNat 0, .ofNat 1000000)]), (2, [(.negSucc 2147483647, .negSucc 0)])], [], []),
  (0, [], [.inl (false, (0, .ofNat 0, .negSucc 0))], [(2, 0, (0, .ofNat 0, .ofNat 0), (0, .ofNat 0, .ofNat 0), (0, .ofNat 0, .ofNat 0)), (2, 4, (2, .ofNat 1, .ofNat 0), (0, .ofNat 0, .ofNat 1), (0, .ofNat 0, .ofNat 0)), (2, 3, (2, .ofNat 1, .ofNat 0), (0, .ofNat 0, .ofNat 0), (0, .ofNat 0, .ofNat 0)), (2, 1, (0, .ofNat 0, .ofNat 1), (0, .ofNat 0, .ofNat 0), (0, .ofNat 0, .ofNat 0)), (2, 5, (1, .ofNat 1, .ofNat 0), (0, .ofNat 0, .ofNat 1000000), (0, .ofNat 0, .ofNat 0)), (2, 3, (1, .ofNat 1, .ofNat 0), (0, .ofNat 0, .ofNat 0), (0, .ofNat 0, .ofNat 0))], [(1, [(.ofNat 0, .ofNat 1000000)]), (2, [(.ofNat 2, .ofNat 2147483647)])], [], []),
  (0, [], [.inl (false, (0, .ofNat 0, .negSucc 0))], [(2, 0, (0, .ofNat 0, .ofNat 0), (0, .ofNat 0, .ofNat 0), (0, .ofNat 0, .ofNat 0)), (2, 2, (3, .ofNat 1, .ofNat 0), (0, .ofNat 0, .ofNat 0), (0, .ofNat 0, .ofNat 0)), (2, 5, (2, .ofNat 1, .ofNat 0), (0, .ofNat 0, .ofNat 1), (0, .ofNat 0, .ofNat 0)), (2, 3, (2, .ofNat 1, .ofNat 0), (0, .ofNat 0, .ofNat 0), (0, .ofNat 0, .ofNat 0)), (2, 1, (0, .ofNat 0, .ofNat 1), (0, .ofNat 0, .ofNat 0), (0, .ofNat 0, .ofNat 0)), (2, 5, (1, .ofNat 1, .ofNat 0), (0, .ofNat 0, .ofNat 1000000), (0, .ofNat 0, .ofNat 0)), (2, 3, (1, .ofNat 1, .ofNat 0), (0, .ofNat 0, .ofNat 0), (0, .ofNat 0, .ofNat 0))], [(1, [(.ofNat 0, .ofNat 1000000)]), (2, [(.ofNat 0, .ofNat 1)]), (3, [(.negSucc 2147483647, .negSucc 0)])], [], []),
  (0, [], [.inl (false, (0, .ofNat 0, .negSucc 0))], [(2, 0, (0, .ofNat 0, .ofNat 0), (0, .ofNat 0, .ofNat 0), (0, .ofNat 0, .ofNat 0)), (2, 4, (3, .ofNat 1, .ofNat 0), (0, .ofNat 0, .ofNat 9), (0, .ofNat 0, .ofNat 0)), (2, 3, (3, .ofNat 1, .ofNat 0), (0, .ofNat 0, .ofNat 0), (0, .ofNat 0, .ofNat 0)), (2, 5, (2, .ofNat 1, .ofNat 0), (0, .ofNat 0, .ofNat 1), (0, .ofNat 0, .ofNat 0)), (2, 3, (2, .ofNat 1, .ofNat 0), (0, .ofNat 0, .ofNat 0), (0, .ofNat 0, .ofNat 0)), (2, 1, (0, .ofNat 0, .ofNat 1), (0, .ofNat 0, .ofNat 0), (0, .ofNat 0, .ofNat 0)), (2, 5, (1, .ofNat 1, .ofNat 0), (0, .ofNat 0, .ofNat 1000000), (0, .ofNat 0, .ofNat 0)), (2, 3, (1, .ofNat 1, .ofNat 0), (0, .ofNat 0, .ofNat 0), (0, .ofNat 0, .ofNat 0))], [(1, [(.ofNat 0, .ofNat 1000000)]), (2, [(.ofNat 0, .ofNat 1)]), (3, [(.ofNat 10, .ofNat 2147483647)])], [], []),
  (0, [], [.inl (false, (4, .ofNat 1, .ofNat 0))], [(0, 1, (0, .ofNat 0, .ofNat 0), (4, .ofNat 1, .ofNat 1), (0, .ofNat 0, .ofNat 0)), (1, 1, (0, .ofNat 0, .ofNat 0), (4, .ofNat 1, .ofNat 1), (0, .ofNat 0, .ofNat 0)), (0, 1, (0, .ofNat 0, .ofNat 0), (4, .ofNat 1, .ofNat 0), (0, .ofNat 0, .ofNat 0)), (1, 4, (4, .ofNat 1, .ofNat 0), (3, .ofNat 1, .ofNat 0), (0, .ofNat 0, .ofNat 0)), (0, 1, (0, .ofNat 0, .ofNat 0), (4, .ofNat 1, .ofNat 0), (0, .ofNat 0, .ofNat 0)), (1, 3, (4, .ofNat 1, .ofNat 0), (2, .ofNat 1, .ofNat 0), (0, .ofNat 0, .ofNat 0)), (0, 1, (0, .ofNat 0, .ofNat 0), (4, .ofNat 1, .ofNat 0), (0, .ofNat 0, .ofNat 0)), (1, 2, (4, .ofNat 1, .ofNat 0), (1, .ofNat 1, .ofNat 0), (0, .ofNat 0, .ofNat 0)), (0, 1, (0, .ofNat 0, .ofNat 0), (4, .ofNat 1, .ofNat 0), (0, .ofNat 0, .ofNat 0)), (2, 2, (4, .ofNat 1, .ofNat 0), (0, .ofNat 0, .ofNat 8), (0, .ofNat 0, .ofNat 0)), (0, 1, (0, .ofNat 0, .ofNat 0), (4, .ofNat 1, .ofNat 0), (0, .ofNat 0, .ofNat 0)), (2, 1, (0, .ofNat 0, .ofNat 1), (0, .ofNat 0, .ofNat 0), (0, .ofNat 0, .ofNat 0)), (2, 5, (3, .ofNat 1, .ofNat 0), (0, .ofNat 0, .ofNat 9), (0, .ofNat 0, .ofNat 0)), (2, 3, (3, .ofNat 1, .ofNat 0), (0, .ofNat 0, .ofNat 0), (0, .ofNat 0, .ofNat 0)), (2, 5, (2, .ofNat 1, .ofNat 0), (0, .ofNat 0, .ofNat 1), (0, .ofNat 0, .ofNat 0)), (2, 3, (2, .ofNat 1, .ofNat 0), (0, .ofNat 0, .ofNat 0), (0, .ofNat 0, .ofNat 0)), (2, 1, (0, .ofNat 0, .ofNat 1), (0, .ofNat 0, .ofNat 0), (0, .ofNat 0, .ofNat 0)), (2, 5, (1, .ofNat 1, .ofNat 0), (0, .ofNat 0, .ofNat 1000000), (0, .ofNat 0, .ofNat 0)), (2, 3, (1, .ofNat 1, .ofNat 0), (0, .ofNat 0, .ofNat 0), (0, .ofNat 0, .ofNat 0))], [(1, [(.ofNat 0, .ofNat 1000000)]), (2, [(.ofNat 0, .ofNat 1)]), (3, [(.ofNat 0, .ofNat 9)]), (4, [(.ofNat 0, .ofNat 7)])], [], []),
  (0, [], [.inl (false, (0, .ofNat 0, .negSucc 2))], [(2, 3, (4, .ofNat 1, .ofNat 0), (0, .ofNat 0, .ofNat 8), (0, .ofNat 0, .ofNat 0)), (0, 1, (0, .ofNat 0, .ofNat 0), (4, .ofNat 1, .ofNat 0), (0, .ofNat 0, .ofNat 0)), (2, 1, (0, .ofNat 0, .ofNat 1), (0, .ofNat 0, .ofNat 0), (0, .ofNat 0, .ofNat 0)), (2, 5, (3, .ofNat 1, .ofNat 0), (0, .ofNat 0, .ofNat 9), (0, .ofNat 0, .ofNat 0)), (2, 3, (3, .ofNat 1, .ofNat 0), (0, .ofNat 0, .ofNat 0), (0, .ofNat 0, .ofNat 0)), (2, 5, (2, .ofNat 1, .ofNat 0), (0, .ofNat 0, .ofNat 1), (0, .ofNat 0, .ofNat 0)), (2, 3, (2, .ofNat 1, .ofNat 0), (0, .ofNat 0, .ofNat 0), (0, .ofNat 0, .ofNat 0)), (2, 1, (0, .ofNat 0, .ofNat 1), (0, .ofNat 0, .ofNat 0), (0, .ofNat 0, .ofNat 0)), (2, 5, (1, .ofNat 1, .ofNat 0), (0, .ofNat 0, .ofNat 1000000), (0, .ofNat 0, .ofNat 0)), (2, 3, (1, .ofNat 1, .ofNat 0), (0, .ofNat 0, .ofNat 0), (0, .ofNat 0, .ofNat 0))], [(1, [(.ofNat 0, .ofNat 1000000)]), (2, [(.ofNat 0, .ofNat 1)]), (3, [(.ofNat 0, .ofNat 9)]), (4, [(.ofNat 8, .ofNat 8)])], [], [])]
set_option maxRecDepth 1000000 in
theorem sg_lv_x_g : sg_go [] [] 3000 95 0 1 4 [(0, [(.ofNat 0, .ofNat 0)]), (1, [(.negSucc 2147483647, .ofNat 2147483647)]), (2, [(.negSucc 2147483647, .ofNat 2147483647)]), (3, [(.negSucc 2147483647, .ofNat 2147483647)])] [] [] [] [(0, .inr (.inl [0])), (1, .inl (false, (1, .ofNat 1, .ofNat 0))), (2, .inl (false, (2, .ofNat 1, .ofNat 0))), (3, .inl (false, (3, .ofNat 1, .ofNat 0)))] [] [(1, some 0), (2, none), (3, none), (4, none)] sg_lv_x_Z = true := by decide +kernel
set_option maxRecDepth 100000 in
theorem sg_lv_x {Q : Option Value × am_S → Prop} {d : Nat} {S : am_S} {L : am_L} {x1 x2 x3 : Int} (hd : 1 ≤ d) (hP : ax_P0 none S) (l0 : lc L 0 0) (l1 : li L 1 x1) (l2 : li L 2 x2) (l3 : li L 3 x3) (b1 : ((-2147483648) ≤ x1 ∧ x1 ≤ 2147483647)) (b2 : ((-2147483648) ≤ x2 ∧ x2 ≤ 2147483647)) (b3 : ((-2147483648) ≤ x3 ∧ x3 ≤ 2147483647))
    (k0 : ∀ (S' : am_S) (i1 : Int32), ax_P0 none S' → rd S' = rd S → x1 < 0 → ((-2147483648) ≤ x1 ∧ x1 ≤ (-1)) → i1.toInt = (-1) → Q (some (.int i1), S'))
    (k1 : ∀ (S' : am_S) (i1 : Int32), ax_P0 none S' → rd S' = rd S → 0 ≤ x1 → 1000000 < x1 → (1000001 ≤ x1 ∧ x1 ≤ 2147483647) → i1.toInt = (-1) → Q (some (.int i1), S'))
    (k2 : ∀ (S' : am_S) (i1 : Int32), ax_P0 none S' → rd S' = rd S → 0 ≤ x1 → x1 ≤ 1000000 → x2 < 0 → (0 ≤ x1 ∧ x1 ≤ 1000000) → ((-2147483648) ≤ x2 ∧ x2 ≤ (-1)) → i1.toInt = (-1) → Q (some (.int i1), S'))
    (k3 : ∀ (S' : am_S) (i1 : Int32), ax_P0 none S' → rd S' = rd S → 0 ≤ x1 → x1 ≤ 1000000 → 0 ≤ x2 → 1 < x2 → (0 ≤ x1 ∧ x1 ≤ 1000000) → (2 ≤ x2 ∧ x2 ≤ 2147483647) → i1.toInt = (-1) → Q (some (.int i1), S'))
    (k4 : ∀ (S' : am_S) (i1 : Int32), ax_P0 none S' → rd S' = rd S → 0 ≤ x1 → x1 ≤ 1000000 → 0 ≤ x2 → x2 ≤ 1 → x3 < 0 → (0 ≤ x1 ∧ x1 ≤ 1000000) → (0 ≤ x2 ∧ x2 ≤ 1) → ((-2147483648) ≤ x3 ∧ x3 ≤ (-1)) → i1.toInt = (-1) → Q (some (.int i1), S'))
    (k5 : ∀ (S' : am_S) (i1 : Int32), ax_P0 none S' → rd S' = rd S → 0 ≤ x1 → x1 ≤ 1000000 → 0 ≤ x2 → x2 ≤ 1 → 0 ≤ x3 → 9 < x3 → (0 ≤ x1 ∧ x1 ≤ 1000000) → (0 ≤ x2 ∧ x2 ≤ 1) → (10 ≤ x3 ∧ x3 ≤ 2147483647) → i1.toInt = (-1) → Q (some (.int i1), S'))
    (k6 : ∀ (x4 : Int) (S' : am_S) (i1 : Int32), ax_P0 none S' → rd S' = sg_up (sg_up (sg_up (sg_up (rd S) 2 x4 x1) 3 x4 x2) 4 x4 x3) 1 0 (x4 + 1) → 0 ≤ x1 → x1 ≤ 1000000 → 0 ≤ x2 → x2 ≤ 1 → 0 ≤ x3 → x3 ≤ 9 → rd S 1 0 = x4 → x4 < 8 → (0 ≤ x1 ∧ x1 ≤ 1000000) → (0 ≤ x2 ∧ x2 ≤ 1) → (0 ≤ x3 ∧ x3 ≤ 9) → (0 ≤ x4 ∧ x4 ≤ 7) → i1.toInt = x4 → Q (some (.int i1), S'))
    (k7 : ∀ (x4 : Int) (S' : am_S) (i1 : Int32), ax_P0 none S' → rd S' = rd S → 0 ≤ x1 → x1 ≤ 1000000 → 0 ≤ x2 → x2 ≤ 1 → 0 ≤ x3 → x3 ≤ 9 → rd S 1 0 = x4 → 8 ≤ x4 → (0 ≤ x1 ∧ x1 ≤ 1000000) → (0 ≤ x2 ∧ x2 ≤ 1) → (0 ≤ x3 ∧ x3 ≤ 9) → (8 ≤ x4 ∧ x4 ≤ 8) → i1.toInt = (-3) → Q (some (.int i1), S')) : am_V none d 95 0 L ([]) S Q := by
  refine sg_use sg_lv_x_g hd hP (sg_xs [0, x1, x2, x3]) ⟨⟨Int.le_refl 0, Int.le_refl 0⟩, b1, b2, b3, trivial⟩ trivial trivial trivial ⟨l0, l1, l2, l3, trivial⟩ trivial ?_
  intro z hz x' L' st' S' hx hP' hW hL' hs' hJ hE' hT' hD'
  have q1 : x' 1 = x1 := hx 1 (by decide)
  subst q1
  have q2 : x' 2 = x2 := hx 2 (by decide)
  subst q2
  have q3 : x' 3 = x3 := hx 3 (by decide)
  subst q3
  simp only [sg_lv_x_Z, List.mem_cons, List.not_mem_nil, or_false] at hz
  rcases hz with rfl | rfl | rfl | rfl | rfl | rfl | rfl | rfl
  · obtain ⟨f0, -, hσ⟩ := hJ
    obtain ⟨e0, -⟩ := hE'
    intro v hv
    subst hv
    cases v with
    | none => exact hs'.elim
    | some v1 =>
      obtain ⟨⟨i1, rfl, g1⟩, -⟩ := hs'
      exact k0 S' i1 hP' hσ f0 e0 g1
  · obtain ⟨f0, f1, -, hσ⟩ := hJ
    obtain ⟨e0, -⟩ := hE'
    intro v hv
    subst hv
    cases v with
    | none => exact hs'.elim
    | some v1 =>
      obtain ⟨⟨i1, rfl, g1⟩, -⟩ := hs'
      exact k1 S' i1 hP' hσ f0 f1 e0 g1
  · obtain ⟨f0, f1, -, f3, -, hσ⟩ := hJ
    obtain ⟨e0, e1, -⟩ := hE'
    intro v hv
    subst hv
    cases v with
    | none => exact hs'.elim
    | some v1 =>
      obtain ⟨⟨i1, rfl, g1⟩, -⟩ := hs'
      exact k2 S' i1 hP' hσ f0 f1 f3 e0 e1 g1
  · obtain ⟨f0, f1, -, f3, f4, -, hσ⟩ := hJ
    obtain ⟨e0, e1, -⟩ := hE'
    intro v hv
    subst hv
    cases v with
    | none => exact hs'.elim
    | some v1 =>
      obtain ⟨⟨i1, rfl, g1⟩, -⟩ := hs'
      exact k3 S' i1 hP' hσ f0 f1 f3 f4 e0 e1 g1
  · obtain ⟨f0, f1, -, f3, f4, f5, -, hσ⟩ := hJ
    obtain ⟨e0, e1, e2, -⟩ := hE'
    intro v hv
    subst hv
    cases v with
    | none => exact hs'.elim
    | some v1 =>
      obtain ⟨⟨i1, rfl, g1⟩, -⟩ := hs'
      exact k4 S' i1 hP' hσ f0 f1 f3 f4 f5 e0 e1 e2 g1
  · obtain ⟨f0, f1, -, f3, f4, f5, f6, -, hσ⟩ := hJ
    obtain ⟨e0, e1, e2, -⟩ := hE'
    intro v hv
    subst hv
    cases v with
    | none => exact hs'.elim
    | some v1 =>
      obtain ⟨⟨i1, rfl, g1⟩, -⟩ := hs'
      exact k5 S' i1 hP' hσ f0 f1 f3 f4 f5 f6 e0 e1 e2 g1
  · obtain ⟨f0, f1, -, f3, f4, f5, f6, -, f8, f9, -, -, -, -, -, hσ⟩ := hJ
    obtain ⟨e0, e1, e2, e3, -⟩ := hE'
    intro v hv
    subst hv
    cases v with
    | none => exact hs'.elim
    | some v1 =>
      obtain ⟨⟨i1, rfl, g1⟩, -⟩ := hs'
      exact k6 (x' 4) S' i1 hP' hσ f0 f1 f3 f4 f5 f6 f8 f9 e0 e1 e2 e3 g1
  · obtain ⟨f0, f1, -, f3, f4, f5, f6, -, f8, f9, hσ⟩ := hJ
    obtain ⟨e0, e1, e2, e3, -⟩ := hE'
    intro v hv
    subst hv
    cases v with
    | none => exact hs'.elim
    | some v1 =>
      obtain ⟨⟨i1, rfl, g1⟩, -⟩ := hs'
      exact k7 (x' 4) S' i1 hP' hσ f0 f1 f3 f4 f5 f6 f8 f9 e0 e1 e2 e3 g1
def sg_lv_m_Z : List sg_z := [(0, [], [.inl (false, (0, .ofNat 0, .negSucc 0))], [(2, 0, (0, .ofNat 0, .ofNat 0), (0, .ofNat 0, .ofNat 0), (0, .ofNat 0, .ofNat 0)), (2, 2, (1, .ofNat 1, .ofNat 0), (0, .ofNat 0, .ofNat 0), (0, .ofNat 0, .ofNat 0))], [(1, [(.negSucc 2147483647, .negSucc 0)])], [], []),
  (0, [], [.inl (false, (0, .ofNat 0, .negSucc 0))], [(2, 0, (0, .ofNat 0, .ofNat 0), (0, .ofNat 0, .ofNat 0), (0, .ofNat 0, .ofNat 0)), (2, 4, (1, .ofNat 1, .ofNat 0), (0, .ofNat 0, .ofNat 1000000), (0, .ofNat 0, .ofNat 0)), (2, 3, (1, .ofNat 1, .ofNat 0), (0, .ofNat 0, .ofNat 0), (0, .ofNat 0, .ofNat 0))], [(1, [(.ofNat 1000001, .ofNat 2147483647)])], [], []),
  (0, [], [.inl (false, (0, .ofNat 0, .negSucc 0))], [(2, 0, (0, .ofNat 0, .ofNat 0), (0, .ofNat 0, .ofNat 0), (0, .ofNat 0, .ofNat 0)), (2, 2, (2, .ofNat 1, .ofNat 0), (0, .ofNat 0, .ofNat 0), (0, .ofNat 0, .ofNat 0)), (2, 1, (0, .ofNat 0, .ofNat 1), (0, .ofNat 0, .ofNat 0), (0, .ofNat 0, .ofNat 0)), (2, 5, (1, .ofNat 1, .ofNat 0), (0, .ofNat 0, .ofNat 1000000), (0, .ofNat 0, .ofNat 0)), (2, 3, (1, .ofNat 1, .ofNat 0), (0, .ofNat 0, .ofNat 0), (0, .ofNat 0, .ofNat 0))], [(1, [(.ofNat 0, .ofNat 1000000)]), (2, [(.negSucc 2147483647, .negSucc 0)])], [], []),
  (0, [], [.inl (false, (0, .ofNat 0, .negSucc 0))], [(2, 0, (0, .ofNat 0, .ofNat 0), (0, .ofNat 0, .ofNat 0), (0, .ofNat 0, .ofNat 0)), (2, 4, (2, .ofNat 1, .ofNat 0), (0, .ofNat 0, .ofNat 1), (0, .ofNat 0, .ofNat 0)), (2, 3, (2, .ofNat 1, .ofNat 0), (0, .ofNat 0, .ofNat 0), (0, .ofNat 0, .ofNat 0)), (2, 1, (0, .ofNat 0, .ofNat 1), (0, .ofNat 0, .ofNat 0), (0, .ofNat 0, .ofNat 0)), (2, 5, (1, .ofNat 1, .ofNat 0), (0, .ofNat 0, .ofNat 1000000), (0, .ofNat 0, .ofNat 0)), (2, 3, (1, .ofNat 1, .ofNat 0), (0, .ofNat 0, .ofNat 0), (0, .ofNat 0, .ofNat 0))], [(1, [(.ofNat 0, .ofNat 1000000)]), (2, [(.ofNat 2, .ofNat 2147483647)])], [], []),
  (0, [], [.inl (false, (0, .ofNat 0, .negSucc 0))], [(2, 0, (0, .ofNat 0, .ofNat 0), (0, .ofNat 0, .ofNat 0), (0, .ofNat 0, .ofNat 0)), (2, 2, (3, .ofNat 1, .ofNat 0), (0, .ofNat 0, .ofNat 0), (0, .ofNat 0, .ofNat 0)), (2, 1, (0, .ofNat 0, .ofNat 1), (0, .ofNat 0, .ofNat 0), (0, .ofNat 0, .ofNat 0)), (2, 5, (2, .ofNat 1, .ofNat 0), (0, .ofNat 0, .ofNat 1), (0, .ofNat 0, .ofNat 0)), (2, 3, (2, .ofNat 1, .ofNat 0), (0, .ofNat 0, .ofNat 0), (0, .ofNat 0, .ofNat 0)), (2, 1, (0, .ofNat 0, .ofNat 1), (0, .ofNat 0, .ofNat 0), (0, .ofNat 0, .ofNat 0)), (2, 5, (1, .ofNat 1, .ofNat 0), (0, .ofNat 0, .ofNat 1000000), (0, .ofNat 0, .ofNat 0)), (2, 3, (1, .ofNat 1, .ofNat 0), (0, .ofNat 0, .ofNat 0), (0, .ofNat 0, .ofNat 0))], [(1, [(.ofNat 0, .ofNat 1000000)]), (2, [(.ofNat 0, .ofNat 1)]), (3, [(.negSucc 2147483647, .negSucc 0)])], [], []),
  (0, [], [.inl (false, (0, .ofNat 0, .negSucc 0))], [(2, 0, (0, .ofNat 0, .ofNat 0), (0, .ofNat 0, .ofNat 0), (0, .ofNat 0, .ofNat 0)), (2, 4, (3, .ofNat 1, .ofNat 0), (0, .ofNat 0, .ofNat 9), (0, .ofNat 0, .ofNat 0)), (2, 3, (3, .ofNat 1, .ofNat 0), (0, .ofNat 0, .ofNat 0), (0, .ofNat 0, .ofNat 0)), (2, 1, (0, .ofNat 0, .ofNat 1), (0, .ofNat 0, .ofNat 0), (0, .ofNat 0, .ofNat 0)), (2, 5, (2, .ofNat 1, .ofNat 0), (0, .ofNat 0, .ofNat 1), (0, .ofNat 0, .ofNat 0)), (2, 3, (2, .ofNat 1, .ofNat 0), (0, .ofNat 0, .ofNat 0), (0, .ofNat 0, .ofNat 0)), (2, 1, (0, .ofNat 0, .ofNat 1), (0, .ofNat 0, .ofNat 0), (0, .ofNat 0, .ofNat 0)), (2, 5, (1, .ofNat 1, .ofNat 0), (0, .ofNat 0, .ofNat 1000000), (0, .ofNat 0, .ofNat 0)), (2, 3, (1, .ofNat 1, .ofNat 0), (0, .ofNat 0, .ofNat 0), (0, .ofNat 0, .ofNat 0))], [(1, [(.ofNat 0, .ofNat 1000000)]), (2, [(.ofNat 0, .ofNat 1)]), (3, [(.ofNat 10, .ofNat 2147483647)])], [], []),
  (0, [], [.inl (false, (4, .ofNat 1, .ofNat 0))], [(0, 122, (0, .ofNat 0, .ofNat 0), (4, .ofNat 1, .ofNat 1), (0, .ofNat 0, .ofNat 0)), (1, 122, (0, .ofNat 0, .ofNat 0), (4, .ofNat 1, .ofNat 1), (0, .ofNat 0, .ofNat 0)), (0, 122, (0, .ofNat 0, .ofNat 0), (4, .ofNat 1, .ofNat 0), (0, .ofNat 0, .ofNat 0)), (1, 126, (4, .ofNat 1, .ofNat 0), (0, .ofNat 0, .ofNat 0), (0, .ofNat 0, .ofNat 0)), (0, 122, (0, .ofNat 0, .ofNat 0), (4, .ofNat 1, .ofNat 0), (0, .ofNat 0, .ofNat 0)), (1, 125, (4, .ofNat 1, .ofNat 0), (3, .ofNat 1, .ofNat 0), (0, .ofNat 0, .ofNat 0)), (0, 122, (0, .ofNat 0, .ofNat 0), (4, .ofNat 1, .ofNat 0), (0, .ofNat 0, .ofNat 0)), (1, 124, (4, .ofNat 1, .ofNat 0), (2, .ofNat 1, .ofNat 0), (0, .ofNat 0, .ofNat 0)), (0, 122, (0, .ofNat 0, .ofNat 0), (4, .ofNat 1, .ofNat 0), (0, .ofNat 0, .ofNat 0)), (1, 123, (4, .ofNat 1, .ofNat 0), (1, .ofNat 1, .ofNat 0), (0, .ofNat 0, .ofNat 0)), (0, 122, (0, .ofNat 0, .ofNat 0), (4, .ofNat 1, .ofNat 0), (0, .ofNat 0, .ofNat 0)), (2, 1, (4, .ofNat 1, .ofNat 0), (0, .ofNat 0, .ofNat 8), (0, .ofNat 0, .ofNat 0)), (0, 122, (0, .ofNat 0, .ofNat 0), (4, .ofNat 1, .ofNat 0), (0, .ofNat 0, .ofNat 0)), (2, 1, (0, .ofNat 0, .ofNat 1), (0, .ofNat 0, .ofNat 0), (0, .ofNat 0, .ofNat 0)), (2, 5, (3, .ofNat 1, .ofNat 0), (0, .ofNat 0, .ofNat 9), (0, .ofNat 0, .ofNat 0)), (2, 3, (3, .ofNat 1, .ofNat 0), (0, .ofNat 0, .ofNat 0), (0, .ofNat 0, .ofNat 0)), (2, 1, (0, .ofNat 0, .ofNat 1), (0, .ofNat 0, .ofNat 0), (0, .ofNat 0, .ofNat 0)), (2, 5, (2, .ofNat 1, .ofNat 0), (0, .ofNat 0, .ofNat 1), (0, .ofNat 0, .ofNat 0)), (2, 3, (2, .ofNat 1, .ofNat 0), (0, .ofNat 0, .ofNat 0), (0, .ofNat 0, .ofNat 0)), (2, 1, (0, .ofNat 0, .ofNat 1), (0, .ofNat 0, .ofNat 0), (0, .ofNat 0, .ofNat 0)), (2, 5, (1, .ofNat 1, .ofNat 0), (0, .ofNat 0, .ofNat 1000000), (0, .ofNat 0, .ofNat 0)), (2, 3, (1, .ofNat 1, .ofNat 0), (0, .ofNat 0, .ofNat 0), (0, .ofNat 0, .ofNat 0))], [(1, [(.ofNat 0, .ofNat 1000000)]), (2, [(.ofNat 0, .ofNat 1)]), (3, [(.ofNat 0, .ofNat 9)]), (4, [(.ofNat 0, .ofNat 7)])], [], []),
  (0, [], [.inl (false, (0, .ofNat 0, .negSucc 2))], [(2, 0, (4, .ofNat 1, .ofNat 0), (0, .ofNat 0, .ofNat 8), (0, .ofNat 0, .ofNat 0)), (0, 122, (0, .ofNat 0, .ofNat 0), (4, .ofNat 1, .ofNat 0), (0, .ofNat 0, .ofNat 0)), (2, 1, (0, .ofNat 0, .ofNat 1), (0, .ofNat 0, .ofNat 0), (0, .ofNat 0, .ofNat 0)), (2, 5, (3, .ofNat 1, .ofNat 0), (0, .ofNat 0, .ofNat 9), (0, .ofNat 0, .ofNat 0)), (2, 3, (3, .ofNat 1, .ofNat 0), (0, .ofNat 0, .ofNat 0), (0, .ofNat 0, .ofNat 0)), (2, 1, (0, .ofNat 0, .ofNat 1), (0, .ofNat 0, .ofNat 0), (0, .ofNat 0, .ofNat 0)), (2, 5, (2, .ofNat 1, .ofNat 0), (0, .ofNat 0, .ofNat 1), (0, .ofNat 0, .ofNat 0)), (2, 3, (2, .ofNat 1, .ofNat 0), (0, .ofNat 0, .ofNat 0), (0, .ofNat 0, .ofNat 0)), (2, 1, (0, .ofNat 0, .ofNat 1), (0, .ofNat 0, .ofNat 0), (0, .ofNat 0, .ofNat 0)), (2, 5, (1, .ofNat 1, .ofNat 0), (0, .ofNat 0, .ofNat 1000000), (0, .ofNat 0, .ofNat 0)), (2, 3, (1, .ofNat 1, .ofNat 0), (0, .ofNat 0, .ofNat 0), (0, .ofNat 0, .ofNat 0))], [(1, [(.ofNat 0, .ofNat 1000000)]), (2, [(.ofNat 0, .ofNat 1)]), (3, [(.ofNat 0, .ofNat 9)]), (4, [(.ofNat 8, .ofNat 8)])], [], [])]
set_option maxRecDepth 1000000 in
theorem sg_lv_m_g : sg_go [] [] 3000 160 0 1 4 [(0, [(.ofNat 0, .ofNat 0)]), (1, [(.negSucc 2147483647, .ofNat 2147483647)]), (2, [(.negSucc 2147483647, .ofNat 2147483647)]), (3, [(.negSucc 2147483647, .ofNat 2147483647)])] [] [] [] [(0, .inr (.inl [122])), (1, .inl (false, (1, .ofNat 1, .ofNat 0))), (2, .inl (false, (2, .ofNat 1, .ofNat 0))), (3, .inl (false, (3, .ofNat 1, .ofNat 0)))] [] [(122, some 0), (123, none), (124, none), (125, none), (126, none)] sg_lv_m_Z = true := by decide +kernel
set_option maxRecDepth 100000 in
theorem sg_lv_m {Q : Option Value × am_S → Prop} {d : Nat} {S : am_S} {L : am_L} {x1 x2 x3 : Int} (hd : 1 ≤ d) (hP : ax_P0 none S) (l0 : lc L 0 122) (l1 : li L 1 x1) (l2 : li L 2 x2) (l3 : li L 3 x3) (b1 : ((-2147483648) ≤ x1 ∧ x1 ≤ 2147483647)) (b2 : ((-2147483648) ≤ x2 ∧ x2 ≤ 2147483647)) (b3 : ((-2147483648) ≤ x3 ∧ x3 ≤ 2147483647))
    (k0 : ∀ (S' : am_S) (i1 : Int32), ax_P0 none S' → rd S' = rd S → x1 < 0 → ((-2147483648) ≤ x1 ∧ x1 ≤ (-1)) → i1.toInt = (-1) → Q (some (.int i1), S'))
    (k1 : ∀ (S' : am_S) (i1 : Int32), ax_P0 none S' → rd S' = rd S → 0 ≤ x1 → 1000000 < x1 → (1000001 ≤ x1 ∧ x1 ≤ 2147483647) → i1.toInt = (-1) → Q (some (.int i1), S'))
    (k2 : ∀ (S' : am_S) (i1 : Int32), ax_P0 none S' → rd S' = rd S → 0 ≤ x1 → x1 ≤ 1000000 → x2 < 0 → (0 ≤ x1 ∧ x1 ≤ 1000000) → ((-2147483648) ≤ x2 ∧ x2 ≤ (-1)) → i1.toInt = (-1) → Q (some (.int i1), S'))
    (k3 : ∀ (S' : am_S) (i1 : Int32), ax_P0 none S' → rd S' = rd S → 0 ≤ x1 → x1 ≤ 1000000 → 0 ≤ x2 → 1 < x2 → (0 ≤ x1 ∧ x1 ≤ 1000000) → (2 ≤ x2 ∧ x2 ≤ 2147483647) → i1.toInt = (-1) → Q (some (.int i1), S'))
    (k4 : ∀ (S' : am_S) (i1 : Int32), ax_P0 none S' → rd S' = rd S → 0 ≤ x1 → x1 ≤ 1000000 → 0 ≤ x2 → x2 ≤ 1 → x3 < 0 → (0 ≤ x1 ∧ x1 ≤ 1000000) → (0 ≤ x2 ∧ x2 ≤ 1) → ((-2147483648) ≤ x3 ∧ x3 ≤ (-1)) → i1.toInt = (-1) → Q (some (.int i1), S'))
    (k5 : ∀ (S' : am_S) (i1 : Int32), ax_P0 none S' → rd S' = rd S → 0 ≤ x1 → x1 ≤ 1000000 → 0 ≤ x2 → x2 ≤ 1 → 0 ≤ x3 → 9 < x3 → (0 ≤ x1 ∧ x1 ≤ 1000000) → (0 ≤ x2 ∧ x2 ≤ 1) → (10 ≤ x3 ∧ x3 ≤ 2147483647) → i1.toInt = (-1) → Q (some (.int i1), S'))
    (k6 : ∀ (x4 : Int) (S' : am_S) (i1 : Int32), ax_P0 none S' → rd S' = sg_up (sg_up (sg_up (sg_up (sg_up (rd S) 123 x4 x1) 124 x4 x2) 125 x4 x3) 126 x4 0) 122 0 (x4 + 1) → 0 ≤ x1 → x1 ≤ 1000000 → 0 ≤ x2 → x2 ≤ 1 → 0 ≤ x3 → x3 ≤ 9 → rd S 122 0 = x4 → x4 ≠ 8 → (0 ≤ x1 ∧ x1 ≤ 1000000) → (0 ≤ x2 ∧ x2 ≤ 1) → (0 ≤ x3 ∧ x3 ≤ 9) → (0 ≤ x4 ∧ x4 ≤ 7) → i1.toInt = x4 → Q (some (.int i1), S'))
    (k7 : ∀ (x4 : Int) (S' : am_S) (i1 : Int32), ax_P0 none S' → rd S' = rd S → 0 ≤ x1 → x1 ≤ 1000000 → 0 ≤ x2 → x2 ≤ 1 → 0 ≤ x3 → x3 ≤ 9 → rd S 122 0 = x4 → x4 = 8 → (0 ≤ x1 ∧ x1 ≤ 1000000) → (0 ≤ x2 ∧ x2 ≤ 1) → (0 ≤ x3 ∧ x3 ≤ 9) → (8 ≤ x4 ∧ x4 ≤ 8) → i1.toInt = (-3) → Q (some (.int i1), S')) : am_V none d 160 0 L ([]) S Q := by
  refine sg_use sg_lv_m_g hd hP (sg_xs [0, x1, x2, x3]) ⟨⟨Int.le_refl 0, Int.le_refl 0⟩, b1, b2, b3, trivial⟩ trivial trivial trivial ⟨l0, l1, l2, l3, trivial⟩ trivial ?_
  intro z hz x' L' st' S' hx hP' hW hL' hs' hJ hE' hT' hD'
  have q1 : x' 1 = x1 := hx 1 (by decide)
  subst q1
  have q2 : x' 2 = x2 := hx 2 (by decide)
  subst q2
  have q3 : x' 3 = x3 := hx 3 (by decide)
  subst q3
  simp only [sg_lv_m_Z, List.mem_cons, List.not_mem_nil, or_false] at hz
  rcases hz with rfl | rfl | rfl | rfl | rfl | rfl | rfl | rfl
  · obtain ⟨f0, -, hσ⟩ := hJ
    obtain ⟨e0, -⟩ := hE'
    intro v hv
    subst hv
    cases v with
    | none => exact hs'.elim
    | some v1 =>
      obtain ⟨⟨i1, rfl, g1⟩, -⟩ := hs'
      exact k0 S' i1 hP' hσ f0 e0 g1
  · obtain ⟨f0, f1, -, hσ⟩ := hJ
    obtain ⟨e0, -⟩ := hE'
    intro v hv
    subst hv
    cases v with
    | none => exact hs'.elim
    | some v1 =>
      obtain ⟨⟨i1, rfl, g1⟩, -⟩ := hs'
      exact k1 S' i1 hP' hσ f0 f1 e0 g1
  · obtain ⟨f0, f1, -, f3, -, hσ⟩ := hJ
    obtain ⟨e0, e1, -⟩ := hE'
    intro v hv
    subst hv
    cases v with
    | none => exact hs'.elim
    | some v1 =>
      obtain ⟨⟨i1, rfl, g1⟩, -⟩ := hs'
      exact k2 S' i1 hP' hσ f0 f1 f3 e0 e1 g1
  · obtain ⟨f0, f1, -, f3, f4, -, hσ⟩ := hJ
    obtain ⟨e0, e1, -⟩ := hE'
    intro v hv
    subst hv
    cases v with
    | none => exact hs'.elim
    | some v1 =>
      obtain ⟨⟨i1, rfl, g1⟩, -⟩ := hs'
      exact k3 S' i1 hP' hσ f0 f1 f3 f4 e0 e1 g1
  · obtain ⟨f0, f1, -, f3, f4, -, f6, -, hσ⟩ := hJ
    obtain ⟨e0, e1, e2, -⟩ := hE'
    intro v hv
    subst hv
    cases v with
    | none => exact hs'.elim
    | some v1 =>
      obtain ⟨⟨i1, rfl, g1⟩, -⟩ := hs'
      exact k4 S' i1 hP' hσ f0 f1 f3 f4 f6 e0 e1 e2 g1
  · obtain ⟨f0, f1, -, f3, f4, -, f6, f7, -, hσ⟩ := hJ
    obtain ⟨e0, e1, e2, -⟩ := hE'
    intro v hv
    subst hv
    cases v with
    | none => exact hs'.elim
    | some v1 =>
      obtain ⟨⟨i1, rfl, g1⟩, -⟩ := hs'
      exact k5 S' i1 hP' hσ f0 f1 f3 f4 f6 f7 e0 e1 e2 g1
  · obtain ⟨f0, f1, -, f3, f4, -, f6, f7, -, f9, f10, -, -, -, -, -, -, hσ⟩ := hJ
    obtain ⟨e0, e1, e2, e3, -⟩ := hE'
    intro v hv
    subst hv
    cases v with
    | none => exact hs'.elim
    | some v1 =>
      obtain ⟨⟨i1, rfl, g1⟩, -⟩ := hs'
      exact k6 (x' 4) S' i1 hP' hσ f0 f1 f3 f4 f6 f7 f9 f10 e0 e1 e2 e3 g1
  · obtain ⟨f0, f1, -, f3, f4, -, f6, f7, -, f9, f10, hσ⟩ := hJ
    obtain ⟨e0, e1, e2, e3, -⟩ := hE'
    intro v hv
    subst hv
    cases v with
    | none => exact hs'.elim
    | some v1 =>
      obtain ⟨⟨i1, rfl, g1⟩, -⟩ := hs'
      exact k7 (x' 4) S' i1 hP' hσ f0 f1 f3 f4 f6 f7 f9 f10 e0 e1 e2 e3 g1
def sg_fa_x_Z : List sg_z := [(0, [], [.inl (false, (0, .ofNat 0, .negSucc 999))], [(2, 0, (0, .ofNat 0, .ofNat 0), (0, .ofNat 0, .ofNat 0), (0, .ofNat 0, .ofNat 0)), (2, 2, (1, .ofNat 1, .ofNat 0), (0, .ofNat 0, .ofNat 0), (0, .ofNat 0, .ofNat 0))], [(1, [(.negSucc 2147483647, .negSucc 0)])], [], []),
  (0, [], [.inl (false, (0, .ofNat 0, .negSucc 999))], [(2, 0, (0, .ofNat 0, .ofNat 0), (0, .ofNat 0, .ofNat 0), (0, .ofNat 0, .ofNat 0)), (2, 3, (1, .ofNat 1, .ofNat 0), (3, .ofNat 1, .ofNat 0), (0, .ofNat 0, .ofNat 0)), (0, 1, (0, .ofNat 0, .ofNat 0), (3, .ofNat 1, .ofNat 0), (0, .ofNat 0, .ofNat 0)), (2, 3, (1, .ofNat 1, .ofNat 0), (0, .ofNat 0, .ofNat 0), (0, .ofNat 0, .ofNat 0))], [(1, [(.ofNat 0, .ofNat 2147483647)]), (3, [(.ofNat 0, .ofNat 8)])], [], []),
  (0, [], [.inl (false, (0, .ofNat 0, .negSucc 999))], [(2, 2, (2, .ofNat 1, .ofNat 0), (0, .ofNat 0, .negSucc 99), (0, .ofNat 0, .ofNat 0)), (2, 1, (0, .ofNat 0, .ofNat 1), (0, .ofNat 0, .ofNat 0), (0, .ofNat 0, .ofNat 0)), (2, 2, (1, .ofNat 1, .ofNat 0), (3, .ofNat 1, .ofNat 0), (0, .ofNat 0, .ofNat 0)), (0, 1, (0, .ofNat 0, .ofNat 0), (3, .ofNat 1, .ofNat 0), (0, .ofNat 0, .ofNat 0)), (2, 3, (1, .ofNat 1, .ofNat 0), (0, .ofNat 0, .ofNat 0), (0, .ofNat 0, .ofNat 0))], [(1, [(.ofNat 0, .ofNat 7)]), (2, [(.negSucc 2147483647, .negSucc 100)]), (3, [(.ofNat 1, .ofNat 8)])], [], []),
  (0, [], [.inl (false, (4, .ofNat 1, .ofNat 0))], [(1, 5, (1, .ofNat 1, .ofNat 0), (2, .ofNat 1, .ofNat 0), (0, .ofNat 0, .ofNat 0)), (0, 5, (1, .ofNat 1, .ofNat 0), (4, .ofNat 1, .ofNat 0), (0, .ofNat 0, .ofNat 0)), (2, 5, (2, .ofNat 1, .ofNat 0), (0, .ofNat 0, .ofNat 100), (0, .ofNat 0, .ofNat 0)), (2, 3, (2, .ofNat 1, .ofNat 0), (0, .ofNat 0, .negSucc 99), (0, .ofNat 0, .ofNat 0)), (2, 1, (0, .ofNat 0, .ofNat 1), (0, .ofNat 0, .ofNat 0), (0, .ofNat 0, .ofNat 0)), (2, 2, (1, .ofNat 1, .ofNat 0), (3, .ofNat 1, .ofNat 0), (0, .ofNat 0, .ofNat 0)), (0, 1, (0, .ofNat 0, .ofNat 0), (3, .ofNat 1, .ofNat 0), (0, .ofNat 0, .ofNat 0)), (2, 3, (1, .ofNat 1, .ofNat 0), (0, .ofNat 0, .ofNat 0), (0, .ofNat 0, .ofNat 0))], [(1, [(.ofNat 0, .ofNat 7)]), (2, [(.negSucc 99, .ofNat 100)]), (3, [(.ofNat 1, .ofNat 8)]), (4, [(.negSucc 99, .ofNat 100)])], [], []),
  (0, [], [.inl (false, (0, .ofNat 0, .negSucc 999))], [(2, 4, (2, .ofNat 1, .ofNat 0), (0, .ofNat 0, .ofNat 100), (0, .ofNat 0, .ofNat 0)), (2, 3, (2, .ofNat 1, .ofNat 0), (0, .ofNat 0, .negSucc 99), (0, .ofNat 0, .ofNat 0)), (2, 1, (0, .ofNat 0, .ofNat 1), (0, .ofNat 0, .ofNat 0), (0, .ofNat 0, .ofNat 0)), (2, 2, (1, .ofNat 1, .ofNat 0), (3, .ofNat 1, .ofNat 0), (0, .ofNat 0, .ofNat 0)), (0, 1, (0, .ofNat 0, .ofNat 0), (3, .ofNat 1, .ofNat 0), (0, .ofNat 0, .ofNat 0)), (2, 3, (1, .ofNat 1, .ofNat 0), (0, .ofNat 0, .ofNat 0), (0, .ofNat 0, .ofNat 0))], [(1, [(.ofNat 0, .ofNat 7)]), (2, [(.ofNat 101, .ofNat 2147483647)]), (3, [(.ofNat 1, .ofNat 8)])], [], [])]
set_option maxRecDepth 1000000 in
theorem sg_fa_x_g : sg_go [] [] 3000 126 0 1 3 [(0, [(.ofNat 0, .ofNat 0)]), (1, [(.negSucc 2147483647, .ofNat 2147483647)]), (2, [(.negSucc 2147483647, .ofNat 2147483647)])] [] [] [] [(0, .inr (.inl [0])), (1, .inl (false, (1, .ofNat 1, .ofNat 0))), (2, .inl (false, (2, .ofNat 1, .ofNat 0)))] [] [(5, none)] sg_fa_x_Z = true := by decide +kernel
set_option maxRecDepth 100000 in
theorem sg_fa_x {Q : Option Value × am_S → Prop} {d : Nat} {S : am_S} {L : am_L} {x1 x2 : Int} (hd : 1 ≤ d) (hP : ax_P0 none S) (l0 : lc L 0 0) (l1 : li L 1 x1) (l2 : li L 2 x2) (b1 : ((-2147483648) ≤ x1 ∧ x1 ≤ 2147483647)) (b2 : ((-2147483648) ≤ x2 ∧ x2 ≤ 2147483647))
    (k0 : ∀ (S' : am_S) (i1 : Int32), ax_P0 none S' → rd S' = rd S → x1 < 0 → ((-2147483648) ≤ x1 ∧ x1 ≤ (-1)) → i1.toInt = (-1000) → Q (some (.int i1), S'))
    (k1 : ∀ (x3 : Int) (S' : am_S) (i1 : Int32), ax_P0 none S' → rd S' = rd S → 0 ≤ x1 → rd S 1 0 = x3 → x3 ≤ x1 → (0 ≤ x1 ∧ x1 ≤ 2147483647) → (0 ≤ x3 ∧ x3 ≤ 8) → i1.toInt = (-1000) → Q (some (.int i1), S'))
    (k2 : ∀ (x3 : Int) (S' : am_S) (i1 : Int32), ax_P0 none S' → rd S' = rd S → 0 ≤ x1 → rd S 1 0 = x3 → x1 < x3 → x2 < (-100) → (0 ≤ x1 ∧ x1 ≤ 7) → ((-2147483648) ≤ x2 ∧ x2 ≤ (-101)) → (1 ≤ x3 ∧ x3 ≤ 8) → i1.toInt = (-1000) → Q (some (.int i1), S'))
    (k3 : ∀ (x3 x4 : Int) (S' : am_S) (i1 : Int32), ax_P0 none S' → rd S' = sg_up (rd S) 5 x1 x2 → 0 ≤ x1 → rd S 1 0 = x3 → x1 < x3 → (-100) ≤ x2 → x2 ≤ 100 → rd S 5 x1 = x4 → (0 ≤ x1 ∧ x1 ≤ 7) → ((-100) ≤ x2 ∧ x2 ≤ 100) → (1 ≤ x3 ∧ x3 ≤ 8) → ((-100) ≤ x4 ∧ x4 ≤ 100) → i1.toInt = x4 → Q (some (.int i1), S'))
    (k4 : ∀ (x3 : Int) (S' : am_S) (i1 : Int32), ax_P0 none S' → rd S' = rd S → 0 ≤ x1 → rd S 1 0 = x3 → x1 < x3 → (-100) ≤ x2 → 100 < x2 → (0 ≤ x1 ∧ x1 ≤ 7) → (101 ≤ x2 ∧ x2 ≤ 2147483647) → (1 ≤ x3 ∧ x3 ≤ 8) → i1.toInt = (-1000) → Q (some (.int i1), S')) : am_V none d 126 0 L ([]) S Q := by
  refine sg_use sg_fa_x_g hd hP (sg_xs [0, x1, x2]) ⟨⟨Int.le_refl 0, Int.le_refl 0⟩, b1, b2, trivial⟩ trivial trivial trivial ⟨l0, l1, l2, trivial⟩ trivial ?_
  intro z hz x' L' st' S' hx hP' hW hL' hs' hJ hE' hT' hD'
  have q1 : x' 1 = x1 := hx 1 (by decide)
  subst q1
  have q2 : x' 2 = x2 := hx 2 (by decide)
  subst q2
  simp only [sg_fa_x_Z, List.mem_cons, List.not_mem_nil, or_false] at hz
  rcases hz with rfl | rfl | rfl | rfl | rfl
  · obtain ⟨f0, -, hσ⟩ := hJ
    obtain ⟨e0, -⟩ := hE'
    intro v hv
    subst hv
    cases v with
    | none => exact hs'.elim
    | some v1 =>
      obtain ⟨⟨i1, rfl, g1⟩, -⟩ := hs'
      exact k0 S' i1 hP' hσ f0 e0 g1
  · obtain ⟨f0, f1, f2, -, hσ⟩ := hJ
    obtain ⟨e0, e1, -⟩ := hE'
    intro v hv
    subst hv
    cases v with
    | none => exact hs'.elim
    | some v1 =>
      obtain ⟨⟨i1, rfl, g1⟩, -⟩ := hs'
      exact k1 (x' 3) S' i1 hP' hσ f0 f1 f2 e0 e1 g1
  · obtain ⟨f0, f1, f2, -, f4, hσ⟩ := hJ
    obtain ⟨e0, e1, e2, -⟩ := hE'
    intro v hv
    subst hv
    cases v with
    | none => exact hs'.elim
    | some v1 =>
      obtain ⟨⟨i1, rfl, g1⟩, -⟩ := hs'
      exact k2 (x' 3) S' i1 hP' hσ f0 f1 f2 f4 e0 e1 e2 g1
  · obtain ⟨f0, f1, f2, -, f4, f5, f6, hσ⟩ := hJ
    obtain ⟨e0, e1, e2, e3, -⟩ := hE'
    intro v hv
    subst hv
    cases v with
    | none => exact hs'.elim
    | some v1 =>
      obtain ⟨⟨i1, rfl, g1⟩, -⟩ := hs'
      exact k3 (x' 3) (x' 4) S' i1 hP' hσ f0 f1 f2 f4 f5 f6 e0 e1 e2 e3 g1
  · obtain ⟨f0, f1, f2, -, f4, f5, hσ⟩ := hJ
    obtain ⟨e0, e1, e2, -⟩ := hE'
    intro v hv
    subst hv
    cases v with
    | none => exact hs'.elim
    | some v1 =>
      obtain ⟨⟨i1, rfl, g1⟩, -⟩ := hs'
      exact k4 (x' 3) S' i1 hP' hσ f0 f1 f2 f4 f5 e0 e1 e2 g1
def sg_fa_m_Z : List sg_z := [(0, [], [.inl (false, (0, .ofNat 0, .negSucc 999))], [(2, 0, (0, .ofNat 0, .ofNat 0), (0, .ofNat 0, .ofNat 0), (0, .ofNat 0, .ofNat 0)), (2, 2, (1, .ofNat 1, .ofNat 0), (0, .ofNat 0, .ofNat 0), (0, .ofNat 0, .ofNat 0)), (0, 122, (0, .ofNat 0, .ofNat 0), (3, .ofNat 1, .ofNat 0), (0, .ofNat 0, .ofNat 0))], [(1, [(.negSucc 2147483647, .negSucc 0)]), (3, [(.ofNat 0, .ofNat 8)])], [], []),
  (0, [], [.inl (false, (0, .ofNat 0, .negSucc 999))], [(2, 0, (0, .ofNat 0, .ofNat 0), (0, .ofNat 0, .ofNat 0), (0, .ofNat 0, .ofNat 0)), (2, 4, (1, .ofNat 1, .ofNat 0), (3, .ofNat 1, .negSucc 0), (0, .ofNat 0, .ofNat 0)), (2, 3, (1, .ofNat 1, .ofNat 0), (0, .ofNat 0, .ofNat 0), (0, .ofNat 0, .ofNat 0)), (0, 122, (0, .ofNat 0, .ofNat 0), (3, .ofNat 1, .ofNat 0), (0, .ofNat 0, .ofNat 0))], [(1, [(.ofNat 0, .ofNat 2147483647)]), (3, [(.ofNat 0, .ofNat 8)])], [], []),
  (0, [], [.inl (false, (0, .ofNat 0, .negSucc 999))], [(2, 0, (0, .ofNat 0, .ofNat 0), (0, .ofNat 0, .ofNat 0), (0, .ofNat 0, .ofNat 0)), (2, 2, (2, .ofNat 1, .ofNat 0), (0, .ofNat 0, .negSucc 99), (0, .ofNat 0, .ofNat 0)), (2, 1, (0, .ofNat 0, .ofNat 1), (0, .ofNat 0, .ofNat 0), (0, .ofNat 0, .ofNat 0)), (2, 5, (1, .ofNat 1, .ofNat 0), (3, .ofNat 1, .negSucc 0), (0, .ofNat 0, .ofNat 0)), (2, 3, (1, .ofNat 1, .ofNat 0), (0, .ofNat 0, .ofNat 0), (0, .ofNat 0, .ofNat 0)), (0, 122, (0, .ofNat 0, .ofNat 0), (3, .ofNat 1, .ofNat 0), (0, .ofNat 0, .ofNat 0))], [(1, [(.ofNat 0, .ofNat 7)]), (2, [(.negSucc 2147483647, .negSucc 100)]), (3, [(.ofNat 1, .ofNat 8)])], [], []),
  (0, [], [.inl (false, (0, .ofNat 0, .negSucc 999))], [(2, 0, (0, .ofNat 0, .ofNat 0), (0, .ofNat 0, .ofNat 0), (0, .ofNat 0, .ofNat 0)), (2, 4, (2, .ofNat 1, .ofNat 0), (0, .ofNat 0, .ofNat 100), (0, .ofNat 0, .ofNat 0)), (2, 3, (2, .ofNat 1, .ofNat 0), (0, .ofNat 0, .negSucc 99), (0, .ofNat 0, .ofNat 0)), (2, 1, (0, .ofNat 0, .ofNat 1), (0, .ofNat 0, .ofNat 0), (0, .ofNat 0, .ofNat 0)), (2, 5, (1, .ofNat 1, .ofNat 0), (3, .ofNat 1, .negSucc 0), (0, .ofNat 0, .ofNat 0)), (2, 3, (1, .ofNat 1, .ofNat 0), (0, .ofNat 0, .ofNat 0), (0, .ofNat 0, .ofNat 0)), (0, 122, (0, .ofNat 0, .ofNat 0), (3, .ofNat 1, .ofNat 0), (0, .ofNat 0, .ofNat 0))], [(1, [(.ofNat 0, .ofNat 7)]), (2, [(.ofNat 101, .ofNat 2147483647)]), (3, [(.ofNat 1, .ofNat 8)])], [], []),
  (0, [], [.inl (false, (4, .ofNat 1, .ofNat 0))], [(1, 126, (1, .ofNat 1, .ofNat 0), (2, .ofNat 1, .ofNat 0), (0, .ofNat 0, .ofNat 0)), (0, 126, (1, .ofNat 1, .ofNat 0), (4, .ofNat 1, .ofNat 0), (0, .ofNat 0, .ofNat 0)), (2, 1, (0, .ofNat 0, .ofNat 1), (0, .ofNat 0, .ofNat 0), (0, .ofNat 0, .ofNat 0)), (2, 5, (2, .ofNat 1, .ofNat 0), (0, .ofNat 0, .ofNat 100), (0, .ofNat 0, .ofNat 0)), (2, 3, (2, .ofNat 1, .ofNat 0), (0, .ofNat 0, .negSucc 99), (0, .ofNat 0, .ofNat 0)), (2, 1, (0, .ofNat 0, .ofNat 1), (0, .ofNat 0, .ofNat 0), (0, .ofNat 0, .ofNat 0)), (2, 5, (1, .ofNat 1, .ofNat 0), (3, .ofNat 1, .negSucc 0), (0, .ofNat 0, .ofNat 0)), (2, 3, (1, .ofNat 1, .ofNat 0), (0, .ofNat 0, .ofNat 0), (0, .ofNat 0, .ofNat 0)), (0, 122, (0, .ofNat 0, .ofNat 0), (3, .ofNat 1, .ofNat 0), (0, .ofNat 0, .ofNat 0))], [(1, [(.ofNat 0, .ofNat 7)]), (2, [(.negSucc 99, .ofNat 100)]), (3, [(.ofNat 1, .ofNat 8)]), (4, [(.negSucc 99, .ofNat 100)])], [], [])]
set_option maxRecDepth 1000000 in
theorem sg_fa_m_g : sg_go [] [] 3000 228 0 2 3 [(0, [(.ofNat 0, .ofNat 0)]), (1, [(.negSucc 2147483647, .ofNat 2147483647)]), (2, [(.negSucc 2147483647, .ofNat 2147483647)])] [] [] [] [(0, .inr (.inl [122])), (1, .inl (false, (1, .ofNat 1, .ofNat 0))), (2, .inl (false, (2, .ofNat 1, .ofNat 0)))] [] [(126, none)] sg_fa_m_Z = true := by decide +kernel
set_option maxRecDepth 100000 in
theorem sg_fa_m {Q : Option Value × am_S → Prop} {d : Nat} {S : am_S} {L : am_L} {x1 x2 : Int} (hd : 2 ≤ d) (hP : ax_P0 none S) (l0 : lc L 0 122) (l1 : li L 1 x1) (l2 : li L 2 x2) (b1 : ((-2147483648) ≤ x1 ∧ x1 ≤ 2147483647)) (b2 : ((-2147483648) ≤ x2 ∧ x2 ≤ 2147483647))
    (k0 : ∀ (x3 : Int) (S' : am_S) (i1 : Int32), ax_P0 none S' → rd S' = rd S → rd S 122 0 = x3 → x1 < 0 → ((-2147483648) ≤ x1 ∧ x1 ≤ (-1)) → (0 ≤ x3 ∧ x3 ≤ 8) → i1.toInt = (-1000) → Q (some (.int i1), S'))
    (k1 : ∀ (x3 : Int) (S' : am_S) (i1 : Int32), ax_P0 none S' → rd S' = rd S → rd S 122 0 = x3 → 0 ≤ x1 → x3 + (-1) < x1 → (0 ≤ x1 ∧ x1 ≤ 2147483647) → (0 ≤ x3 ∧ x3 ≤ 8) → i1.toInt = (-1000) → Q (some (.int i1), S'))
    (k2 : ∀ (x3 : Int) (S' : am_S) (i1 : Int32), ax_P0 none S' → rd S' = rd S → rd S 122 0 = x3 → 0 ≤ x1 → x1 ≤ x3 + (-1) → x2 < (-100) → (0 ≤ x1 ∧ x1 ≤ 7) → ((-2147483648) ≤ x2 ∧ x2 ≤ (-101)) → (1 ≤ x3 ∧ x3 ≤ 8) → i1.toInt = (-1000) → Q (some (.int i1), S'))
    (k3 : ∀ (x3 : Int) (S' : am_S) (i1 : Int32), ax_P0 none S' → rd S' = rd S → rd S 122 0 = x3 → 0 ≤ x1 → x1 ≤ x3 + (-1) → (-100) ≤ x2 → 100 < x2 → (0 ≤ x1 ∧ x1 ≤ 7) → (101 ≤ x2 ∧ x2 ≤ 2147483647) → (1 ≤ x3 ∧ x3 ≤ 8) → i1.toInt = (-1000) → Q (some (.int i1), S'))
    (k4 : ∀ (x3 x4 : Int) (S' : am_S) (i1 : Int32), ax_P0 none S' → rd S' = sg_up (rd S) 126 x1 x2 → rd S 122 0 = x3 → 0 ≤ x1 → x1 ≤ x3 + (-1) → (-100) ≤ x2 → x2 ≤ 100 → rd S 126 x1 = x4 → (0 ≤ x1 ∧ x1 ≤ 7) → ((-100) ≤ x2 ∧ x2 ≤ 100) → (1 ≤ x3 ∧ x3 ≤ 8) → ((-100) ≤ x4 ∧ x4 ≤ 100) → i1.toInt = x4 → Q (some (.int i1), S')) : am_V none d 228 0 L ([]) S Q := by
  refine sg_use sg_fa_m_g hd hP (sg_xs [0, x1, x2]) ⟨⟨Int.le_refl 0, Int.le_refl 0⟩, b1, b2, trivial⟩ trivial trivial trivial ⟨l0, l1, l2, trivial⟩ trivial ?_
  intro z hz x' L' st' S' hx hP' hW hL' hs' hJ hE' hT' hD'
  have q1 : x' 1 = x1 := hx 1 (by decide)
  subst q1
  have q2 : x' 2 = x2 := hx 2 (by decide)
  subst q2
  simp only [sg_fa_m_Z, List.mem_cons, List.not_mem_nil, or_false] at hz
  rcases hz with rfl | rfl | rfl | rfl | rfl
  · obtain ⟨f0, f1, -, hσ⟩ := hJ
    obtain ⟨e0, e1, -⟩ := hE'
    intro v hv
    subst hv
    cases v with
    | none => exact hs'.elim
    | some v1 =>
      obtain ⟨⟨i1, rfl, g1⟩, -⟩ := hs'
      exact k0 (x' 3) S' i1 hP' hσ f0 f1 e0 e1 g1
  · obtain ⟨f0, f1, f2, -, hσ⟩ := hJ
    obtain ⟨e0, e1, -⟩ := hE'
    intro v hv
    subst hv
    cases v with
    | none => exact hs'.elim
    | some v1 =>
      obtain ⟨⟨i1, rfl, g1⟩, -⟩ := hs'
      exact k1 (x' 3) S' i1 hP' hσ f0 f1 f2 e0 e1 g1
  · obtain ⟨f0, f1, f2, -, f4, -, hσ⟩ := hJ
    obtain ⟨e0, e1, e2, -⟩ := hE'
    intro v hv
    subst hv
    cases v with
    | none => exact hs'.elim
    | some v1 =>
      obtain ⟨⟨i1, rfl, g1⟩, -⟩ := hs'
      exact k2 (x' 3) S' i1 hP' hσ f0 f1 f2 f4 e0 e1 e2 g1
  · obtain ⟨f0, f1, f2, -, f4, f5, -, hσ⟩ := hJ
    obtain ⟨e0, e1, e2, -⟩ := hE'
    intro v hv
    subst hv
    cases v with
    | none => exact hs'.elim
    | some v1 =>
      obtain ⟨⟨i1, rfl, g1⟩, -⟩ := hs'
      exact k3 (x' 3) S' i1 hP' hσ f0 f1 f2 f4 f5 e0 e1 e2 g1
  · obtain ⟨f0, f1, f2, -, f4, f5, -, f7, hσ⟩ := hJ
    obtain ⟨e0, e1, e2, e3, -⟩ := hE'
    intro v hv
    subst hv
    cases v with
    | none => exact hs'.elim
    | some v1 =>
      obtain ⟨⟨i1, rfl, g1⟩, -⟩ := hs'
      exact k4 (x' 3) (x' 4) S' i1 hP' hσ f0 f1 f2 f4 f5 f7 e0 e1 e2 e3 g1
def sg_aw_x_Z : List sg_z := [(0, [], [.inl (false, (0, .ofNat 0, .negSucc 0))], [(2, 0, (0, .ofNat 0, .ofNat 0), (0, .ofNat 0, .ofNat 0), (0, .ofNat 0, .ofNat 0)), (2, 2, (1, .ofNat 1, .ofNat 0), (0, .ofNat 0, .ofNat 0), (0, .ofNat 0, .ofNat 0))], [(1, [(.negSucc 2147483647, .negSucc 0)])], [], []),
  (0, [], [.inl (false, (0, .ofNat 0, .negSucc 0))], [(2, 0, (0, .ofNat 0, .ofNat 0), (0, .ofNat 0, .ofNat 0), (0, .ofNat 0, .ofNat 0)), (2, 3, (1, .ofNat 1, .ofNat 0), (3, .ofNat 1, .ofNat 0), (0, .ofNat 0, .ofNat 0)), (0, 1, (0, .ofNat 0, .ofNat 0), (3, .ofNat 1, .ofNat 0), (0, .ofNat 0, .ofNat 0)), (2, 3, (1, .ofNat 1, .ofNat 0), (0, .ofNat 0, .ofNat 0), (0, .ofNat 0, .ofNat 0))], [(1, [(.ofNat 0, .ofNat 2147483647)]), (3, [(.ofNat 0, .ofNat 8)])], [], []),
  (0, [], [.inl (false, (0, .ofNat 0, .negSucc 0))], [(2, 0, (0, .ofNat 0, .ofNat 0), (0, .ofNat 0, .ofNat 0), (0, .ofNat 0, .ofNat 0)), (2, 2, (2, .ofNat 1, .ofNat 0), (0, .ofNat 0, .ofNat 0), (0, .ofNat 0, .ofNat 0)), (2, 1, (0, .ofNat 0, .ofNat 1), (0, .ofNat 0, .ofNat 0), (0, .ofNat 0, .ofNat 0)), (2, 2, (1, .ofNat 1, .ofNat 0), (3, .ofNat 1, .ofNat 0), (0, .ofNat 0, .ofNat 0)), (0, 1, (0, .ofNat 0, .ofNat 0), (3, .ofNat 1, .ofNat 0), (0, .ofNat 0, .ofNat 0)), (2, 3, (1, .ofNat 1, .ofNat 0), (0, .ofNat 0, .ofNat 0), (0, .ofNat 0, .ofNat 0))], [(1, [(.ofNat 0, .ofNat 7)]), (2, [(.negSucc 2147483647, .negSucc 0)]), (3, [(.ofNat 1, .ofNat 8)])], [], []),
  (0, [], [.inl (false, (0, .ofNat 0, .negSucc 0))], [(2, 0, (0, .ofNat 0, .ofNat 0), (0, .ofNat 0, .ofNat 0), (0, .ofNat 0, .ofNat 0)), (2, 3, (2, .ofNat 1, .ofNat 0), (3, .ofNat 1, .ofNat 0), (0, .ofNat 0, .ofNat 0)), (0, 1, (0, .ofNat 0, .ofNat 0), (3, .ofNat 1, .ofNat 0), (0, .ofNat 0, .ofNat 0)), (2, 3, (2, .ofNat 1, .ofNat 0), (0, .ofNat 0, .ofNat 0), (0, .ofNat 0, .ofNat 0)), (2, 1, (0, .ofNat 0, .ofNat 1), (0, .ofNat 0, .ofNat 0), (0, .ofNat 0, .ofNat 0)), (2, 2, (1, .ofNat 1, .ofNat 0), (3, .ofNat 1, .ofNat 0), (0, .ofNat 0, .ofNat 0)), (0, 1, (0, .ofNat 0, .ofNat 0), (3, .ofNat 1, .ofNat 0), (0, .ofNat 0, .ofNat 0)), (2, 3, (1, .ofNat 1, .ofNat 0), (0, .ofNat 0, .ofNat 0), (0, .ofNat 0, .ofNat 0))], [(1, [(.ofNat 0, .ofNat 7)]), (2, [(.ofNat 1, .ofNat 2147483647)]), (3, [(.ofNat 1, .ofNat 8)])], [], []),
  (0, [], [.inl (false, (0, .ofNat 0, .ofNat 0))], [(2, 0, (0, .ofNat 0, .ofNat 0), (0, .ofNat 0, .ofNat 0), (0, .ofNat 0, .ofNat 0)), (2, 0, (8, .ofNat 1, .ofNat 0), (4, .ofNat 1, .ofNat 0), (0, .ofNat 0, .ofNat 0)), (0, 3, (1, .ofNat 1, .ofNat 0), (8, .ofNat 1, .ofNat 0), (0, .ofNat 0, .ofNat 0)), (2, 3, (7, .ofNat 1, .ofNat 0), (0, .ofNat 0, .ofNat 0), (0, .ofNat 0, .ofNat 0)), (0, 4, (1, .ofNat 1, .ofNat 0), (6, .ofNat 1, .ofNat 0), (0, .ofNat 0, .ofNat 0)), (0, 4, (2, .ofNat 1, .ofNat 0), (5, .ofNat 1, .ofNat 0), (0, .ofNat 0, .ofNat 0)), (0, 3, (2, .ofNat 1, .ofNat 0), (4, .ofNat 1, .ofNat 0), (0, .ofNat 0, .ofNat 0)), (2, 1, (0, .ofNat 0, .ofNat 1), (0, .ofNat 0, .ofNat 0), (0, .ofNat 0, .ofNat 0)), (2, 2, (2, .ofNat 1, .ofNat 0), (3, .ofNat 1, .ofNat 0), (0, .ofNat 0, .ofNat 0)), (0, 1, (0, .ofNat 0, .ofNat 0), (3, .ofNat 1, .ofNat 0), (0, .ofNat 0, .ofNat 0)), (2, 3, (2, .ofNat 1, .ofNat 0), (0, .ofNat 0, .ofNat 0), (0, .ofNat 0, .ofNat 0)), (2, 1, (0, .ofNat 0, .ofNat 1), (0, .ofNat 0, .ofNat 0), (0, .ofNat 0, .ofNat 0)), (2, 2, (1, .ofNat 1, .ofNat 0), (3, .ofNat 1, .ofNat 0), (0, .ofNat 0, .ofNat 0)), (0, 1, (0, .ofNat 0, .ofNat 0), (3, .ofNat 1, .ofNat 0), (0, .ofNat 0, .ofNat 0)), (2, 3, (1, .ofNat 1, .ofNat 0), (0, .ofNat 0, .ofNat 0), (0, .ofNat 0, .ofNat 0))], [(1, [(.ofNat 0, .ofNat 7)]), (2, [(.ofNat 0, .ofNat 7)]), (3, [(.ofNat 1, .ofNat 8)]), (4, [(.ofNat 0, .ofNat 1)]), (5, [(.ofNat 0, .ofNat 9)]), (6, [(.ofNat 0, .ofNat 9)]), (7, [(.ofNat 0, .ofNat 9)]), (8, [(.ofNat 0, .ofNat 1)])], [((6, .ofNat 1, .ofNat 0), (5, .negSucc 0, .ofNat 0), (7, .ofNat 1, .ofNat 0))], []),
  (0, [], [.inl (false, (0, .ofNat 0, .ofNat 0))], [(2, 0, (0, .ofNat 0, .ofNat 0), (0, .ofNat 0, .ofNat 0), (0, .ofNat 0, .ofNat 0)), (2, 5, (9, .ofNat 1, .ofNat 0), (0, .ofNat 0, .ofNat 0), (0, .ofNat 0, .ofNat 0)), (0, 4, (1, .ofNat 1, .ofNat 0), (6, .ofNat 1, .ofNat 0), (0, .ofNat 0, .ofNat 0)), (2, 0, (7, .ofNat 1, .ofNat 0), (0, .ofNat 0, .ofNat 0), (0, .ofNat 0, .ofNat 0)), (2, 1, (8, .ofNat 1, .ofNat 0), (4, .ofNat 1, .ofNat 0), (0, .ofNat 0, .ofNat 0)), (0, 3, (1, .ofNat 1, .ofNat 0), (8, .ofNat 1, .ofNat 0), (0, .ofNat 0, .ofNat 0)), (2, 3, (7, .ofNat 1, .ofNat 0), (0, .ofNat 0, .ofNat 0), (0, .ofNat 0, .ofNat 0)), (0, 4, (1, .ofNat 1, .ofNat 0), (6, .ofNat 1, .ofNat 0), (0, .ofNat 0, .ofNat 0)), (0, 4, (2, .ofNat 1, .ofNat 0), (5, .ofNat 1, .ofNat 0), (0, .ofNat 0, .ofNat 0)), (0, 3, (2, .ofNat 1, .ofNat 0), (4, .ofNat 1, .ofNat 0), (0, .ofNat 0, .ofNat 0)), (2, 1, (0, .ofNat 0, .ofNat 1), (0, .ofNat 0, .ofNat 0), (0, .ofNat 0, .ofNat 0)), (2, 2, (2, .ofNat 1, .ofNat 0), (3, .ofNat 1, .ofNat 0), (0, .ofNat 0, .ofNat 0)), (0, 1, (0, .ofNat 0, .ofNat 0), (3, .ofNat 1, .ofNat 0), (0, .ofNat 0, .ofNat 0)), (2, 3, (2, .ofNat 1, .ofNat 0), (0, .ofNat 0, .ofNat 0), (0, .ofNat 0, .ofNat 0)), (2, 1, (0, .ofNat 0, .ofNat 1), (0, .ofNat 0, .ofNat 0), (0, .ofNat 0, .ofNat 0)), (2, 2, (1, .ofNat 1, .ofNat 0), (3, .ofNat 1, .ofNat 0), (0, .ofNat 0, .ofNat 0)), (0, 1, (0, .ofNat 0, .ofNat 0), (3, .ofNat 1, .ofNat 0), (0, .ofNat 0, .ofNat 0)), (2, 3, (1, .ofNat 1, .ofNat 0), (0, .ofNat 0, .ofNat 0), (0, .ofNat 0, .ofNat 0))], [(1, [(.ofNat 0, .ofNat 7)]), (2, [(.ofNat 0, .ofNat 7)]), (3, [(.ofNat 1, .ofNat 8)]), (4, [(.ofNat 0, .ofNat 1)]), (5, [(.ofNat 0, .ofNat 9)]), (6, [(.ofNat 0, .ofNat 9)]), (7, [(.ofNat 0, .ofNat 0)]), (8, [(.ofNat 0, .ofNat 1)]), (9, [(.ofNat 0, .ofNat 0)])], [((6, .ofNat 1, .ofNat 0), (5, .ofNat 1, .ofNat 0), (9, .ofNat 1, .ofNat 0)), ((6, .ofNat 1, .ofNat 0), (5, .negSucc 0, .ofNat 0), (7, .ofNat 1, .ofNat 0))], []),
  (0, [], [.inl (false, (0, .ofNat 0, .ofNat 1))], [(2, 1, (0, .ofNat 0, .ofNat 1), (0, .ofNat 0, .ofNat 0), (0, .ofNat 0, .ofNat 0)), (2, 4, (9, .ofNat 1, .ofNat 0), (0, .ofNat 0, .ofNat 0), (0, .ofNat 0, .ofNat 0)), (0, 4, (1, .ofNat 1, .ofNat 0), (6, .ofNat 1, .ofNat 0), (0, .ofNat 0, .ofNat 0)), (2, 0, (7, .ofNat 1, .ofNat 0), (0, .ofNat 0, .ofNat 0), (0, .ofNat 0, .ofNat 0)), (2, 1, (8, .ofNat 1, .ofNat 0), (4, .ofNat 1, .ofNat 0), (0, .ofNat 0, .ofNat 0)), (0, 3, (1, .ofNat 1, .ofNat 0), (8, .ofNat 1, .ofNat 0), (0, .ofNat 0, .ofNat 0)), (2, 3, (7, .ofNat 1, .ofNat 0), (0, .ofNat 0, .ofNat 0), (0, .ofNat 0, .ofNat 0)), (0, 4, (1, .ofNat 1, .ofNat 0), (6, .ofNat 1, .ofNat 0), (0, .ofNat 0, .ofNat 0)), (0, 4, (2, .ofNat 1, .ofNat 0), (5, .ofNat 1, .ofNat 0), (0, .ofNat 0, .ofNat 0)), (0, 3, (2, .ofNat 1, .ofNat 0), (4, .ofNat 1, .ofNat 0), (0, .ofNat 0, .ofNat 0)), (2, 1, (0, .ofNat 0, .ofNat 1), (0, .ofNat 0, .ofNat 0), (0, .ofNat 0, .ofNat 0)), (2, 2, (2, .ofNat 1, .ofNat 0), (3, .ofNat 1, .ofNat 0), (0, .ofNat 0, .ofNat 0)), (0, 1, (0, .ofNat 0, .ofNat 0), (3, .ofNat 1, .ofNat 0), (0, .ofNat 0, .ofNat 0)), (2, 3, (2, .ofNat 1, .ofNat 0), (0, .ofNat 0, .ofNat 0), (0, .ofNat 0, .ofNat 0)), (2, 1, (0, .ofNat 0, .ofNat 1), (0, .ofNat 0, .ofNat 0), (0, .ofNat 0, .ofNat 0)), (2, 2, (1, .ofNat 1, .ofNat 0), (3, .ofNat 1, .ofNat 0), (0, .ofNat 0, .ofNat 0)), (0, 1, (0, .ofNat 0, .ofNat 0), (3, .ofNat 1, .ofNat 0), (0, .ofNat 0, .ofNat 0)), (2, 3, (1, .ofNat 1, .ofNat 0), (0, .ofNat 0, .ofNat 0), (0, .ofNat 0, .ofNat 0))], [(1, [(.ofNat 0, .ofNat 7)]), (2, [(.ofNat 0, .ofNat 7)]), (3, [(.ofNat 1, .ofNat 8)]), (4, [(.ofNat 0, .ofNat 1)]), (5, [(.ofNat 0, .ofNat 9)]), (6, [(.ofNat 0, .ofNat 9)]), (7, [(.ofNat 0, .ofNat 0)]), (8, [(.ofNat 0, .ofNat 1)]), (9, [(.ofNat 1, .ofNat 18)])], [((6, .ofNat 1, .ofNat 0), (5, .ofNat 1, .ofNat 0), (9, .ofNat 1, .ofNat 0)), ((6, .ofNat 1, .ofNat 0), (5, .negSucc 0, .ofNat 0), (7, .ofNat 1, .ofNat 0))], []),
  (0, [], [.inl (false, (0, .ofNat 0, .ofNat 0))], [(2, 0, (0, .ofNat 0, .ofNat 0), (0, .ofNat 0, .ofNat 0), (0, .ofNat 0, .ofNat 0)), (2, 1, (7, .ofNat 1, .ofNat 0), (0, .ofNat 0, .ofNat 2), (0, .ofNat 0, .ofNat 0)), (2, 1, (7, .ofNat 1, .ofNat 0), (0, .ofNat 0, .ofNat 0), (0, .ofNat 0, .ofNat 0)), (2, 1, (8, .ofNat 1, .ofNat 0), (4, .ofNat 1, .ofNat 0), (0, .ofNat 0, .ofNat 0)), (0, 3, (1, .ofNat 1, .ofNat 0), (8, .ofNat 1, .ofNat 0), (0, .ofNat 0, .ofNat 0)), (2, 3, (7, .ofNat 1, .ofNat 0), (0, .ofNat 0, .ofNat 0), (0, .ofNat 0, .ofNat 0)), (0, 4, (1, .ofNat 1, .ofNat 0), (6, .ofNat 1, .ofNat 0), (0, .ofNat 0, .ofNat 0)), (0, 4, (2, .ofNat 1, .ofNat 0), (5, .ofNat 1, .ofNat 0), (0, .ofNat 0, .ofNat 0)), (0, 3, (2, .ofNat 1, .ofNat 0), (4, .ofNat 1, .ofNat 0), (0, .ofNat 0, .ofNat 0)), (2, 1, (0, .ofNat 0, .ofNat 1), (0, .ofNat 0, .ofNat 0), (0, .ofNat 0, .ofNat 0)), (2, 2, (2, .ofNat 1, .ofNat 0), (3, .ofNat 1, .ofNat 0), (0, .ofNat 0, .ofNat 0)), (0, 1, (0, .ofNat 0, .ofNat 0), (3, .ofNat 1, .ofNat 0), (0, .ofNat 0, .ofNat 0)), (2, 3, (2, .ofNat 1, .ofNat 0), (0, .ofNat 0, .ofNat 0), (0, .ofNat 0, .ofNat 0)), (2, 1, (0, .ofNat 0, .ofNat 1), (0, .ofNat 0, .ofNat 0), (0, .ofNat 0, .ofNat 0)), (2, 2, (1, .ofNat 1, .ofNat 0), (3, .ofNat 1, .ofNat 0), (0, .ofNat 0, .ofNat 0)), (0, 1, (0, .ofNat 0, .ofNat 0), (3, .ofNat 1, .ofNat 0), (0, .ofNat 0, .ofNat 0)), (2, 3, (1, .ofNat 1, .ofNat 0), (0, .ofNat 0, .ofNat 0), (0, .ofNat 0, .ofNat 0))], [(1, [(.ofNat 0, .ofNat 7)]), (2, [(.ofNat 0, .ofNat 7)]), (3, [(.ofNat 1, .ofNat 8)]), (4, [(.ofNat 0, .ofNat 1)]), (5, [(.ofNat 0, .ofNat 9)]), (6, [(.ofNat 0, .ofNat 9)]), (7, [(.ofNat 1, .ofNat 1), (.ofNat 3, .ofNat 9)]), (8, [(.ofNat 0, .ofNat 1)])], [((6, .ofNat 1, .ofNat 0), (5, .negSucc 0, .ofNat 0), (7, .ofNat 1, .ofNat 0))], []),
  (0, [], [.inl (false, (0, .ofNat 0, .ofNat 0))], [(2, 0, (0, .ofNat 0, .ofNat 0), (0, .ofNat 0, .ofNat 0), (0, .ofNat 0, .ofNat 0)), (2, 5, (9, .ofNat 1, .ofNat 0), (0, .ofNat 0, .ofNat 0), (0, .ofNat 0, .ofNat 0)), (0, 4, (1, .ofNat 1, .ofNat 0), (6, .ofNat 1, .ofNat 0), (0, .ofNat 0, .ofNat 0)), (2, 0, (7, .ofNat 1, .ofNat 0), (0, .ofNat 0, .ofNat 2), (0, .ofNat 0, .ofNat 0)), (2, 1, (7, .ofNat 1, .ofNat 0), (0, .ofNat 0, .ofNat 0), (0, .ofNat 0, .ofNat 0)), (2, 1, (8, .ofNat 1, .ofNat 0), (4, .ofNat 1, .ofNat 0), (0, .ofNat 0, .ofNat 0)), (0, 3, (1, .ofNat 1, .ofNat 0), (8, .ofNat 1, .ofNat 0), (0, .ofNat 0, .ofNat 0)), (2, 3, (7, .ofNat 1, .ofNat 0), (0, .ofNat 0, .ofNat 0), (0, .ofNat 0, .ofNat 0)), (0, 4, (1, .ofNat 1, .ofNat 0), (6, .ofNat 1, .ofNat 0), (0, .ofNat 0, .ofNat 0)), (0, 4, (2, .ofNat 1, .ofNat 0), (5, .ofNat 1, .ofNat 0), (0, .ofNat 0, .ofNat 0)), (0, 3, (2, .ofNat 1, .ofNat 0), (4, .ofNat 1, .ofNat 0), (0, .ofNat 0, .ofNat 0)), (2, 1, (0, .ofNat 0, .ofNat 1), (0, .ofNat 0, .ofNat 0), (0, .ofNat 0, .ofNat 0)), (2, 2, (2, .ofNat 1, .ofNat 0), (3, .ofNat 1, .ofNat 0), (0, .ofNat 0, .ofNat 0)), (0, 1, (0, .ofNat 0, .ofNat 0), (3, .ofNat 1, .ofNat 0), (0, .ofNat 0, .ofNat 0)), (2, 3, (2, .ofNat 1, .ofNat 0), (0, .ofNat 0, .ofNat 0), (0, .ofNat 0, .ofNat 0)), (2, 1, (0, .ofNat 0, .ofNat 1), (0, .ofNat 0, .ofNat 0), (0, .ofNat 0, .ofNat 0)), (2, 2, (1, .ofNat 1, .ofNat 0), (3, .ofNat 1, .ofNat 0), (0, .ofNat 0, .ofNat 0)), (0, 1, (0, .ofNat 0, .ofNat 0), (3, .ofNat 1, .ofNat 0), (0, .ofNat 0, .ofNat 0)), (2, 3, (1, .ofNat 1, .ofNat 0), (0, .ofNat 0, .ofNat 0), (0, .ofNat 0, .ofNat 0))], [(1, [(.ofNat 0, .ofNat 7)]), (2, [(.ofNat 0, .ofNat 7)]), (3, [(.ofNat 1, .ofNat 8)]), (4, [(.ofNat 0, .ofNat 1)]), (5, [(.ofNat 0, .ofNat 9)]), (6, [(.ofNat 0, .ofNat 9)]), (7, [(.ofNat 2, .ofNat 2)]), (8, [(.ofNat 0, .ofNat 1)]), (9, [(.ofNat 0, .ofNat 0)])], [((6, .ofNat 1, .ofNat 0), (5, .ofNat 1, .ofNat 0), (9, .ofNat 1, .ofNat 0)), ((6, .ofNat 1, .ofNat 0), (5, .negSucc 0, .ofNat 0), (7, .ofNat 1, .ofNat 0))], []),
  (0, [], [.inl (false, (0, .ofNat 0, .ofNat 1))], [(2, 1, (0, .ofNat 0, .ofNat 1), (0, .ofNat 0, .ofNat 0), (0, .ofNat 0, .ofNat 0)), (2, 4, (9, .ofNat 1, .ofNat 0), (0, .ofNat 0, .ofNat 0), (0, .ofNat 0, .ofNat 0)), (0, 4, (1, .ofNat 1, .ofNat 0), (6, .ofNat 1, .ofNat 0), (0, .ofNat 0, .ofNat 0)), (2, 0, (7, .ofNat 1, .ofNat 0), (0, .ofNat 0, .ofNat 2), (0, .ofNat 0, .ofNat 0)), (2, 1, (7, .ofNat 1, .ofNat 0), (0, .ofNat 0, .ofNat 0), (0, .ofNat 0, .ofNat 0)), (2, 1, (8, .ofNat 1, .ofNat 0), (4, .ofNat 1, .ofNat 0), (0, .ofNat 0, .ofNat 0)), (0, 3, (1, .ofNat 1, .ofNat 0), (8, .ofNat 1, .ofNat 0), (0, .ofNat 0, .ofNat 0)), (2, 3, (7, .ofNat 1, .ofNat 0), (0, .ofNat 0, .ofNat 0), (0, .ofNat 0, .ofNat 0)), (0, 4, (1, .ofNat 1, .ofNat 0), (6, .ofNat 1, .ofNat 0), (0, .ofNat 0, .ofNat 0)), (0, 4, (2, .ofNat 1, .ofNat 0), (5, .ofNat 1, .ofNat 0), (0, .ofNat 0, .ofNat 0)), (0, 3, (2, .ofNat 1, .ofNat 0), (4, .ofNat 1, .ofNat 0), (0, .ofNat 0, .ofNat 0)), (2, 1, (0, .ofNat 0, .ofNat 1), (0, .ofNat 0, .ofNat 0), (0, .ofNat 0, .ofNat 0)), (2, 2, (2, .ofNat 1, .ofNat 0), (3, .ofNat 1, .ofNat 0), (0, .ofNat 0, .ofNat 0)), (0, 1, (0, .ofNat 0, .ofNat 0), (3, .ofNat 1, .ofNat 0), (0, .ofNat 0, .ofNat 0)), (2, 3, (2, .ofNat 1, .ofNat 0), (0, .ofNat 0, .ofNat 0), (0, .ofNat 0, .ofNat 0)), (2, 1, (0, .ofNat 0, .ofNat 1), (0, .ofNat 0, .ofNat 0), (0, .ofNat 0, .ofNat 0)), (2, 2, (1, .ofNat 1, .ofNat 0), (3, .ofNat 1, .ofNat 0), (0, .ofNat 0, .ofNat 0)), (0, 1, (0, .ofNat 0, .ofNat 0), (3, .ofNat 1, .ofNat 0), (0, .ofNat 0, .ofNat 0)), (2, 3, (1, .ofNat 1, .ofNat 0), (0, .ofNat 0, .ofNat 0), (0, .ofNat 0, .ofNat 0))], [(1, [(.ofNat 0, .ofNat 7)]), (2, [(.ofNat 0, .ofNat 7)]), (3, [(.ofNat 1, .ofNat 8)]), (4, [(.ofNat 0, .ofNat 1)]), (5, [(.ofNat 0, .ofNat 9)]), (6, [(.ofNat 0, .ofNat 9)]), (7, [(.ofNat 2, .ofNat 2)]), (8, [(.ofNat 0, .ofNat 1)]), (9, [(.ofNat 1, .ofNat 18)])], [((6, .ofNat 1, .ofNat 0), (5, .ofNat 1, .ofNat 0), (9, .ofNat 1, .ofNat 0)), ((6, .ofNat 1, .ofNat 0), (5, .negSucc 0, .ofNat 0), (7, .ofNat 1, .ofNat 0))], []),
  (0, [], [.inl (false, (0, .ofNat 0, .ofNat 0))], [(2, 0, (0, .ofNat 0, .ofNat 0), (0, .ofNat 0, .ofNat 0), (0, .ofNat 0, .ofNat 0)), (2, 0, (8, .ofNat 1, .ofNat 0), (4, .ofNat 1, .ofNat 0), (0, .ofNat 0, .ofNat 0)), (0, 3, (1, .ofNat 1, .ofNat 0), (8, .ofNat 1, .ofNat 0), (0, .ofNat 0, .ofNat 0)), (2, 2, (7, .ofNat 1, .ofNat 0), (0, .ofNat 0, .ofNat 0), (0, .ofNat 0, .ofNat 0)), (0, 4, (1, .ofNat 1, .ofNat 0), (6, .ofNat 1, .ofNat 0), (0, .ofNat 0, .ofNat 0)), (0, 4, (2, .ofNat 1, .ofNat 0), (5, .ofNat 1, .ofNat 0), (0, .ofNat 0, .ofNat 0)), (0, 3, (2, .ofNat 1, .ofNat 0), (4, .ofNat 1, .ofNat 0), (0, .ofNat 0, .ofNat 0)), (2, 1, (0, .ofNat 0, .ofNat 1), (0, .ofNat 0, .ofNat 0), (0, .ofNat 0, .ofNat 0)), (2, 2, (2, .ofNat 1, .ofNat 0), (3, .ofNat 1, .ofNat 0), (0, .ofNat 0, .ofNat 0)), (0, 1, (0, .ofNat 0, .ofNat 0), (3, .ofNat 1, .ofNat 0), (0, .ofNat 0, .ofNat 0)), (2, 3, (2, .ofNat 1, .ofNat 0), (0, .ofNat 0, .ofNat 0), (0, .ofNat 0, .ofNat 0)), (2, 1, (0, .ofNat 0, .ofNat 1), (0, .ofNat 0, .ofNat 0), (0, .ofNat 0, .ofNat 0)), (2, 2, (1, .ofNat 1, .ofNat 0), (3, .ofNat 1, .ofNat 0), (0, .ofNat 0, .ofNat 0)), (0, 1, (0, .ofNat 0, .ofNat 0), (3, .ofNat 1, .ofNat 0), (0, .ofNat 0, .ofNat 0)), (2, 3, (1, .ofNat 1, .ofNat 0), (0, .ofNat 0, .ofNat 0), (0, .ofNat 0, .ofNat 0))], [(1, [(.ofNat 0, .ofNat 7)]), (2, [(.ofNat 0, .ofNat 7)]), (3, [(.ofNat 1, .ofNat 8)]), (4, [(.ofNat 0, .ofNat 1)]), (5, [(.ofNat 0, .ofNat 9)]), (6, [(.ofNat 0, .ofNat 9)]), (7, [(.negSucc 8, .negSucc 0)]), (8, [(.ofNat 0, .ofNat 1)])], [((6, .ofNat 1, .ofNat 0), (5, .negSucc 0, .ofNat 0), (7, .ofNat 1, .ofNat 0))], []),
  (0, [], [.inl (false, (0, .ofNat 0, .ofNat 0))], [(2, 0, (0, .ofNat 0, .ofNat 0), (0, .ofNat 0, .ofNat 0), (0, .ofNat 0, .ofNat 0)), (2, 1, (7, .negSucc 0, .ofNat 0), (0, .ofNat 0, .ofNat 2), (0, .ofNat 0, .ofNat 0)), (2, 1, (7, .negSucc 0, .ofNat 0), (0, .ofNat 0, .ofNat 0), (0, .ofNat 0, .ofNat 0)), (2, 1, (8, .ofNat 1, .ofNat 0), (4, .ofNat 1, .ofNat 0), (0, .ofNat 0, .ofNat 0)), (0, 3, (1, .ofNat 1, .ofNat 0), (8, .ofNat 1, .ofNat 0), (0, .ofNat 0, .ofNat 0)), (2, 2, (7, .ofNat 1, .ofNat 0), (0, .ofNat 0, .ofNat 0), (0, .ofNat 0, .ofNat 0)), (0, 4, (1, .ofNat 1, .ofNat 0), (6, .ofNat 1, .ofNat 0), (0, .ofNat 0, .ofNat 0)), (0, 4, (2, .ofNat 1, .ofNat 0), (5, .ofNat 1, .ofNat 0), (0, .ofNat 0, .ofNat 0)), (0, 3, (2, .ofNat 1, .ofNat 0), (4, .ofNat 1, .ofNat 0), (0, .ofNat 0, .ofNat 0)), (2, 1, (0, .ofNat 0, .ofNat 1), (0, .ofNat 0, .ofNat 0), (0, .ofNat 0, .ofNat 0)), (2, 2, (2, .ofNat 1, .ofNat 0), (3, .ofNat 1, .ofNat 0), (0, .ofNat 0, .ofNat 0)), (0, 1, (0, .ofNat 0, .ofNat 0), (3, .ofNat 1, .ofNat 0), (0, .ofNat 0, .ofNat 0)), (2, 3, (2, .ofNat 1, .ofNat 0), (0, .ofNat 0, .ofNat 0), (0, .ofNat 0, .ofNat 0)), (2, 1, (0, .ofNat 0, .ofNat 1), (0, .ofNat 0, .ofNat 0), (0, .ofNat 0, .ofNat 0)), (2, 2, (1, .ofNat 1, .ofNat 0), (3, .ofNat 1, .ofNat 0), (0, .ofNat 0, .ofNat 0)), (0, 1, (0, .ofNat 0, .ofNat 0), (3, .ofNat 1, .ofNat 0), (0, .ofNat 0, .ofNat 0)), (2, 3, (1, .ofNat 1, .ofNat 0), (0, .ofNat 0, .ofNat 0), (0, .ofNat 0, .ofNat 0))], [(1, [(.ofNat 0, .ofNat 7)]), (2, [(.ofNat 0, .ofNat 7)]), (3, [(.ofNat 1, .ofNat 8)]), (4, [(.ofNat 0, .ofNat 1)]), (5, [(.ofNat 0, .ofNat 9)]), (6, [(.ofNat 0, .ofNat 9)]), (7, [(.negSucc 8, .negSucc 2), (.negSucc 0, .negSucc 0)]), (8, [(.ofNat 0, .ofNat 1)])], [((6, .ofNat 1, .ofNat 0), (5, .negSucc 0, .ofNat 0), (7, .ofNat 1, .ofNat 0))], []),
  (0, [], [.inl (false, (0, .ofNat 0, .ofNat 0))], [(2, 0, (0, .ofNat 0, .ofNat 0), (0, .ofNat 0, .ofNat 0), (0, .ofNat 0, .ofNat 0)), (2, 5, (9, .ofNat 1, .ofNat 0), (0, .ofNat 0, .ofNat 0), (0, .ofNat 0, .ofNat 0)), (0, 4, (1, .ofNat 1, .ofNat 0), (6, .ofNat 1, .ofNat 0), (0, .ofNat 0, .ofNat 0)), (2, 0, (7, .negSucc 0, .ofNat 0), (0, .ofNat 0, .ofNat 2), (0, .ofNat 0, .ofNat 0)), (2, 1, (7, .negSucc 0, .ofNat 0), (0, .ofNat 0, .ofNat 0), (0, .ofNat 0, .ofNat 0)), (2, 1, (8, .ofNat 1, .ofNat 0), (4, .ofNat 1, .ofNat 0), (0, .ofNat 0, .ofNat 0)), (0, 3, (1, .ofNat 1, .ofNat 0), (8, .ofNat 1, .ofNat 0), (0, .ofNat 0, .ofNat 0)), (2, 2, (7, .ofNat 1, .ofNat 0), (0, .ofNat 0, .ofNat 0), (0, .ofNat 0, .ofNat 0)), (0, 4, (1, .ofNat 1, .ofNat 0), (6, .ofNat 1, .ofNat 0), (0, .ofNat 0, .ofNat 0)), (0, 4, (2, .ofNat 1, .ofNat 0), (5, .ofNat 1, .ofNat 0), (0, .ofNat 0, .ofNat 0)), (0, 3, (2, .ofNat 1, .ofNat 0), (4, .ofNat 1, .ofNat 0), (0, .ofNat 0, .ofNat 0)), (2, 1, (0, .ofNat 0, .ofNat 1), (0, .ofNat 0, .ofNat 0), (0, .ofNat 0, .ofNat 0)), (2, 2, (2, .ofNat 1, .ofNat 0), (3, .ofNat 1, .ofNat 0), (0, .ofNat 0, .ofNat 0)), (0, 1, (0, .ofNat 0, .ofNat 0), (3, .ofNat 1, .ofNat 0), (0, .ofNat 0, .ofNat 0)), (2, 3, (2, .ofNat 1, .ofNat 0), (0, .ofNat 0, .ofNat 0), (0, .ofNat 0, .ofNat 0)), (2, 1, (0, .ofNat 0, .ofNat 1), (0, .ofNat 0, .ofNat 0), (0, .ofNat 0, .ofNat 0)), (2, 2, (1, .ofNat 1, .ofNat 0), (3, .ofNat 1, .ofNat 0), (0, .ofNat 0, .ofNat 0)), (0, 1, (0, .ofNat 0, .ofNat 0), (3, .ofNat 1, .ofNat 0), (0, .ofNat 0, .ofNat 0)), (2, 3, (1, .ofNat 1, .ofNat 0), (0, .ofNat 0, .ofNat 0), (0, .ofNat 0, .ofNat 0))], [(1, [(.ofNat 0, .ofNat 7)]), (2, [(.ofNat 0, .ofNat 7)]), (3, [(.ofNat 1, .ofNat 8)]), (4, [(.ofNat 0, .ofNat 1)]), (5, [(.ofNat 0, .ofNat 9)]), (6, [(.ofNat 0, .ofNat 9)]), (7, [(.negSucc 1, .negSucc 1)]), (8, [(.ofNat 0, .ofNat 1)]), (9, [(.ofNat 0, .ofNat 0)])], [((6, .ofNat 1, .ofNat 0), (5, .ofNat 1, .ofNat 0), (9, .ofNat 1, .ofNat 0)), ((6, .ofNat 1, .ofNat 0), (5, .negSucc 0, .ofNat 0), (7, .ofNat 1, .ofNat 0))], []),
  (0, [], [.inl (false, (0, .ofNat 0, .ofNat 1))], [(2, 1, (0, .ofNat 0, .ofNat 1), (0, .ofNat 0, .ofNat 0), (0, .ofNat 0, .ofNat 0)), (2, 4, (9, .ofNat 1, .ofNat 0), (0, .ofNat 0, .ofNat 0), (0, .ofNat 0, .ofNat 0)), (0, 4, (1, .ofNat 1, .ofNat 0), (6, .ofNat 1, .ofNat 0), (0, .ofNat 0, .ofNat 0)), (2, 0, (7, .negSucc 0, .ofNat 0), (0, .ofNat 0, .ofNat 2), (0, .ofNat 0, .ofNat 0)), (2, 1, (7, .negSucc 0, .ofNat 0), (0, .ofNat 0, .ofNat 0), (0, .ofNat 0, .ofNat 0)), (2, 1, (8, .ofNat 1, .ofNat 0), (4, .ofNat 1, .ofNat 0), (0, .ofNat 0, .ofNat 0)), (0, 3, (1, .ofNat 1, .ofNat 0), (8, .ofNat 1, .ofNat 0), (0, .ofNat 0, .ofNat 0)), (2, 2, (7, .ofNat 1, .ofNat 0), (0, .ofNat 0, .ofNat 0), (0, .ofNat 0, .ofNat 0)), (0, 4, (1, .ofNat 1, .ofNat 0), (6, .ofNat 1, .ofNat 0), (0, .ofNat 0, .ofNat 0)), (0, 4, (2, .ofNat 1, .ofNat 0), (5, .ofNat 1, .ofNat 0), (0, .ofNat 0, .ofNat 0)), (0, 3, (2, .ofNat 1, .ofNat 0), (4, .ofNat 1, .ofNat 0), (0, .ofNat 0, .ofNat 0)), (2, 1, (0, .ofNat 0, .ofNat 1), (0, .ofNat 0, .ofNat 0), (0, .ofNat 0, .ofNat 0)), (2, 2, (2, .ofNat 1, .ofNat 0), (3, .ofNat 1, .ofNat 0), (0, .ofNat 0, .ofNat 0)), (0, 1, (0, .ofNat 0, .ofNat 0), (3, .ofNat 1, .ofNat 0), (0, .ofNat 0, .ofNat 0)), (2, 3, (2, .ofNat 1, .ofNat 0), (0, .ofNat 0, .ofNat 0), (0, .ofNat 0, .ofNat 0)), (2, 1, (0, .ofNat 0, .ofNat 1), (0, .ofNat 0, .ofNat 0), (0, .ofNat 0, .ofNat 0)), (2, 2, (1, .ofNat 1, .ofNat 0), (3, .ofNat 1, .ofNat 0), (0, .ofNat 0, .ofNat 0)), (0, 1, (0, .ofNat 0, .ofNat 0), (3, .ofNat 1, .ofNat 0), (0, .ofNat 0, .ofNat 0)), (2, 3, (1, .ofNat 1, .ofNat 0), (0, .ofNat 0, .ofNat 0), (0, .ofNat 0, .ofNat 0))], [(1, [(.ofNat 0, .ofNat 7)]), (2, [(.ofNat 0, .ofNat 7)]), (3, [(.ofNat 1, .ofNat 8)]), (4, [(.ofNat 0, .ofNat 1)]), (5, [(.ofNat 0, .ofNat 9)]), (6, [(.ofNat 0, .ofNat 9)]), (7, [(.negSucc 1, .negSucc 1)]), (8, [(.ofNat 0, .ofNat 1)]), (9, [(.ofNat 1, .ofNat 18)])], [((6, .ofNat 1, .ofNat 0), (5, .ofNat 1, .ofNat 0), (9, .ofNat 1, .ofNat 0)), ((6, .ofNat 1, .ofNat 0), (5, .negSucc 0, .ofNat 0), (7, .ofNat 1, .ofNat 0))], [])]
set_option maxRecDepth 1000000 in
theorem sg_aw_x_g : sg_go [] [] 3000 101 0 3 3 [(0, [(.ofNat 0, .ofNat 0)]), (1, [(.negSucc 2147483647, .ofNat 2147483647)]), (2, [(.negSucc 2147483647, .ofNat 2147483647)])] [] [] [] [(0, .inr (.inl [0])), (1, .inl (false, (1, .ofNat 1, .ofNat 0))), (2, .inl (false, (2, .ofNat 1, .ofNat 0)))] [] [] sg_aw_x_Z = true := by decide +kernel
set_option maxRecDepth 100000 in
theorem sg_aw_x {Q : Option Value × am_S → Prop} {d : Nat} {S : am_S} {L : am_L} {x1 x2 : Int} (hd : 3 ≤ d) (hP : ax_P0 none S) (l0 : lc L 0 0) (l1 : li L 1 x1) (l2 : li L 2 x2) (b1 : ((-2147483648) ≤ x1 ∧ x1 ≤ 2147483647)) (b2 : ((-2147483648) ≤ x2 ∧ x2 ≤ 2147483647))
    (k0 : ∀ (i1 : Int32), x1 < 0 → ((-2147483648) ≤ x1 ∧ x1 ≤ (-1)) → i1.toInt = (-1) → Q (some (.int i1), S))
    (k1 : ∀ (x3 : Int) (i1 : Int32), 0 ≤ x1 → rd S 1 0 = x3 → x3 ≤ x1 → (0 ≤ x1 ∧ x1 ≤ 2147483647) → (0 ≤ x3 ∧ x3 ≤ 8) → i1.toInt = (-1) → Q (some (.int i1), S))
    (k2 : ∀ (x3 : Int) (i1 : Int32), 0 ≤ x1 → rd S 1 0 = x3 → x1 < x3 → x2 < 0 → (0 ≤ x1 ∧ x1 ≤ 7) → ((-2147483648) ≤ x2 ∧ x2 ≤ (-1)) → (1 ≤ x3 ∧ x3 ≤ 8) → i1.toInt = (-1) → Q (some (.int i1), S))
    (k3 : ∀ (x3 : Int) (i1 : Int32), 0 ≤ x1 → rd S 1 0 = x3 → x1 < x3 → 0 ≤ x2 → x3 ≤ x2 → (0 ≤ x1 ∧ x1 ≤ 7) → (1 ≤ x2 ∧ x2 ≤ 2147483647) → (1 ≤ x3 ∧ x3 ≤ 8) → i1.toInt = (-1) → Q (some (.int i1), S))
    (k4 : ∀ (x3 x4 x5 x6 x7 x8 : Int) (i1 : Int32), 0 ≤ x1 → rd S 1 0 = x3 → x1 < x3 → 0 ≤ x2 → x2 < x3 → rd S 3 x2 = x4 → rd S 4 x2 = x5 → rd S 4 x1 = x6 → 0 ≤ x7 → rd S 3 x1 = x8 → x8 = x4 → (0 ≤ x1 ∧ x1 ≤ 7) → (0 ≤ x2 ∧ x2 ≤ 7) → (1 ≤ x3 ∧ x3 ≤ 8) → (0 ≤ x4 ∧ x4 ≤ 1) → (0 ≤ x5 ∧ x5 ≤ 9) → (0 ≤ x6 ∧ x6 ≤ 9) → (0 ≤ x7 ∧ x7 ≤ 9) → (0 ≤ x8 ∧ x8 ≤ 1) → x6 + ((-1) * x5 + 0) = x7 → i1.toInt = 0 → Q (some (.int i1), S))
    (k5 : ∀ (x3 x4 x5 x6 x7 x8 x9 : Int) (i1 : Int32), 0 ≤ x1 → rd S 1 0 = x3 → x1 < x3 → 0 ≤ x2 → x2 < x3 → rd S 3 x2 = x4 → rd S 4 x2 = x5 → rd S 4 x1 = x6 → 0 ≤ x7 → rd S 3 x1 = x8 → x8 ≠ x4 → x7 = 0 → x9 ≤ 0 → (0 ≤ x1 ∧ x1 ≤ 7) → (0 ≤ x2 ∧ x2 ≤ 7) → (1 ≤ x3 ∧ x3 ≤ 8) → (0 ≤ x4 ∧ x4 ≤ 1) → (0 ≤ x5 ∧ x5 ≤ 9) → (0 ≤ x6 ∧ x6 ≤ 9) → (0 ≤ x7 ∧ x7 ≤ 0) → (0 ≤ x8 ∧ x8 ≤ 1) → (0 ≤ x9 ∧ x9 ≤ 0) → x6 + x5 = x9 → x6 + ((-1) * x5 + 0) = x7 → i1.toInt = 0 → Q (some (.int i1), S))
    (k6 : ∀ (x3 x4 x5 x6 x7 x8 x9 : Int) (i1 : Int32), 0 ≤ x1 → rd S 1 0 = x3 → x1 < x3 → 0 ≤ x2 → x2 < x3 → rd S 3 x2 = x4 → rd S 4 x2 = x5 → rd S 4 x1 = x6 → 0 ≤ x7 → rd S 3 x1 = x8 → x8 ≠ x4 → x7 = 0 → 0 < x9 → (0 ≤ x1 ∧ x1 ≤ 7) → (0 ≤ x2 ∧ x2 ≤ 7) → (1 ≤ x3 ∧ x3 ≤ 8) → (0 ≤ x4 ∧ x4 ≤ 1) → (0 ≤ x5 ∧ x5 ≤ 9) → (0 ≤ x6 ∧ x6 ≤ 9) → (0 ≤ x7 ∧ x7 ≤ 0) → (0 ≤ x8 ∧ x8 ≤ 1) → (1 ≤ x9 ∧ x9 ≤ 18) → x6 + x5 = x9 → x6 + ((-1) * x5 + 0) = x7 → i1.toInt = 1 → Q (some (.int i1), S))
    (k7 : ∀ (x3 x4 x5 x6 x7 x8 : Int) (i1 : Int32), 0 ≤ x1 → rd S 1 0 = x3 → x1 < x3 → 0 ≤ x2 → x2 < x3 → rd S 3 x2 = x4 → rd S 4 x2 = x5 → rd S 4 x1 = x6 → 0 ≤ x7 → rd S 3 x1 = x8 → x8 ≠ x4 → x7 ≠ 0 → x7 ≠ 2 → (0 ≤ x1 ∧ x1 ≤ 7) → (0 ≤ x2 ∧ x2 ≤ 7) → (1 ≤ x3 ∧ x3 ≤ 8) → (0 ≤ x4 ∧ x4 ≤ 1) → (0 ≤ x5 ∧ x5 ≤ 9) → (0 ≤ x6 ∧ x6 ≤ 9) → (1 ≤ x7 ∧ x7 ≤ 1) ∨ (3 ≤ x7 ∧ x7 ≤ 9) → (0 ≤ x8 ∧ x8 ≤ 1) → x6 + ((-1) * x5 + 0) = x7 → i1.toInt = 0 → Q (some (.int i1), S))
    (k8 : ∀ (x3 x4 x5 x6 x7 x8 x9 : Int) (i1 : Int32), 0 ≤ x1 → rd S 1 0 = x3 → x1 < x3 → 0 ≤ x2 → x2 < x3 → rd S 3 x2 = x4 → rd S 4 x2 = x5 → rd S 4 x1 = x6 → 0 ≤ x7 → rd S 3 x1 = x8 → x8 ≠ x4 → x7 ≠ 0 → x7 = 2 → x9 ≤ 0 → (0 ≤ x1 ∧ x1 ≤ 7) → (0 ≤ x2 ∧ x2 ≤ 7) → (1 ≤ x3 ∧ x3 ≤ 8) → (0 ≤ x4 ∧ x4 ≤ 1) → (0 ≤ x5 ∧ x5 ≤ 9) → (0 ≤ x6 ∧ x6 ≤ 9) → (2 ≤ x7 ∧ x7 ≤ 2) → (0 ≤ x8 ∧ x8 ≤ 1) → (0 ≤ x9 ∧ x9 ≤ 0) → x6 + x5 = x9 → x6 + ((-1) * x5 + 0) = x7 → i1.toInt = 0 → Q (some (.int i1), S))
    (k9 : ∀ (x3 x4 x5 x6 x7 x8 x9 : Int) (i1 : Int32), 0 ≤ x1 → rd S 1 0 = x3 → x1 < x3 → 0 ≤ x2 → x2 < x3 → rd S 3 x2 = x4 → rd S 4 x2 = x5 → rd S 4 x1 = x6 → 0 ≤ x7 → rd S 3 x1 = x8 → x8 ≠ x4 → x7 ≠ 0 → x7 = 2 → 0 < x9 → (0 ≤ x1 ∧ x1 ≤ 7) → (0 ≤ x2 ∧ x2 ≤ 7) → (1 ≤ x3 ∧ x3 ≤ 8) → (0 ≤ x4 ∧ x4 ≤ 1) → (0 ≤ x5 ∧ x5 ≤ 9) → (0 ≤ x6 ∧ x6 ≤ 9) → (2 ≤ x7 ∧ x7 ≤ 2) → (0 ≤ x8 ∧ x8 ≤ 1) → (1 ≤ x9 ∧ x9 ≤ 18) → x6 + x5 = x9 → x6 + ((-1) * x5 + 0) = x7 → i1.toInt = 1 → Q (some (.int i1), S))
    (k10 : ∀ (x3 x4 x5 x6 x7 x8 : Int) (i1 : Int32), 0 ≤ x1 → rd S 1 0 = x3 → x1 < x3 → 0 ≤ x2 → x2 < x3 → rd S 3 x2 = x4 → rd S 4 x2 = x5 → rd S 4 x1 = x6 → x7 < 0 → rd S 3 x1 = x8 → x8 = x4 → (0 ≤ x1 ∧ x1 ≤ 7) → (0 ≤ x2 ∧ x2 ≤ 7) → (1 ≤ x3 ∧ x3 ≤ 8) → (0 ≤ x4 ∧ x4 ≤ 1) → (0 ≤ x5 ∧ x5 ≤ 9) → (0 ≤ x6 ∧ x6 ≤ 9) → ((-9) ≤ x7 ∧ x7 ≤ (-1)) → (0 ≤ x8 ∧ x8 ≤ 1) → x6 + ((-1) * x5 + 0) = x7 → i1.toInt = 0 → Q (some (.int i1), S))
    (k11 : ∀ (x3 x4 x5 x6 x7 x8 : Int) (i1 : Int32), 0 ≤ x1 → rd S 1 0 = x3 → x1 < x3 → 0 ≤ x2 → x2 < x3 → rd S 3 x2 = x4 → rd S 4 x2 = x5 → rd S 4 x1 = x6 → x7 < 0 → rd S 3 x1 = x8 → x8 ≠ x4 → (-1) * x7 + 0 ≠ 0 → (-1) * x7 + 0 ≠ 2 → (0 ≤ x1 ∧ x1 ≤ 7) → (0 ≤ x2 ∧ x2 ≤ 7) → (1 ≤ x3 ∧ x3 ≤ 8) → (0 ≤ x4 ∧ x4 ≤ 1) → (0 ≤ x5 ∧ x5 ≤ 9) → (0 ≤ x6 ∧ x6 ≤ 9) → ((-9) ≤ x7 ∧ x7 ≤ (-3)) ∨ ((-1) ≤ x7 ∧ x7 ≤ (-1)) → (0 ≤ x8 ∧ x8 ≤ 1) → x6 + ((-1) * x5 + 0) = x7 → i1.toInt = 0 → Q (some (.int i1), S))
    (k12 : ∀ (x3 x4 x5 x6 x7 x8 x9 : Int) (i1 : Int32), 0 ≤ x1 → rd S 1 0 = x3 → x1 < x3 → 0 ≤ x2 → x2 < x3 → rd S 3 x2 = x4 → rd S 4 x2 = x5 → rd S 4 x1 = x6 → x7 < 0 → rd S 3 x1 = x8 → x8 ≠ x4 → (-1) * x7 + 0 ≠ 0 → (-1) * x7 + 0 = 2 → x9 ≤ 0 → (0 ≤ x1 ∧ x1 ≤ 7) → (0 ≤ x2 ∧ x2 ≤ 7) → (1 ≤ x3 ∧ x3 ≤ 8) → (0 ≤ x4 ∧ x4 ≤ 1) → (0 ≤ x5 ∧ x5 ≤ 9) → (0 ≤ x6 ∧ x6 ≤ 9) → ((-2) ≤ x7 ∧ x7 ≤ (-2)) → (0 ≤ x8 ∧ x8 ≤ 1) → (0 ≤ x9 ∧ x9 ≤ 0) → x6 + x5 = x9 → x6 + ((-1) * x5 + 0) = x7 → i1.toInt = 0 → Q (some (.int i1), S))
    (k13 : ∀ (x3 x4 x5 x6 x7 x8 x9 : Int) (i1 : Int32), 0 ≤ x1 → rd S 1 0 = x3 → x1 < x3 → 0 ≤ x2 → x2 < x3 → rd S 3 x2 = x4 → rd S 4 x2 = x5 → rd S 4 x1 = x6 → x7 < 0 → rd S 3 x1 = x8 → x8 ≠ x4 → (-1) * x7 + 0 ≠ 0 → (-1) * x7 + 0 = 2 → 0 < x9 → (0 ≤ x1 ∧ x1 ≤ 7) → (0 ≤ x2 ∧ x2 ≤ 7) → (1 ≤ x3 ∧ x3 ≤ 8) → (0 ≤ x4 ∧ x4 ≤ 1) → (0 ≤ x5 ∧ x5 ≤ 9) → (0 ≤ x6 ∧ x6 ≤ 9) → ((-2) ≤ x7 ∧ x7 ≤ (-2)) → (0 ≤ x8 ∧ x8 ≤ 1) → (1 ≤ x9 ∧ x9 ≤ 18) → x6 + x5 = x9 → x6 + ((-1) * x5 + 0) = x7 → i1.toInt = 1 → Q (some (.int i1), S)) : am_V none d 101 0 L ([]) S Q := by
  refine sg_use sg_aw_x_g hd hP (sg_xs [0, x1, x2]) ⟨⟨Int.le_refl 0, Int.le_refl 0⟩, b1, b2, trivial⟩ trivial trivial trivial ⟨l0, l1, l2, trivial⟩ trivial ?_
  intro z hz x' L' st' S' hx hP' hW hL' hs' hJ hE' hT' hD'
  have q1 : x' 1 = x1 := hx 1 (by decide)
  subst q1
  have q2 : x' 2 = x2 := hx 2 (by decide)
  subst q2
  have eS : S' = S := hW.1 rfl
  subst eS
  simp only [sg_aw_x_Z, List.mem_cons, List.not_mem_nil, or_false] at hz
  rcases hz with rfl | rfl | rfl | rfl | rfl | rfl | rfl | rfl | rfl | rfl | rfl | rfl | rfl | rfl
  · obtain ⟨f0, -, hσ⟩ := hJ
    obtain ⟨e0, -⟩ := hE'
    intro v hv
    subst hv
    cases v with
    | none => exact hs'.elim
    | some v1 =>
      obtain ⟨⟨i1, rfl, g1⟩, -⟩ := hs'
      exact k0 i1 f0 e0 g1
  · obtain ⟨f0, f1, f2, -, hσ⟩ := hJ
    obtain ⟨e0, e1, -⟩ := hE'
    intro v hv
    subst hv
    cases v with
    | none => exact hs'.elim
    | some v1 =>
      obtain ⟨⟨i1, rfl, g1⟩, -⟩ := hs'
      exact k1 (x' 3) i1 f0 f1 f2 e0 e1 g1
  · obtain ⟨f0, f1, f2, -, f4, -, hσ⟩ := hJ
    obtain ⟨e0, e1, e2, -⟩ := hE'
    intro v hv
    subst hv
    cases v with
    | none => exact hs'.elim
    | some v1 =>
      obtain ⟨⟨i1, rfl, g1⟩, -⟩ := hs'
      exact k2 (x' 3) i1 f0 f1 f2 f4 e0 e1 e2 g1
  · obtain ⟨f0, f1, f2, -, f4, -, f6, -, hσ⟩ := hJ
    obtain ⟨e0, e1, e2, -⟩ := hE'
    intro v hv
    subst hv
    cases v with
    | none => exact hs'.elim
    | some v1 =>
      obtain ⟨⟨i1, rfl, g1⟩, -⟩ := hs'
      exact k3 (x' 3) i1 f0 f1 f2 f4 f6 e0 e1 e2 g1
  · obtain ⟨f0, f1, f2, -, f4, -, f6, -, f8, f9, f10, f11, f12, f13, -, hσ⟩ := hJ
    obtain ⟨e0, e1, e2, e3, e4, e5, e6, e7, -⟩ := hE'
    obtain ⟨t0, -⟩ := hT'
    intro v hv
    subst hv
    cases v with
    | none => exact hs'.elim
    | some v1 =>
      obtain ⟨⟨i1, rfl, g1⟩, -⟩ := hs'
      exact k4 (x' 3) (x' 4) (x' 5) (x' 6) (x' 7) (x' 8) i1 f0 f1 f2 f4 f6 f8 f9 f10 f11 f12 f13 e0 e1 e2 e3 e4 e5 e6 e7 t0 g1
  · obtain ⟨f0, f1, f2, -, f4, -, f6, -, f8, f9, f10, f11, f12, f13, f14, -, f16, -, hσ⟩ := hJ
    obtain ⟨e0, e1, e2, e3, e4, e5, e6, e7, e8, -⟩ := hE'
    obtain ⟨t0, t1, -⟩ := hT'
    intro v hv
    subst hv
    cases v with
    | none => exact hs'.elim
    | some v1 =>
      obtain ⟨⟨i1, rfl, g1⟩, -⟩ := hs'
      exact k5 (x' 3) (x' 4) (x' 5) (x' 6) (x' 7) (x' 8) (x' 9) i1 f0 f1 f2 f4 f6 f8 f9 f10 f11 f12 f13 f14 f16 e0 e1 e2 e3 e4 e5 e6 e7 e8 t0 t1 g1
  · obtain ⟨f0, f1, f2, -, f4, -, f6, -, f8, f9, f10, f11, f12, f13, f14, -, f16, -, hσ⟩ := hJ
    obtain ⟨e0, e1, e2, e3, e4, e5, e6, e7, e8, -⟩ := hE'
    obtain ⟨t0, t1, -⟩ := hT'
    intro v hv
    subst hv
    cases v with
    | none => exact hs'.elim
    | some v1 =>
      obtain ⟨⟨i1, rfl, g1⟩, -⟩ := hs'
      exact k6 (x' 3) (x' 4) (x' 5) (x' 6) (x' 7) (x' 8) (x' 9) i1 f0 f1 f2 f4 f6 f8 f9 f10 f11 f12 f13 f14 f16 e0 e1 e2 e3 e4 e5 e6 e7 e8 t0 t1 g1
  · obtain ⟨f0, f1, f2, -, f4, -, f6, -, f8, f9, f10, f11, f12, f13, f14, f15, -, hσ⟩ := hJ
    obtain ⟨e0, e1, e2, e3, e4, e5, e6, e7, -⟩ := hE'
    obtain ⟨t0, -⟩ := hT'
    intro v hv
    subst hv
    cases v with
    | none => exact hs'.elim
    | some v1 =>
      obtain ⟨⟨i1, rfl, g1⟩, -⟩ := hs'
      exact k7 (x' 3) (x' 4) (x' 5) (x' 6) (x' 7) (x' 8) i1 f0 f1 f2 f4 f6 f8 f9 f10 f11 f12 f13 f14 f15 e0 e1 e2 e3 e4 e5 e6 e7 t0 g1
  · obtain ⟨f0, f1, f2, -, f4, -, f6, -, f8, f9, f10, f11, f12, f13, f14, f15, -, f17, -, hσ⟩ := hJ
    obtain ⟨e0, e1, e2, e3, e4, e5, e6, e7, e8, -⟩ := hE'
    obtain ⟨t0, t1, -⟩ := hT'
    intro v hv
    subst hv
    cases v with
    | none => exact hs'.elim
    | some v1 =>
      obtain ⟨⟨i1, rfl, g1⟩, -⟩ := hs'
      exact k8 (x' 3) (x' 4) (x' 5) (x' 6) (x' 7) (x' 8) (x' 9) i1 f0 f1 f2 f4 f6 f8 f9 f10 f11 f12 f13 f14 f15 f17 e0 e1 e2 e3 e4 e5 e6 e7 e8 t0 t1 g1
  · obtain ⟨f0, f1, f2, -, f4, -, f6, -, f8, f9, f10, f11, f12, f13, f14, f15, -, f17, -, hσ⟩ := hJ
    obtain ⟨e0, e1, e2, e3, e4, e5, e6, e7, e8, -⟩ := hE'
    obtain ⟨t0, t1, -⟩ := hT'
    intro v hv
    subst hv
    cases v with
    | none => exact hs'.elim
    | some v1 =>
      obtain ⟨⟨i1, rfl, g1⟩, -⟩ := hs'
      exact k9 (x' 3) (x' 4) (x' 5) (x' 6) (x' 7) (x' 8) (x' 9) i1 f0 f1 f2 f4 f6 f8 f9 f10 f11 f12 f13 f14 f15 f17 e0 e1 e2 e3 e4 e5 e6 e7 e8 t0 t1 g1
  · obtain ⟨f0, f1, f2, -, f4, -, f6, -, f8, f9, f10, f11, f12, f13, -, hσ⟩ := hJ
    obtain ⟨e0, e1, e2, e3, e4, e5, e6, e7, -⟩ := hE'
    obtain ⟨t0, -⟩ := hT'
    intro v hv
    subst hv
    cases v with
    | none => exact hs'.elim
    | some v1 =>
      obtain ⟨⟨i1, rfl, g1⟩, -⟩ := hs'
      exact k10 (x' 3) (x' 4) (x' 5) (x' 6) (x' 7) (x' 8) i1 f0 f1 f2 f4 f6 f8 f9 f10 f11 f12 f13 e0 e1 e2 e3 e4 e5 e6 e7 t0 g1
  · obtain ⟨f0, f1, f2, -, f4, -, f6, -, f8, f9, f10, f11, f12, f13, f14, f15, -, hσ⟩ := hJ
    obtain ⟨e0, e1, e2, e3, e4, e5, e6, e7, -⟩ := hE'
    obtain ⟨t0, -⟩ := hT'
    intro v hv
    subst hv
    cases v with
    | none => exact hs'.elim
    | some v1 =>
      obtain ⟨⟨i1, rfl, g1⟩, -⟩ := hs'
      exact k11 (x' 3) (x' 4) (x' 5) (x' 6) (x' 7) (x' 8) i1 f0 f1 f2 f4 f6 f8 f9 f10 f11 f12 f13 f14 f15 e0 e1 e2 e3 e4 e5 e6 e7 t0 g1
  · obtain ⟨f0, f1, f2, -, f4, -, f6, -, f8, f9, f10, f11, f12, f13, f14, f15, -, f17, -, hσ⟩ := hJ
    obtain ⟨e0, e1, e2, e3, e4, e5, e6, e7, e8, -⟩ := hE'
    obtain ⟨t0, t1, -⟩ := hT'
    intro v hv
    subst hv
    cases v with
    | none => exact hs'.elim
    | some v1 =>
      obtain ⟨⟨i1, rfl, g1⟩, -⟩ := hs'
      exact k12 (x' 3) (x' 4) (x' 5) (x' 6) (x' 7) (x' 8) (x' 9) i1 f0 f1 f2 f4 f6 f8 f9 f10 f11 f12 f13 f14 f15 f17 e0 e1 e2 e3 e4 e5 e6 e7 e8 t0 t1 g1
  · obtain ⟨f0, f1, f2, -, f4, -, f6, -, f8, f9, f10, f11, f12, f13, f14, f15, -, f17, -, hσ⟩ := hJ
    obtain ⟨e0, e1, e2, e3, e4, e5, e6, e7, e8, -⟩ := hE'
    obtain ⟨t0, t1, -⟩ := hT'
    intro v hv
    subst hv
    cases v with
    | none => exact hs'.elim
    | some v1 =>
      obtain ⟨⟨i1, rfl, g1⟩, -⟩ := hs'
      exact k13 (x' 3) (x' 4) (x' 5) (x' 6) (x' 7) (x' 8) (x' 9) i1 f0 f1 f2 f4 f6 f8 f9 f10 f11 f12 f13 f14 f15 f17 e0 e1 e2 e3 e4 e5 e6 e7 e8 t0 t1 g1
def sg_aw_m_Z : List sg_z := [(0, [], [.inl (false, (0, .ofNat 0, .negSucc 0))], [(2, 0, (0, .ofNat 0, .ofNat 0), (0, .ofNat 0, .ofNat 0), (0, .ofNat 0, .ofNat 0)), (2, 2, (1, .ofNat 1, .ofNat 0), (0, .ofNat 0, .ofNat 0), (0, .ofNat 0, .ofNat 0)), (0, 122, (0, .ofNat 0, .ofNat 0), (3, .ofNat 1, .ofNat 0), (0, .ofNat 0, .ofNat 0))], [(1, [(.negSucc 2147483647, .negSucc 0)]), (3, [(.ofNat 0, .ofNat 8)])], [], []),
  (0, [], [.inl (false, (0, .ofNat 0, .negSucc 0))], [(2, 0, (0, .ofNat 0, .ofNat 0), (0, .ofNat 0, .ofNat 0), (0, .ofNat 0, .ofNat 0)), (2, 4, (1, .ofNat 1, .ofNat 0), (3, .ofNat 1, .negSucc 0), (0, .ofNat 0, .ofNat 0)), (2, 3, (1, .ofNat 1, .ofNat 0), (0, .ofNat 0, .ofNat 0), (0, .ofNat 0, .ofNat 0)), (0, 122, (0, .ofNat 0, .ofNat 0), (3, .ofNat 1, .ofNat 0), (0, .ofNat 0, .ofNat 0))], [(1, [(.ofNat 0, .ofNat 2147483647)]), (3, [(.ofNat 0, .ofNat 8)])], [], []),
  (0, [], [.inl (false, (0, .ofNat 0, .negSucc 0))], [(2, 0, (0, .ofNat 0, .ofNat 0), (0, .ofNat 0, .ofNat 0), (0, .ofNat 0, .ofNat 0)), (2, 2, (2, .ofNat 1, .ofNat 0), (0, .ofNat 0, .ofNat 0), (0, .ofNat 0, .ofNat 0)), (0, 122, (0, .ofNat 0, .ofNat 0), (3, .ofNat 1, .ofNat 0), (0, .ofNat 0, .ofNat 0)), (2, 1, (0, .ofNat 0, .ofNat 1), (0, .ofNat 0, .ofNat 0), (0, .ofNat 0, .ofNat 0)), (2, 5, (1, .ofNat 1, .ofNat 0), (3, .ofNat 1, .negSucc 0), (0, .ofNat 0, .ofNat 0)), (2, 3, (1, .ofNat 1, .ofNat 0), (0, .ofNat 0, .ofNat 0), (0, .ofNat 0, .ofNat 0)), (0, 122, (0, .ofNat 0, .ofNat 0), (3, .ofNat 1, .ofNat 0), (0, .ofNat 0, .ofNat 0))], [(1, [(.ofNat 0, .ofNat 7)]), (2, [(.negSucc 2147483647, .negSucc 0)]), (3, [(.ofNat 1, .ofNat 8)])], [], []),
  (0, [], [.inl (false, (0, .ofNat 0, .negSucc 0))], [(2, 0, (0, .ofNat 0, .ofNat 0), (0, .ofNat 0, .ofNat 0), (0, .ofNat 0, .ofNat 0)), (2, 4, (2, .ofNat 1, .ofNat 0), (3, .ofNat 1, .negSucc 0), (0, .ofNat 0, .ofNat 0)), (2, 3, (2, .ofNat 1, .ofNat 0), (0, .ofNat 0, .ofNat 0), (0, .ofNat 0, .ofNat 0)), (0, 122, (0, .ofNat 0, .ofNat 0), (3, .ofNat 1, .ofNat 0), (0, .ofNat 0, .ofNat 0)), (2, 1, (0, .ofNat 0, .ofNat 1), (0, .ofNat 0, .ofNat 0), (0, .ofNat 0, .ofNat 0)), (2, 5, (1, .ofNat 1, .ofNat 0), (3, .ofNat 1, .negSucc 0), (0, .ofNat 0, .ofNat 0)), (2, 3, (1, .ofNat 1, .ofNat 0), (0, .ofNat 0, .ofNat 0), (0, .ofNat 0, .ofNat 0)), (0, 122, (0, .ofNat 0, .ofNat 0), (3, .ofNat 1, .ofNat 0), (0, .ofNat 0, .ofNat 0))], [(1, [(.ofNat 0, .ofNat 7)]), (2, [(.ofNat 1, .ofNat 2147483647)]), (3, [(.ofNat 1, .ofNat 8)])], [], []),
  (0, [], [.inl (false, (0, .ofNat 0, .ofNat 0))], [(2, 0, (0, .ofNat 0, .ofNat 0), (0, .ofNat 0, .ofNat 0), (0, .ofNat 0, .ofNat 0)), (2, 0, (4, .ofNat 1, .ofNat 0), (8, .ofNat 1, .ofNat 0), (0, .ofNat 0, .ofNat 0)), (0, 124, (2, .ofNat 1, .ofNat 0), (8, .ofNat 1, .ofNat 0), (0, .ofNat 0, .ofNat 0)), (0, 125, (2, .ofNat 1, .ofNat 0), (6, .ofNat 1, .ofNat 0), (0, .ofNat 0, .ofNat 0)), (2, 5, (5, .ofNat 1, .ofNat 0), (6, .ofNat 1, .ofNat 0), (0, .ofNat 0, .ofNat 0)), (0, 125, (2, .ofNat 1, .ofNat 0), (6, .ofNat 1, .ofNat 0), (0, .ofNat 0, .ofNat 0)), (0, 125, (1, .ofNat 1, .ofNat 0), (5, .ofNat 1, .ofNat 0), (0, .ofNat 0, .ofNat 0)), (0, 124, (1, .ofNat 1, .ofNat 0), (4, .ofNat 1, .ofNat 0), (0, .ofNat 0, .ofNat 0)), (2, 1, (0, .ofNat 0, .ofNat 1), (0, .ofNat 0, .ofNat 0), (0, .ofNat 0, .ofNat 0)), (2, 5, (2, .ofNat 1, .ofNat 0), (3, .ofNat 1, .negSucc 0), (0, .ofNat 0, .ofNat 0)), (2, 3, (2, .ofNat 1, .ofNat 0), (0, .ofNat 0, .ofNat 0), (0, .ofNat 0, .ofNat 0)), (0, 122, (0, .ofNat 0, .ofNat 0), (3, .ofNat 1, .ofNat 0), (0, .ofNat 0, .ofNat 0)), (2, 1, (0, .ofNat 0, .ofNat 1), (0, .ofNat 0, .ofNat 0), (0, .ofNat 0, .ofNat 0)), (2, 5, (1, .ofNat 1, .ofNat 0), (3, .ofNat 1, .negSucc 0), (0, .ofNat 0, .ofNat 0)), (2, 3, (1, .ofNat 1, .ofNat 0), (0, .ofNat 0, .ofNat 0), (0, .ofNat 0, .ofNat 0)), (0, 122, (0, .ofNat 0, .ofNat 0), (3, .ofNat 1, .ofNat 0), (0, .ofNat 0, .ofNat 0))], [(1, [(.ofNat 0, .ofNat 7)]), (2, [(.ofNat 0, .ofNat 7)]), (3, [(.ofNat 1, .ofNat 8)]), (4, [(.ofNat 0, .ofNat 1)]), (5, [(.ofNat 0, .ofNat 9)]), (6, [(.ofNat 0, .ofNat 9)]), (8, [(.ofNat 0, .ofNat 1)])], [], []),
  (0, [], [.inl (false, (0, .ofNat 0, .ofNat 0))], [(2, 0, (0, .ofNat 0, .ofNat 0), (0, .ofNat 0, .ofNat 0), (0, .ofNat 0, .ofNat 0)), (2, 5, (9, .ofNat 1, .ofNat 0), (0, .ofNat 0, .ofNat 0), (0, .ofNat 0, .ofNat 0)), (0, 125, (2, .ofNat 1, .ofNat 0), (6, .ofNat 1, .ofNat 0), (0, .ofNat 0, .ofNat 0)), (2, 0, (7, .ofNat 1, .ofNat 0), (0, .ofNat 0, .ofNat 0), (0, .ofNat 0, .ofNat 0)), (2, 1, (4, .ofNat 1, .ofNat 0), (8, .ofNat 1, .ofNat 0), (0, .ofNat 0, .ofNat 0)), (0, 124, (2, .ofNat 1, .ofNat 0), (8, .ofNat 1, .ofNat 0), (0, .ofNat 0, .ofNat 0)), (0, 125, (2, .ofNat 1, .ofNat 0), (6, .ofNat 1, .ofNat 0), (0, .ofNat 0, .ofNat 0)), (2, 5, (5, .ofNat 1, .ofNat 0), (6, .ofNat 1, .ofNat 0), (0, .ofNat 0, .ofNat 0)), (0, 125, (2, .ofNat 1, .ofNat 0), (6, .ofNat 1, .ofNat 0), (0, .ofNat 0, .ofNat 0)), (0, 125, (1, .ofNat 1, .ofNat 0), (5, .ofNat 1, .ofNat 0), (0, .ofNat 0, .ofNat 0)), (0, 124, (1, .ofNat 1, .ofNat 0), (4, .ofNat 1, .ofNat 0), (0, .ofNat 0, .ofNat 0)), (2, 1, (0, .ofNat 0, .ofNat 1), (0, .ofNat 0, .ofNat 0), (0, .ofNat 0, .ofNat 0)), (2, 5, (2, .ofNat 1, .ofNat 0), (3, .ofNat 1, .negSucc 0), (0, .ofNat 0, .ofNat 0)), (2, 3, (2, .ofNat 1, .ofNat 0), (0, .ofNat 0, .ofNat 0), (0, .ofNat 0, .ofNat 0)), (0, 122, (0, .ofNat 0, .ofNat 0), (3, .ofNat 1, .ofNat 0), (0, .ofNat 0, .ofNat 0)), (2, 1, (0, .ofNat 0, .ofNat 1), (0, .ofNat 0, .ofNat 0), (0, .ofNat 0, .ofNat 0)), (2, 5, (1, .ofNat 1, .ofNat 0), (3, .ofNat 1, .negSucc 0), (0, .ofNat 0, .ofNat 0)), (2, 3, (1, .ofNat 1, .ofNat 0), (0, .ofNat 0, .ofNat 0), (0, .ofNat 0, .ofNat 0)), (0, 122, (0, .ofNat 0, .ofNat 0), (3, .ofNat 1, .ofNat 0), (0, .ofNat 0, .ofNat 0))], [(1, [(.ofNat 0, .ofNat 7)]), (2, [(.ofNat 0, .ofNat 7)]), (3, [(.ofNat 1, .ofNat 8)]), (4, [(.ofNat 0, .ofNat 1)]), (5, [(.ofNat 0, .ofNat 9)]), (6, [(.ofNat 0, .ofNat 9)]), (7, [(.ofNat 0, .ofNat 0)]), (8, [(.ofNat 0, .ofNat 1)]), (9, [(.ofNat 0, .ofNat 0)])], [((5, .ofNat 1, .ofNat 0), (6, .ofNat 1, .ofNat 0), (9, .ofNat 1, .ofNat 0)), ((6, .ofNat 1, .ofNat 0), (5, .negSucc 0, .ofNat 0), (7, .ofNat 1, .ofNat 0))], []),
  (0, [], [.inl (false, (0, .ofNat 0, .ofNat 1))], [(2, 1, (0, .ofNat 0, .ofNat 1), (0, .ofNat 0, .ofNat 0), (0, .ofNat 0, .ofNat 0)), (2, 4, (9, .ofNat 1, .ofNat 0), (0, .ofNat 0, .ofNat 0), (0, .ofNat 0, .ofNat 0)), (0, 125, (2, .ofNat 1, .ofNat 0), (6, .ofNat 1, .ofNat 0), (0, .ofNat 0, .ofNat 0)), (2, 0, (7, .ofNat 1, .ofNat 0), (0, .ofNat 0, .ofNat 0), (0, .ofNat 0, .ofNat 0)), (2, 1, (4, .ofNat 1, .ofNat 0), (8, .ofNat 1, .ofNat 0), (0, .ofNat 0, .ofNat 0)), (0, 124, (2, .ofNat 1, .ofNat 0), (8, .ofNat 1, .ofNat 0), (0, .ofNat 0, .ofNat 0)), (0, 125, (2, .ofNat 1, .ofNat 0), (6, .ofNat 1, .ofNat 0), (0, .ofNat 0, .ofNat 0)), (2, 5, (5, .ofNat 1, .ofNat 0), (6, .ofNat 1, .ofNat 0), (0, .ofNat 0, .ofNat 0)), (0, 125, (2, .ofNat 1, .ofNat 0), (6, .ofNat 1, .ofNat 0), (0, .ofNat 0, .ofNat 0)), (0, 125, (1, .ofNat 1, .ofNat 0), (5, .ofNat 1, .ofNat 0), (0, .ofNat 0, .ofNat 0)), (0, 124, (1, .ofNat 1, .ofNat 0), (4, .ofNat 1, .ofNat 0), (0, .ofNat 0, .ofNat 0)), (2, 1, (0, .ofNat 0, .ofNat 1), (0, .ofNat 0, .ofNat 0), (0, .ofNat 0, .ofNat 0)), (2, 5, (2, .ofNat 1, .ofNat 0), (3, .ofNat 1, .negSucc 0), (0, .ofNat 0, .ofNat 0)), (2, 3, (2, .ofNat 1, .ofNat 0), (0, .ofNat 0, .ofNat 0), (0, .ofNat 0, .ofNat 0)), (0, 122, (0, .ofNat 0, .ofNat 0), (3, .ofNat 1, .ofNat 0), (0, .ofNat 0, .ofNat 0)), (2, 1, (0, .ofNat 0, .ofNat 1), (0, .ofNat 0, .ofNat 0), (0, .ofNat 0, .ofNat 0)), (2, 5, (1, .ofNat 1, .ofNat 0), (3, .ofNat 1, .negSucc 0), (0, .ofNat 0, .ofNat 0)), (2, 3, (1, .ofNat 1, .ofNat 0), (0, .ofNat 0, .ofNat 0), (0, .ofNat 0, .ofNat 0)), (0, 122, (0, .ofNat 0, .ofNat 0), (3, .ofNat 1, .ofNat 0), (0, .ofNat 0, .ofNat 0))], [(1, [(.ofNat 0, .ofNat 7)]), (2, [(.ofNat 0, .ofNat 7)]), (3, [(.ofNat 1, .ofNat 8)]), (4, [(.ofNat 0, .ofNat 1)]), (5, [(.ofNat 0, .ofNat 9)]), (6, [(.ofNat 0, .ofNat 9)]), (7, [(.ofNat 0, .ofNat 0)]), (8, [(.ofNat 0, .ofNat 1)]), (9, [(.ofNat 1, .ofNat 18)])], [((5, .ofNat 1, .ofNat 0), (6, .ofNat 1, .ofNat 0), (9, .ofNat 1, .ofNat 0)), ((6, .ofNat 1, .ofNat 0), (5, .negSucc 0, .ofNat 0), (7, .ofNat 1, .ofNat 0))], []),
  (0, [], [.inl (false, (0, .ofNat 0, .ofNat 0))], [(2, 0, (0, .ofNat 0, .ofNat 0), (0, .ofNat 0, .ofNat 0), (0, .ofNat 0, .ofNat 0)), (2, 1, (7, .ofNat 1, .ofNat 0), (0, .ofNat 0, .ofNat 2), (0, .ofNat 0, .ofNat 0)), (2, 1, (7, .ofNat 1, .ofNat 0), (0, .ofNat 0, .ofNat 0), (0, .ofNat 0, .ofNat 0)), (2, 1, (4, .ofNat 1, .ofNat 0), (8, .ofNat 1, .ofNat 0), (0, .ofNat 0, .ofNat 0)), (0, 124, (2, .ofNat 1, .ofNat 0), (8, .ofNat 1, .ofNat 0), (0, .ofNat 0, .ofNat 0)), (0, 125, (2, .ofNat 1, .ofNat 0), (6, .ofNat 1, .ofNat 0), (0, .ofNat 0, .ofNat 0)), (2, 5, (5, .ofNat 1, .ofNat 0), (6, .ofNat 1, .ofNat 0), (0, .ofNat 0, .ofNat 0)), (0, 125, (2, .ofNat 1, .ofNat 0), (6, .ofNat 1, .ofNat 0), (0, .ofNat 0, .ofNat 0)), (0, 125, (1, .ofNat 1, .ofNat 0), (5, .ofNat 1, .ofNat 0), (0, .ofNat 0, .ofNat 0)), (0, 124, (1, .ofNat 1, .ofNat 0), (4, .ofNat 1, .ofNat 0), (0, .ofNat 0, .ofNat 0)), (2, 1, (0, .ofNat 0, .ofNat 1), (0, .ofNat 0, .ofNat 0), (0, .ofNat 0, .ofNat 0)), (2, 5, (2, .ofNat 1, .ofNat 0), (3, .ofNat 1, .negSucc 0), (0, .ofNat 0, .ofNat 0)), (2, 3, (2, .ofNat 1, .ofNat 0), (0, .ofNat 0, .ofNat 0), (0, .ofNat 0, .ofNat 0)), (0, 122, (0, .ofNat 0, .ofNat 0), (3, .ofNat 1, .ofNat 0), (0, .ofNat 0, .ofNat 0)), (2, 1, (0, .ofNat 0, .ofNat 1), (0, .ofNat 0, .ofNat 0), (0, .ofNat 0, .ofNat 0)), (2, 5, (1, .ofNat 1, .ofNat 0), (3, .ofNat 1, .negSucc 0), (0, .ofNat 0, .ofNat 0)), (2, 3, (1, .ofNat 1, .ofNat 0), (0, .ofNat 0, .ofNat 0), (0, .ofNat 0, .ofNat 0)), (0, 122, (0, .ofNat 0, .ofNat 0), (3, .ofNat 1, .ofNat 0), (0, .ofNat 0, .ofNat 0))], [(1, [(.ofNat 0, .ofNat 7)]), (2, [(.ofNat 0, .ofNat 7)]), (3, [(.ofNat 1, .ofNat 8)]), (4, [(.ofNat 0, .ofNat 1)]), (5, [(.ofNat 0, .ofNat 9)]), (6, [(.ofNat 0, .ofNat 9)]), (7, [(.negSucc 8, .negSucc 0), (.ofNat 1, .ofNat 1), (.ofNat 3, .ofNat 9)]), (8, [(.ofNat 0, .ofNat 1)])], [((6, .ofNat 1, .ofNat 0), (5, .negSucc 0, .ofNat 0), (7, .ofNat 1, .ofNat 0))], []),
  (0, [], [.inl (false, (0, .ofNat 0, .ofNat 0))], [(2, 0, (0, .ofNat 0, .ofNat 0), (0, .ofNat 0, .ofNat 0), (0, .ofNat 0, .ofNat 0)), (2, 5, (9, .ofNat 1, .ofNat 0), (0, .ofNat 0, .ofNat 0), (0, .ofNat 0, .ofNat 0)), (0, 125, (2, .ofNat 1, .ofNat 0), (6, .ofNat 1, .ofNat 0), (0, .ofNat 0, .ofNat 0)), (2, 0, (7, .ofNat 1, .ofNat 0), (0, .ofNat 0, .ofNat 2), (0, .ofNat 0, .ofNat 0)), (2, 1, (7, .ofNat 1, .ofNat 0), (0, .ofNat 0, .ofNat 0), (0, .ofNat 0, .ofNat 0)), (2, 1, (4, .ofNat 1, .ofNat 0), (8, .ofNat 1, .ofNat 0), (0, .ofNat 0, .ofNat 0)), (0, 124, (2, .ofNat 1, .ofNat 0), (8, .ofNat 1, .ofNat 0), (0, .ofNat 0, .ofNat 0)), (0, 125, (2, .ofNat 1, .ofNat 0), (6, .ofNat 1, .ofNat 0), (0, .ofNat 0, .ofNat 0)), (2, 5, (5, .ofNat 1, .ofNat 0), (6, .ofNat 1, .ofNat 0), (0, .ofNat 0, .ofNat 0)), (0, 125, (2, .ofNat 1, .ofNat 0), (6, .ofNat 1, .ofNat 0), (0, .ofNat 0, .ofNat 0)), (0, 125, (1, .ofNat 1, .ofNat 0), (5, .ofNat 1, .ofNat 0), (0, .ofNat 0, .ofNat 0)), (0, 124, (1, .ofNat 1, .ofNat 0), (4, .ofNat 1, .ofNat 0), (0, .ofNat 0, .ofNat 0)), (2, 1, (0, .ofNat 0, .ofNat 1), (0, .ofNat 0, .ofNat 0), (0, .ofNat 0, .ofNat 0)), (2, 5, (2, .ofNat 1, .ofNat 0), (3, .ofNat 1, .negSucc 0), (0, .ofNat 0, .ofNat 0)), (2, 3, (2, .ofNat 1, .ofNat 0), (0, .ofNat 0, .ofNat 0), (0, .ofNat 0, .ofNat 0)), (0, 122, (0, .ofNat 0, .ofNat 0), (3, .ofNat 1, .ofNat 0), (0, .ofNat 0, .ofNat 0)), (2, 1, (0, .ofNat 0, .ofNat 1), (0, .ofNat 0, .ofNat 0), (0, .ofNat 0, .ofNat 0)), (2, 5, (1, .ofNat 1, .ofNat 0), (3, .ofNat 1, .negSucc 0), (0, .ofNat 0, .ofNat 0)), (2, 3, (1, .ofNat 1, .ofNat 0), (0, .ofNat 0, .ofNat 0), (0, .ofNat 0, .ofNat 0)), (0, 122, (0, .ofNat 0, .ofNat 0), (3, .ofNat 1, .ofNat 0), (0, .ofNat 0, .ofNat 0))], [(1, [(.ofNat 0, .ofNat 7)]), (2, [(.ofNat 0, .ofNat 7)]), (3, [(.ofNat 1, .ofNat 8)]), (4, [(.ofNat 0, .ofNat 1)]), (5, [(.ofNat 0, .ofNat 9)]), (6, [(.ofNat 0, .ofNat 9)]), (7, [(.ofNat 2, .ofNat 2)]), (8, [(.ofNat 0, .ofNat 1)]), (9, [(.ofNat 0, .ofNat 0)])], [((5, .ofNat 1, .ofNat 0), (6, .ofNat 1, .ofNat 0), (9, .ofNat 1, .ofNat 0)), ((6, .ofNat 1, .ofNat 0), (5, .negSucc 0, .ofNat 0), (7, .ofNat 1, .ofNat 0))], []),
  (0, [], [.inl (false, (0, .ofNat 0, .ofNat 1))], [(2, 1, (0, .ofNat 0, .ofNat 1), (0, .ofNat 0, .ofNat 0), (0, .ofNat 0, .ofNat 0)), (2, 4, (9, .ofNat 1, .ofNat 0), (0, .ofNat 0, .ofNat 0), (0, .ofNat 0, .ofNat 0)), (0, 125, (2, .ofNat 1, .ofNat 0), (6, .ofNat 1, .ofNat 0), (0, .ofNat 0, .ofNat 0)), (2, 0, (7, .ofNat 1, .ofNat 0), (0, .ofNat 0, .ofNat 2), (0, .ofNat 0, .ofNat 0)), (2, 1, (7, .ofNat 1, .ofNat 0), (0, .ofNat 0, .ofNat 0), (0, .ofNat 0, .ofNat 0)), (2, 1, (4, .ofNat 1, .ofNat 0), (8, .ofNat 1, .ofNat 0), (0, .ofNat 0, .ofNat 0)), (0, 124, (2, .ofNat 1, .ofNat 0), (8, .ofNat 1, .ofNat 0), (0, .ofNat 0, .ofNat 0)), (0, 125, (2, .ofNat 1, .ofNat 0), (6, .ofNat 1, .ofNat 0), (0, .ofNat 0, .ofNat 0)), (2, 5, (5, .ofNat 1, .ofNat 0), (6, .ofNat 1, .ofNat 0), (0, .ofNat 0, .ofNat 0)), (0, 125, (2, .ofNat 1, .ofNat 0), (6, .ofNat 1, .ofNat 0), (0, .ofNat 0, .ofNat 0)), (0, 125, (1, .ofNat 1, .ofNat 0), (5, .ofNat 1, .ofNat 0), (0, .ofNat 0, .ofNat 0)), (0, 124, (1, .ofNat 1, .ofNat 0), (4, .ofNat 1, .ofNat 0), (0, .ofNat 0, .ofNat 0)), (2, 1, (0, .ofNat 0, .ofNat 1), (0, .ofNat 0, .ofNat 0), (0, .ofNat 0, .ofNat 0)), (2, 5, (2, .ofNat 1, .ofNat 0), (3, .ofNat 1, .negSucc 0), (0, .ofNat 0, .ofNat 0)), (2, 3, (2, .ofNat 1, .ofNat 0), (0, .ofNat 0, .ofNat 0), (0, .ofNat 0, .ofNat 0)), (0, 122, (0, .ofNat 0, .ofNat 0), (3, .ofNat 1, .ofNat 0), (0, .ofNat 0, .ofNat 0)), (2, 1, (0, .ofNat 0, .ofNat 1), (0, .ofNat 0, .ofNat 0), (0, .ofNat 0, .ofNat 0)), (2, 5, (1, .ofNat 1, .ofNat 0), (3, .ofNat 1, .negSucc 0), (0, .ofNat 0, .ofNat 0)), (2, 3, (1, .ofNat 1, .ofNat 0), (0, .ofNat 0, .ofNat 0), (0, .ofNat 0, .ofNat 0)), (0, 122, (0, .ofNat 0, .ofNat 0), (3, .ofNat 1, .ofNat 0), (0, .ofNat 0, .ofNat 0))], [(1, [(.ofNat 0, .ofNat 7)]), (2, [(.ofNat 0, .ofNat 7)]), (3, [(.ofNat 1, .ofNat 8)]), (4, [(.ofNat 0, .ofNat 1)]), (5, [(.ofNat 0, .ofNat 9)]), (6, [(.ofNat 0, .ofNat 9)]), (7, [(.ofNat 2, .ofNat 2)]), (8, [(.ofNat 0, .ofNat 1)]), (9, [(.ofNat 1, .ofNat 18)])], [((5, .ofNat 1, .ofNat 0), (6, .ofNat 1, .ofNat 0), (9, .ofNat 1, .ofNat 0)), ((6, .ofNat 1, .ofNat 0), (5, .negSucc 0, .ofNat 0), (7, .ofNat 1, .ofNat 0))], []),
  (0, [], [.inl (false, (0, .ofNat 0, .ofNat 0))], [(2, 0, (0, .ofNat 0, .ofNat 0), (0, .ofNat 0, .ofNat 0), (0, .ofNat 0, .ofNat 0)), (2, 0, (4, .ofNat 1, .ofNat 0), (8, .ofNat 1, .ofNat 0), (0, .ofNat 0, .ofNat 0)), (0, 124, (2, .ofNat 1, .ofNat 0), (8, .ofNat 1, .ofNat 0), (0, .ofNat 0, .ofNat 0)), (0, 125, (2, .ofNat 1, .ofNat 0), (6, .ofNat 1, .ofNat 0), (0, .ofNat 0, .ofNat 0)), (2, 4, (5, .ofNat 1, .ofNat 0), (6, .ofNat 1, .ofNat 0), (0, .ofNat 0, .ofNat 0)), (0, 125, (2, .ofNat 1, .ofNat 0), (6, .ofNat 1, .ofNat 0), (0, .ofNat 0, .ofNat 0)), (0, 125, (1, .ofNat 1, .ofNat 0), (5, .ofNat 1, .ofNat 0), (0, .ofNat 0, .ofNat 0)), (0, 124, (1, .ofNat 1, .ofNat 0), (4, .ofNat 1, .ofNat 0), (0, .ofNat 0, .ofNat 0)), (2, 1, (0, .ofNat 0, .ofNat 1), (0, .ofNat 0, .ofNat 0), (0, .ofNat 0, .ofNat 0)), (2, 5, (2, .ofNat 1, .ofNat 0), (3, .ofNat 1, .negSucc 0), (0, .ofNat 0, .ofNat 0)), (2, 3, (2, .ofNat 1, .ofNat 0), (0, .ofNat 0, .ofNat 0), (0, .ofNat 0, .ofNat 0)), (0, 122, (0, .ofNat 0, .ofNat 0), (3, .ofNat 1, .ofNat 0), (0, .ofNat 0, .ofNat 0)), (2, 1, (0, .ofNat 0, .ofNat 1), (0, .ofNat 0, .ofNat 0), (0, .ofNat 0, .ofNat 0)), (2, 5, (1, .ofNat 1, .ofNat 0), (3, .ofNat 1, .negSucc 0), (0, .ofNat 0, .ofNat 0)), (2, 3, (1, .ofNat 1, .ofNat 0), (0, .ofNat 0, .ofNat 0), (0, .ofNat 0, .ofNat 0)), (0, 122, (0, .ofNat 0, .ofNat 0), (3, .ofNat 1, .ofNat 0), (0, .ofNat 0, .ofNat 0))], [(1, [(.ofNat 0, .ofNat 7)]), (2, [(.ofNat 0, .ofNat 7)]), (3, [(.ofNat 1, .ofNat 8)]), (4, [(.ofNat 0, .ofNat 1)]), (5, [(.ofNat 1, .ofNat 9)]), (6, [(.ofNat 0, .ofNat 8)]), (8, [(.ofNat 0, .ofNat 1)])], [], []),
  (0, [], [.inl (false, (0, .ofNat 0, .ofNat 1))], [(2, 1, (0, .ofNat 0, .ofNat 1), (0, .ofNat 0, .ofNat 0), (0, .ofNat 0, .ofNat 0)), (2, 4, (9, .ofNat 1, .ofNat 0), (0, .ofNat 0, .ofNat 0), (0, .ofNat 0, .ofNat 0)), (0, 125, (2, .ofNat 1, .ofNat 0), (6, .ofNat 1, .ofNat 0), (0, .ofNat 0, .ofNat 0)), (2, 0, (7, .ofNat 1, .ofNat 0), (0, .ofNat 0, .ofNat 0), (0, .ofNat 0, .ofNat 0)), (2, 1, (4, .ofNat 1, .ofNat 0), (8, .ofNat 1, .ofNat 0), (0, .ofNat 0, .ofNat 0)), (0, 124, (2, .ofNat 1, .ofNat 0), (8, .ofNat 1, .ofNat 0), (0, .ofNat 0, .ofNat 0)), (0, 125, (2, .ofNat 1, .ofNat 0), (6, .ofNat 1, .ofNat 0), (0, .ofNat 0, .ofNat 0)), (2, 4, (5, .ofNat 1, .ofNat 0), (6, .ofNat 1, .ofNat 0), (0, .ofNat 0, .ofNat 0)), (0, 125, (2, .ofNat 1, .ofNat 0), (6, .ofNat 1, .ofNat 0), (0, .ofNat 0, .ofNat 0)), (0, 125, (1, .ofNat 1, .ofNat 0), (5, .ofNat 1, .ofNat 0), (0, .ofNat 0, .ofNat 0)), (0, 124, (1, .ofNat 1, .ofNat 0), (4, .ofNat 1, .ofNat 0), (0, .ofNat 0, .ofNat 0)), (2, 1, (0, .ofNat 0, .ofNat 1), (0, .ofNat 0, .ofNat 0), (0, .ofNat 0, .ofNat 0)), (2, 5, (2, .ofNat 1, .ofNat 0), (3, .ofNat 1, .negSucc 0), (0, .ofNat 0, .ofNat 0)), (2, 3, (2, .ofNat 1, .ofNat 0), (0, .ofNat 0, .ofNat 0), (0, .ofNat 0, .ofNat 0)), (0, 122, (0, .ofNat 0, .ofNat 0), (3, .ofNat 1, .ofNat 0), (0, .ofNat 0, .ofNat 0)), (2, 1, (0, .ofNat 0, .ofNat 1), (0, .ofNat 0, .ofNat 0), (0, .ofNat 0, .ofNat 0)), (2, 5, (1, .ofNat 1, .ofNat 0), (3, .ofNat 1, .negSucc 0), (0, .ofNat 0, .ofNat 0)), (2, 3, (1, .ofNat 1, .ofNat 0), (0, .ofNat 0, .ofNat 0), (0, .ofNat 0, .ofNat 0)), (0, 122, (0, .ofNat 0, .ofNat 0), (3, .ofNat 1, .ofNat 0), (0, .ofNat 0, .ofNat 0))], [(1, [(.ofNat 0, .ofNat 7)]), (2, [(.ofNat 0, .ofNat 7)]), (3, [(.ofNat 1, .ofNat 8)]), (4, [(.ofNat 0, .ofNat 1)]), (5, [(.ofNat 1, .ofNat 9)]), (6, [(.ofNat 0, .ofNat 8)]), (7, [(.ofNat 0, .ofNat 0)]), (8, [(.ofNat 0, .ofNat 1)]), (9, [(.ofNat 1, .ofNat 17)])], [((5, .ofNat 1, .ofNat 0), (6, .ofNat 1, .ofNat 0), (9, .ofNat 1, .ofNat 0)), ((5, .ofNat 1, .ofNat 0), (6, .negSucc 0, .ofNat 0), (7, .ofNat 1, .ofNat 0))], []),
  (0, [], [.inl (false, (0, .ofNat 0, .ofNat 0))], [(2, 0, (0, .ofNat 0, .ofNat 0), (0, .ofNat 0, .ofNat 0), (0, .ofNat 0, .ofNat 0)), (2, 1, (7, .ofNat 1, .ofNat 0), (0, .ofNat 0, .ofNat 2), (0, .ofNat 0, .ofNat 0)), (2, 1, (7, .ofNat 1, .ofNat 0), (0, .ofNat 0, .ofNat 0), (0, .ofNat 0, .ofNat 0)), (2, 1, (4, .ofNat 1, .ofNat 0), (8, .ofNat 1, .ofNat 0), (0, .ofNat 0, .ofNat 0)), (0, 124, (2, .ofNat 1, .ofNat 0), (8, .ofNat 1, .ofNat 0), (0, .ofNat 0, .ofNat 0)), (0, 125, (2, .ofNat 1, .ofNat 0), (6, .ofNat 1, .ofNat 0), (0, .ofNat 0, .ofNat 0)), (2, 4, (5, .ofNat 1, .ofNat 0), (6, .ofNat 1, .ofNat 0), (0, .ofNat 0, .ofNat 0)), (0, 125, (2, .ofNat 1, .ofNat 0), (6, .ofNat 1, .ofNat 0), (0, .ofNat 0, .ofNat 0)), (0, 125, (1, .ofNat 1, .ofNat 0), (5, .ofNat 1, .ofNat 0), (0, .ofNat 0, .ofNat 0)), (0, 124, (1, .ofNat 1, .ofNat 0), (4, .ofNat 1, .ofNat 0), (0, .ofNat 0, .ofNat 0)), (2, 1, (0, .ofNat 0, .ofNat 1), (0, .ofNat 0, .ofNat 0), (0, .ofNat 0, .ofNat 0)), (2, 5, (2, .ofNat 1, .ofNat 0), (3, .ofNat 1, .negSucc 0), (0, .ofNat 0, .ofNat 0)), (2, 3, (2, .ofNat 1, .ofNat 0), (0, .ofNat 0, .ofNat 0), (0, .ofNat 0, .ofNat 0)), (0, 122, (0, .ofNat 0, .ofNat 0), (3, .ofNat 1, .ofNat 0), (0, .ofNat 0, .ofNat 0)), (2, 1, (0, .ofNat 0, .ofNat 1), (0, .ofNat 0, .ofNat 0), (0, .ofNat 0, .ofNat 0)), (2, 5, (1, .ofNat 1, .ofNat 0), (3, .ofNat 1, .negSucc 0), (0, .ofNat 0, .ofNat 0)), (2, 3, (1, .ofNat 1, .ofNat 0), (0, .ofNat 0, .ofNat 0), (0, .ofNat 0, .ofNat 0)), (0, 122, (0, .ofNat 0, .ofNat 0), (3, .ofNat 1, .ofNat 0), (0, .ofNat 0, .ofNat 0))], [(1, [(.ofNat 0, .ofNat 7)]), (2, [(.ofNat 0, .ofNat 7)]), (3, [(.ofNat 1, .ofNat 8)]), (4, [(.ofNat 0, .ofNat 1)]), (5, [(.ofNat 1, .ofNat 9)]), (6, [(.ofNat 0, .ofNat 8)]), (7, [(.negSucc 6, .negSucc 0), (.ofNat 1, .ofNat 1), (.ofNat 3, .ofNat 9)]), (8, [(.ofNat 0, .ofNat 1)])], [((5, .ofNat 1, .ofNat 0), (6, .negSucc 0, .ofNat 0), (7, .ofNat 1, .ofNat 0))], []),
  (0, [], [.inl (false, (0, .ofNat 0, .ofNat 1))], [(2, 1, (0, .ofNat 0, .ofNat 1), (0, .ofNat 0, .ofNat 0), (0, .ofNat 0, .ofNat 0)), (2, 4, (9, .ofNat 1, .ofNat 0), (0, .ofNat 0, .ofNat 0), (0, .ofNat 0, .ofNat 0)), (0, 125, (2, .ofNat 1, .ofNat 0), (6, .ofNat 1, .ofNat 0), (0, .ofNat 0, .ofNat 0)), (2, 0, (7, .ofNat 1, .ofNat 0), (0, .ofNat 0, .ofNat 2), (0, .ofNat 0, .ofNat 0)), (2, 1, (7, .ofNat 1, .ofNat 0), (0, .ofNat 0, .ofNat 0), (0, .ofNat 0, .ofNat 0)), (2, 1, (4, .ofNat 1, .ofNat 0), (8, .ofNat 1, .ofNat 0), (0, .ofNat 0, .ofNat 0)), (0, 124, (2, .ofNat 1, .ofNat 0), (8, .ofNat 1, .ofNat 0), (0, .ofNat 0, .ofNat 0)), (0, 125, (2, .ofNat 1, .ofNat 0), (6, .ofNat 1, .ofNat 0), (0, .ofNat 0, .ofNat 0)), (2, 4, (5, .ofNat 1, .ofNat 0), (6, .ofNat 1, .ofNat 0), (0, .ofNat 0, .ofNat 0)), (0, 125, (2, .ofNat 1, .ofNat 0), (6, .ofNat 1, .ofNat 0), (0, .ofNat 0, .ofNat 0)), (0, 125, (1, .ofNat 1, .ofNat 0), (5, .ofNat 1, .ofNat 0), (0, .ofNat 0, .ofNat 0)), (0, 124, (1, .ofNat 1, .ofNat 0), (4, .ofNat 1, .ofNat 0), (0, .ofNat 0, .ofNat 0)), (2, 1, (0, .ofNat 0, .ofNat 1), (0, .ofNat 0, .ofNat 0), (0, .ofNat 0, .ofNat 0)), (2, 5, (2, .ofNat 1, .ofNat 0), (3, .ofNat 1, .negSucc 0), (0, .ofNat 0, .ofNat 0)), (2, 3, (2, .ofNat 1, .ofNat 0), (0, .ofNat 0, .ofNat 0), (0, .ofNat 0, .ofNat 0)), (0, 122, (0, .ofNat 0, .ofNat 0), (3, .ofNat 1, .ofNat 0), (0, .ofNat 0, .ofNat 0)), (2, 1, (0, .ofNat 0, .ofNat 1), (0, .ofNat 0, .ofNat 0), (0, .ofNat 0, .ofNat 0)), (2, 5, (1, .ofNat 1, .ofNat 0), (3, .ofNat 1, .negSucc 0), (0, .ofNat 0, .ofNat 0)), (2, 3, (1, .ofNat 1, .ofNat 0), (0, .ofNat 0, .ofNat 0), (0, .ofNat 0, .ofNat 0)), (0, 122, (0, .ofNat 0, .ofNat 0), (3, .ofNat 1, .ofNat 0), (0, .ofNat 0, .ofNat 0))], [(1, [(.ofNat 0, .ofNat 7)]), (2, [(.ofNat 0, .ofNat 7)]), (3, [(.ofNat 1, .ofNat 8)]), (4, [(.ofNat 0, .ofNat 1)]), (5, [(.ofNat 1, .ofNat 9)]), (6, [(.ofNat 0, .ofNat 8)]), (7, [(.ofNat 2, .ofNat 2)]), (8, [(.ofNat 0, .ofNat 1)]), (9, [(.ofNat 1, .ofNat 17)])], [((5, .ofNat 1, .ofNat 0), (6, .ofNat 1, .ofNat 0), (9, .ofNat 1, .ofNat 0)), ((5, .ofNat 1, .ofNat 0), (6, .negSucc 0, .ofNat 0), (7, .ofNat 1, .ofNat 0))], [])]
set_option maxRecDepth 1000000 in
theorem sg_aw_m_g : sg_go [] [] 3000 172 0 2 3 [(0, [(.ofNat 0, .ofNat 0)]), (1, [(.negSucc 2147483647, .ofNat 2147483647)]), (2, [(.negSucc 2147483647, .ofNat 2147483647)])] [] [] [] [(0, .inr (.inl [122])), (1, .inl (false, (1, .ofNat 1, .ofNat 0))), (2, .inl (false, (2, .ofNat 1, .ofNat 0)))] [] [] sg_aw_m_Z = true := by decide +kernel
set_option maxRecDepth 100000 in
theorem sg_aw_m {Q : Option Value × am_S → Prop} {d : Nat} {S : am_S} {L : am_L} {x1 x2 : Int} (hd : 2 ≤ d) (hP : ax_P0 none S) (l0 : lc L 0 122) (l1 : li L 1 x1) (l2 : li L 2 x2) (b1 : ((-2147483648) ≤ x1 ∧ x1 ≤ 2147483647)) (b2 : ((-2147483648) ≤ x2 ∧ x2 ≤ 2147483647))
    (k0 : ∀ (x3 : Int) (i1 : Int32), rd S 122 0 = x3 → x1 < 0 → ((-2147483648) ≤ x1 ∧ x1 ≤ (-1)) → (0 ≤ x3 ∧ x3 ≤ 8) → i1.toInt = (-1) → Q (some (.int i1), S))
    (k1 : ∀ (x3 : Int) (i1 : Int32), rd S 122 0 = x3 → 0 ≤ x1 → x3 + (-1) < x1 → (0 ≤ x1 ∧ x1 ≤ 2147483647) → (0 ≤ x3 ∧ x3 ≤ 8) → i1.toInt = (-1) → Q (some (.int i1), S))
    (k2 : ∀ (x3 : Int) (i1 : Int32), rd S 122 0 = x3 → 0 ≤ x1 → x1 ≤ x3 + (-1) → x2 < 0 → (0 ≤ x1 ∧ x1 ≤ 7) → ((-2147483648) ≤ x2 ∧ x2 ≤ (-1)) → (1 ≤ x3 ∧ x3 ≤ 8) → i1.toInt = (-1) → Q (some (.int i1), S))
    (k3 : ∀ (x3 : Int) (i1 : Int32), rd S 122 0 = x3 → 0 ≤ x1 → x1 ≤ x3 + (-1) → 0 ≤ x2 → x3 + (-1) < x2 → (0 ≤ x1 ∧ x1 ≤ 7) → (1 ≤ x2 ∧ x2 ≤ 2147483647) → (1 ≤ x3 ∧ x3 ≤ 8) → i1.toInt = (-1) → Q (some (.int i1), S))
    (k4 : ∀ (x3 x4 x5 x6 x8 : Int) (i1 : Int32), rd S 122 0 = x3 → 0 ≤ x1 → x1 ≤ x3 + (-1) → 0 ≤ x2 → x2 ≤ x3 + (-1) → rd S 124 x1 = x4 → rd S 125 x1 = x5 → rd S 125 x2 = x6 → x5 ≤ x6 → rd S 124 x2 = x8 → x4 = x8 → (0 ≤ x1 ∧ x1 ≤ 7) → (0 ≤ x2 ∧ x2 ≤ 7) → (1 ≤ x3 ∧ x3 ≤ 8) → (0 ≤ x4 ∧ x4 ≤ 1) → (0 ≤ x5 ∧ x5 ≤ 9) → (0 ≤ x6 ∧ x6 ≤ 9) → (0 ≤ x8 ∧ x8 ≤ 1) → i1.toInt = 0 → Q (some (.int i1), S))
    (k5 : ∀ (x3 x4 x5 x6 x7 x8 x9 : Int) (i1 : Int32), rd S 122 0 = x3 → 0 ≤ x1 → x1 ≤ x3 + (-1) → 0 ≤ x2 → x2 ≤ x3 + (-1) → rd S 124 x1 = x4 → rd S 125 x1 = x5 → rd S 125 x2 = x6 → x5 ≤ x6 → rd S 124 x2 = x8 → x4 ≠ x8 → x7 = 0 → x9 ≤ 0 → (0 ≤ x1 ∧ x1 ≤ 7) → (0 ≤ x2 ∧ x2 ≤ 7) → (1 ≤ x3 ∧ x3 ≤ 8) → (0 ≤ x4 ∧ x4 ≤ 1) → (0 ≤ x5 ∧ x5 ≤ 9) → (0 ≤ x6 ∧ x6 ≤ 9) → (0 ≤ x7 ∧ x7 ≤ 0) → (0 ≤ x8 ∧ x8 ≤ 1) → (0 ≤ x9 ∧ x9 ≤ 0) → x5 + x6 = x9 → x6 + ((-1) * x5 + 0) = x7 → i1.toInt = 0 → Q (some (.int i1), S))
    (k6 : ∀ (x3 x4 x5 x6 x7 x8 x9 : Int) (i1 : Int32), rd S 122 0 = x3 → 0 ≤ x1 → x1 ≤ x3 + (-1) → 0 ≤ x2 → x2 ≤ x3 + (-1) → rd S 124 x1 = x4 → rd S 125 x1 = x5 → rd S 125 x2 = x6 → x5 ≤ x6 → rd S 124 x2 = x8 → x4 ≠ x8 → x7 = 0 → 0 < x9 → (0 ≤ x1 ∧ x1 ≤ 7) → (0 ≤ x2 ∧ x2 ≤ 7) → (1 ≤ x3 ∧ x3 ≤ 8) → (0 ≤ x4 ∧ x4 ≤ 1) → (0 ≤ x5 ∧ x5 ≤ 9) → (0 ≤ x6 ∧ x6 ≤ 9) → (0 ≤ x7 ∧ x7 ≤ 0) → (0 ≤ x8 ∧ x8 ≤ 1) → (1 ≤ x9 ∧ x9 ≤ 18) → x5 + x6 = x9 → x6 + ((-1) * x5 + 0) = x7 → i1.toInt = 1 → Q (some (.int i1), S))
    (k7 : ∀ (x3 x4 x5 x6 x7 x8 : Int) (i1 : Int32), rd S 122 0 = x3 → 0 ≤ x1 → x1 ≤ x3 + (-1) → 0 ≤ x2 → x2 ≤ x3 + (-1) → rd S 124 x1 = x4 → rd S 125 x1 = x5 → rd S 125 x2 = x6 → x5 ≤ x6 → rd S 124 x2 = x8 → x4 ≠ x8 → x7 ≠ 0 → x7 ≠ 2 → (0 ≤ x1 ∧ x1 ≤ 7) → (0 ≤ x2 ∧ x2 ≤ 7) → (1 ≤ x3 ∧ x3 ≤ 8) → (0 ≤ x4 ∧ x4 ≤ 1) → (0 ≤ x5 ∧ x5 ≤ 9) → (0 ≤ x6 ∧ x6 ≤ 9) → ((-9) ≤ x7 ∧ x7 ≤ (-1)) ∨ (1 ≤ x7 ∧ x7 ≤ 1) ∨ (3 ≤ x7 ∧ x7 ≤ 9) → (0 ≤ x8 ∧ x8 ≤ 1) → x6 + ((-1) * x5 + 0) = x7 → i1.toInt = 0 → Q (some (.int i1), S))
    (k8 : ∀ (x3 x4 x5 x6 x7 x8 x9 : Int) (i1 : Int32), rd S 122 0 = x3 → 0 ≤ x1 → x1 ≤ x3 + (-1) → 0 ≤ x2 → x2 ≤ x3 + (-1) → rd S 124 x1 = x4 → rd S 125 x1 = x5 → rd S 125 x2 = x6 → x5 ≤ x6 → rd S 124 x2 = x8 → x4 ≠ x8 → x7 ≠ 0 → x7 = 2 → x9 ≤ 0 → (0 ≤ x1 ∧ x1 ≤ 7) → (0 ≤ x2 ∧ x2 ≤ 7) → (1 ≤ x3 ∧ x3 ≤ 8) → (0 ≤ x4 ∧ x4 ≤ 1) → (0 ≤ x5 ∧ x5 ≤ 9) → (0 ≤ x6 ∧ x6 ≤ 9) → (2 ≤ x7 ∧ x7 ≤ 2) → (0 ≤ x8 ∧ x8 ≤ 1) → (0 ≤ x9 ∧ x9 ≤ 0) → x5 + x6 = x9 → x6 + ((-1) * x5 + 0) = x7 → i1.toInt = 0 → Q (some (.int i1), S))
    (k9 : ∀ (x3 x4 x5 x6 x7 x8 x9 : Int) (i1 : Int32), rd S 122 0 = x3 → 0 ≤ x1 → x1 ≤ x3 + (-1) → 0 ≤ x2 → x2 ≤ x3 + (-1) → rd S 124 x1 = x4 → rd S 125 x1 = x5 → rd S 125 x2 = x6 → x5 ≤ x6 → rd S 124 x2 = x8 → x4 ≠ x8 → x7 ≠ 0 → x7 = 2 → 0 < x9 → (0 ≤ x1 ∧ x1 ≤ 7) → (0 ≤ x2 ∧ x2 ≤ 7) → (1 ≤ x3 ∧ x3 ≤ 8) → (0 ≤ x4 ∧ x4 ≤ 1) → (0 ≤ x5 ∧ x5 ≤ 9) → (0 ≤ x6 ∧ x6 ≤ 9) → (2 ≤ x7 ∧ x7 ≤ 2) → (0 ≤ x8 ∧ x8 ≤ 1) → (1 ≤ x9 ∧ x9 ≤ 18) → x5 + x6 = x9 → x6 + ((-1) * x5 + 0) = x7 → i1.toInt = 1 → Q (some (.int i1), S))
    (k10 : ∀ (x3 x4 x5 x6 x8 : Int) (i1 : Int32), rd S 122 0 = x3 → 0 ≤ x1 → x1 ≤ x3 + (-1) → 0 ≤ x2 → x2 ≤ x3 + (-1) → rd S 124 x1 = x4 → rd S 125 x1 = x5 → rd S 125 x2 = x6 → x6 < x5 → rd S 124 x2 = x8 → x4 = x8 → (0 ≤ x1 ∧ x1 ≤ 7) → (0 ≤ x2 ∧ x2 ≤ 7) → (1 ≤ x3 ∧ x3 ≤ 8) → (0 ≤ x4 ∧ x4 ≤ 1) → (1 ≤ x5 ∧ x5 ≤ 9) → (0 ≤ x6 ∧ x6 ≤ 8) → (0 ≤ x8 ∧ x8 ≤ 1) → i1.toInt = 0 → Q (some (.int i1), S))
    (k11 : ∀ (x3 x4 x5 x6 x7 x8 x9 : Int) (i1 : Int32), rd S 122 0 = x3 → 0 ≤ x1 → x1 ≤ x3 + (-1) → 0 ≤ x2 → x2 ≤ x3 + (-1) → rd S 124 x1 = x4 → rd S 125 x1 = x5 → rd S 125 x2 = x6 → x6 < x5 → rd S 124 x2 = x8 → x4 ≠ x8 → x7 = 0 → 0 < x9 → (0 ≤ x1 ∧ x1 ≤ 7) → (0 ≤ x2 ∧ x2 ≤ 7) → (1 ≤ x3 ∧ x3 ≤ 8) → (0 ≤ x4 ∧ x4 ≤ 1) → (1 ≤ x5 ∧ x5 ≤ 9) → (0 ≤ x6 ∧ x6 ≤ 8) → (0 ≤ x7 ∧ x7 ≤ 0) → (0 ≤ x8 ∧ x8 ≤ 1) → (1 ≤ x9 ∧ x9 ≤ 17) → x5 + x6 = x9 → x5 + ((-1) * x6 + 0) = x7 → i1.toInt = 1 → Q (some (.int i1), S))
    (k12 : ∀ (x3 x4 x5 x6 x7 x8 : Int) (i1 : Int32), rd S 122 0 = x3 → 0 ≤ x1 → x1 ≤ x3 + (-1) → 0 ≤ x2 → x2 ≤ x3 + (-1) → rd S 124 x1 = x4 → rd S 125 x1 = x5 → rd S 125 x2 = x6 → x6 < x5 → rd S 124 x2 = x8 → x4 ≠ x8 → x7 ≠ 0 → x7 ≠ 2 → (0 ≤ x1 ∧ x1 ≤ 7) → (0 ≤ x2 ∧ x2 ≤ 7) → (1 ≤ x3 ∧ x3 ≤ 8) → (0 ≤ x4 ∧ x4 ≤ 1) → (1 ≤ x5 ∧ x5 ≤ 9) → (0 ≤ x6 ∧ x6 ≤ 8) → ((-7) ≤ x7 ∧ x7 ≤ (-1)) ∨ (1 ≤ x7 ∧ x7 ≤ 1) ∨ (3 ≤ x7 ∧ x7 ≤ 9) → (0 ≤ x8 ∧ x8 ≤ 1) → x5 + ((-1) * x6 + 0) = x7 → i1.toInt = 0 → Q (some (.int i1), S))
    (k13 : ∀ (x3 x4 x5 x6 x7 x8 x9 : Int) (i1 : Int32), rd S 122 0 = x3 → 0 ≤ x1 → x1 ≤ x3 + (-1) → 0 ≤ x2 → x2 ≤ x3 + (-1) → rd S 124 x1 = x4 → rd S 125 x1 = x5 → rd S 125 x2 = x6 → x6 < x5 → rd S 124 x2 = x8 → x4 ≠ x8 → x7 ≠ 0 → x7 = 2 → 0 < x9 → (0 ≤ x1 ∧ x1 ≤ 7) → (0 ≤ x2 ∧ x2 ≤ 7) → (1 ≤ x3 ∧ x3 ≤ 8) → (0 ≤ x4 ∧ x4 ≤ 1) → (1 ≤ x5 ∧ x5 ≤ 9) → (0 ≤ x6 ∧ x6 ≤ 8) → (2 ≤ x7 ∧ x7 ≤ 2) → (0 ≤ x8 ∧ x8 ≤ 1) → (1 ≤ x9 ∧ x9 ≤ 17) → x5 + x6 = x9 → x5 + ((-1) * x6 + 0) = x7 → i1.toInt = 1 → Q (some (.int i1), S)) : am_V none d 172 0 L ([]) S Q := by
  refine sg_use sg_aw_m_g hd hP (sg_xs [0, x1, x2]) ⟨⟨Int.le_refl 0, Int.le_refl 0⟩, b1, b2, trivial⟩ trivial trivial trivial ⟨l0, l1, l2, trivial⟩ trivial ?_
  intro z hz x' L' st' S' hx hP' hW hL' hs' hJ hE' hT' hD'
  have q1 : x' 1 = x1 := hx 1 (by decide)
  subst q1
  have q2 : x' 2 = x2 := hx 2 (by decide)
  subst q2
  have eS : S' = S := hW.1 rfl
  subst eS
  simp only [sg_aw_m_Z, List.mem_cons, List.not_mem_nil, or_false] at hz
  rcases hz with rfl | rfl | rfl | rfl | rfl | rfl | rfl | rfl | rfl | rfl | rfl | rfl | rfl | rfl
  · obtain ⟨f0, f1, -, hσ⟩ := hJ
    obtain ⟨e0, e1, -⟩ := hE'
    intro v hv
    subst hv
    cases v with
    | none => exact hs'.elim
    | some v1 =>
      obtain ⟨⟨i1, rfl, g1⟩, -⟩ := hs'
      exact k0 (x' 3) i1 f0 f1 e0 e1 g1
  · obtain ⟨f0, f1, f2, -, hσ⟩ := hJ
    obtain ⟨e0, e1, -⟩ := hE'
    intro v hv
    subst hv
    cases v with
    | none => exact hs'.elim
    | some v1 =>
      obtain ⟨⟨i1, rfl, g1⟩, -⟩ := hs'
      exact k1 (x' 3) i1 f0 f1 f2 e0 e1 g1
  · obtain ⟨f0, f1, f2, -, -, f5, -, hσ⟩ := hJ
    obtain ⟨e0, e1, e2, -⟩ := hE'
    intro v hv
    subst hv
    cases v with
    | none => exact hs'.elim
    | some v1 =>
      obtain ⟨⟨i1, rfl, g1⟩, -⟩ := hs'
      exact k2 (x' 3) i1 f0 f1 f2 f5 e0 e1 e2 g1
  · obtain ⟨f0, f1, f2, -, -, f5, f6, -, hσ⟩ := hJ
    obtain ⟨e0, e1, e2, -⟩ := hE'
    intro v hv
    subst hv
    cases v with
    | none => exact hs'.elim
    | some v1 =>
      obtain ⟨⟨i1, rfl, g1⟩, -⟩ := hs'
      exact k3 (x' 3) i1 f0 f1 f2 f5 f6 e0 e1 e2 g1
  · obtain ⟨f0, f1, f2, -, -, f5, f6, -, f8, f9, f10, f11, -, f13, f14, -, hσ⟩ := hJ
    obtain ⟨e0, e1, e2, e3, e4, e5, e6, -⟩ := hE'
    intro v hv
    subst hv
    cases v with
    | none => exact hs'.elim
    | some v1 =>
      obtain ⟨⟨i1, rfl, g1⟩, -⟩ := hs'
      exact k4 (x' 3) (x' 4) (x' 5) (x' 6) (x' 8) i1 f0 f1 f2 f5 f6 f8 f9 f10 f11 f13 f14 e0 e1 e2 e3 e4 e5 e6 g1
  · obtain ⟨f0, f1, f2, -, -, f5, f6, -, f8, f9, f10, f11, -, f13, f14, f15, -, f17, -, hσ⟩ := hJ
    obtain ⟨e0, e1, e2, e3, e4, e5, e6, e7, e8, -⟩ := hE'
    obtain ⟨t0, t1, -⟩ := hT'
    intro v hv
    subst hv
    cases v with
    | none => exact hs'.elim
    | some v1 =>
      obtain ⟨⟨i1, rfl, g1⟩, -⟩ := hs'
      exact k5 (x' 3) (x' 4) (x' 5) (x' 6) (x' 7) (x' 8) (x' 9) i1 f0 f1 f2 f5 f6 f8 f9 f10 f11 f13 f14 f15 f17 e0 e1 e2 e3 e4 e5 e6 e7 e8 t0 t1 g1
  · obtain ⟨f0, f1, f2, -, -, f5, f6, -, f8, f9, f10, f11, -, f13, f14, f15, -, f17, -, hσ⟩ := hJ
    obtain ⟨e0, e1, e2, e3, e4, e5, e6, e7, e8, -⟩ := hE'
    obtain ⟨t0, t1, -⟩ := hT'
    intro v hv
    subst hv
    cases v with
    | none => exact hs'.elim
    | some v1 =>
      obtain ⟨⟨i1, rfl, g1⟩, -⟩ := hs'
      exact k6 (x' 3) (x' 4) (x' 5) (x' 6) (x' 7) (x' 8) (x' 9) i1 f0 f1 f2 f5 f6 f8 f9 f10 f11 f13 f14 f15 f17 e0 e1 e2 e3 e4 e5 e6 e7 e8 t0 t1 g1
  · obtain ⟨f0, f1, f2, -, -, f5, f6, -, f8, f9, f10, f11, -, f13, f14, f15, f16, -, hσ⟩ := hJ
    obtain ⟨e0, e1, e2, e3, e4, e5, e6, e7, -⟩ := hE'
    obtain ⟨t0, -⟩ := hT'
    intro v hv
    subst hv
    cases v with
    | none => exact hs'.elim
    | some v1 =>
      obtain ⟨⟨i1, rfl, g1⟩, -⟩ := hs'
      exact k7 (x' 3) (x' 4) (x' 5) (x' 6) (x' 7) (x' 8) i1 f0 f1 f2 f5 f6 f8 f9 f10 f11 f13 f14 f15 f16 e0 e1 e2 e3 e4 e5 e6 e7 t0 g1
  · obtain ⟨f0, f1, f2, -, -, f5, f6, -, f8, f9, f10, f11, -, f13, f14, f15, f16, -, f18, -, hσ⟩ := hJ
    obtain ⟨e0, e1, e2, e3, e4, e5, e6, e7, e8, -⟩ := hE'
    obtain ⟨t0, t1, -⟩ := hT'
    intro v hv
    subst hv
    cases v with
    | none => exact hs'.elim
    | some v1 =>
      obtain ⟨⟨i1, rfl, g1⟩, -⟩ := hs'
      exact k8 (x' 3) (x' 4) (x' 5) (x' 6) (x' 7) (x' 8) (x' 9) i1 f0 f1 f2 f5 f6 f8 f9 f10 f11 f13 f14 f15 f16 f18 e0 e1 e2 e3 e4 e5 e6 e7 e8 t0 t1 g1
  · obtain ⟨f0, f1, f2, -, -, f5, f6, -, f8, f9, f10, f11, -, f13, f14, f15, f16, -, f18, -, hσ⟩ := hJ
    obtain ⟨e0, e1, e2, e3, e4, e5, e6, e7, e8, -⟩ := hE'
    obtain ⟨t0, t1, -⟩ := hT'
    intro v hv
    subst hv
    cases v with
    | none => exact hs'.elim
    | some v1 =>
      obtain ⟨⟨i1, rfl, g1⟩, -⟩ := hs'
      exact k9 (x' 3) (x' 4) (x' 5) (x' 6) (x' 7) (x' 8) (x' 9) i1 f0 f1 f2 f5 f6 f8 f9 f10 f11 f13 f14 f15 f16 f18 e0 e1 e2 e3 e4 e5 e6 e7 e8 t0 t1 g1
  · obtain ⟨f0, f1, f2, -, -, f5, f6, -, f8, f9, f10, f11, -, f13, f14, -, hσ⟩ := hJ
    obtain ⟨e0, e1, e2, e3, e4, e5, e6, -⟩ := hE'
    intro v hv
    subst hv
    cases v with
    | none => exact hs'.elim
    | some v1 =>
      obtain ⟨⟨i1, rfl, g1⟩, -⟩ := hs'
      exact k10 (x' 3) (x' 4) (x' 5) (x' 6) (x' 8) i1 f0 f1 f2 f5 f6 f8 f9 f10 f11 f13 f14 e0 e1 e2 e3 e4 e5 e6 g1
  · obtain ⟨f0, f1, f2, -, -, f5, f6, -, f8, f9, f10, f11, -, f13, f14, f15, -, f17, -, hσ⟩ := hJ
    obtain ⟨e0, e1, e2, e3, e4, e5, e6, e7, e8, -⟩ := hE'
    obtain ⟨t0, t1, -⟩ := hT'
    intro v hv
    subst hv
    cases v with
    | none => exact hs'.elim
    | some v1 =>
      obtain ⟨⟨i1, rfl, g1⟩, -⟩ := hs'
      exact k11 (x' 3) (x' 4) (x' 5) (x' 6) (x' 7) (x' 8) (x' 9) i1 f0 f1 f2 f5 f6 f8 f9 f10 f11 f13 f14 f15 f17 e0 e1 e2 e3 e4 e5 e6 e7 e8 t0 t1 g1
  · obtain ⟨f0, f1, f2, -, -, f5, f6, -, f8, f9, f10, f11, -, f13, f14, f15, f16, -, hσ⟩ := hJ
    obtain ⟨e0, e1, e2, e3, e4, e5, e6, e7, -⟩ := hE'
    obtain ⟨t0, -⟩ := hT'
    intro v hv
    subst hv
    cases v with
    | none => exact hs'.elim
    | some v1 =>
      obtain ⟨⟨i1, rfl, g1⟩, -⟩ := hs'
      exact k12 (x' 3) (x' 4) (x' 5) (x' 6) (x' 7) (x' 8) i1 f0 f1 f2 f5 f6 f8 f9 f10 f11 f13 f14 f15 f16 e0 e1 e2 e3 e4 e5 e6 e7 t0 g1
  · obtain ⟨f0, f1, f2, -, -, f5, f6, -, f8, f9, f10, f11, -, f13, f14, f15, f16, -, f18, -, hσ⟩ := hJ
    obtain ⟨e0, e1, e2, e3, e4, e5, e6, e7, e8, -⟩ := hE'
    obtain ⟨t0, t1, -⟩ := hT'
    intro v hv
    subst hv
    cases v with
    | none => exact hs'.elim
    | some v1 =>
      obtain ⟨⟨i1, rfl, g1⟩, -⟩ := hs'
      exact k13 (x' 3) (x' 4) (x' 5) (x' 6) (x' 7) (x' 8) (x' 9) i1 f0 f1 f2 f5 f6 f8 f9 f10 f11 f13 f14 f15 f16 f18 e0 e1 e2 e3 e4 e5 e6 e7 e8 t0 t1 g1
def sg_gv_x0_Z : List sg_z := [(0, [], [.inl (false, (0, .ofNat 0, .negSucc 0))], [(2, 0, (0, .ofNat 0, .ofNat 0), (0, .ofNat 0, .ofNat 0), (0, .ofNat 0, .ofNat 0)), (2, 2, (1, .ofNat 1, .ofNat 0), (0, .ofNat 0, .ofNat 0), (0, .ofNat 0, .ofNat 0))], [(1, [(.negSucc 2147483647, .negSucc 0)])], [], []),
  (0, [], [.inl (false, (0, .ofNat 0, .negSucc 0))], [(2, 0, (0, .ofNat 0, .ofNat 0), (0, .ofNat 0, .ofNat 0), (0, .ofNat 0, .ofNat 0)), (2, 3, (1, .ofNat 1, .ofNat 0), (4, .ofNat 1, .ofNat 0), (0, .ofNat 0, .ofNat 0)), (0, 6, (0, .ofNat 0, .ofNat 0), (4, .ofNat 1, .ofNat 0), (0, .ofNat 0, .ofNat 0)), (2, 3, (1, .ofNat 1, .ofNat 0), (0, .ofNat 0, .ofNat 0), (0, .ofNat 0, .ofNat 0))], [(1, [(.ofNat 0, .ofNat 2147483647)]), (4, [(.ofNat 0, .ofNat 16)])], [], []),
  (0, [], [.inl (false, (0, .ofNat 0, .negSucc 0))], [(2, 0, (0, .ofNat 0, .ofNat 0), (0, .ofNat 0, .ofNat 0), (0, .ofNat 0, .ofNat 0)), (2, 2, (2, .ofNat 1, .ofNat 0), (0, .ofNat 0, .ofNat 0), (0, .ofNat 0, .ofNat 0)), (2, 1, (0, .ofNat 0, .ofNat 1), (0, .ofNat 0, .ofNat 0), (0, .ofNat 0, .ofNat 0)), (2, 2, (1, .ofNat 1, .ofNat 0), (4, .ofNat 1, .ofNat 0), (0, .ofNat 0, .ofNat 0)), (0, 6, (0, .ofNat 0, .ofNat 0), (4, .ofNat 1, .ofNat 0), (0, .ofNat 0, .ofNat 0)), (2, 3, (1, .ofNat 1, .ofNat 0), (0, .ofNat 0, .ofNat 0), (0, .ofNat 0, .ofNat 0))], [(1, [(.ofNat 0, .ofNat 15)]), (2, [(.negSucc 2147483647, .negSucc 0)]), (4, [(.ofNat 1, .ofNat 16)])], [], []),
  (0, [], [.inl (false, (0, .ofNat 0, .negSucc 0))], [(2, 0, (0, .ofNat 0, .ofNat 0), (0, .ofNat 0, .ofNat 0), (0, .ofNat 0, .ofNat 0)), (2, 3, (2, .ofNat 1, .ofNat 0), (5, .ofNat 1, .ofNat 0), (0, .ofNat 0, .ofNat 0)), (0, 1, (0, .ofNat 0, .ofNat 0), (5, .ofNat 1, .ofNat 0), (0, .ofNat 0, .ofNat 0)), (2, 3, (2, .ofNat 1, .ofNat 0), (0, .ofNat 0, .ofNat 0), (0, .ofNat 0, .ofNat 0)), (2, 1, (0, .ofNat 0, .ofNat 1), (0, .ofNat 0, .ofNat 0), (0, .ofNat 0, .ofNat 0)), (2, 2, (1, .ofNat 1, .ofNat 0), (4, .ofNat 1, .ofNat 0), (0, .ofNat 0, .ofNat 0)), (0, 6, (0, .ofNat 0, .ofNat 0), (4, .ofNat 1, .ofNat 0), (0, .ofNat 0, .ofNat 0)), (2, 3, (1, .ofNat 1, .ofNat 0), (0, .ofNat 0, .ofNat 0), (0, .ofNat 0, .ofNat 0))], [(1, [(.ofNat 0, .ofNat 15)]), (2, [(.ofNat 0, .ofNat 2147483647)]), (4, [(.ofNat 1, .ofNat 16)]), (5, [(.ofNat 0, .ofNat 8)])], [], []),
  (0, [], [.inl (false, (0, .ofNat 0, .negSucc 0))], [(2, 0, (0, .ofNat 0, .ofNat 0), (0, .ofNat 0, .ofNat 0), (0, .ofNat 0, .ofNat 0)), (2, 2, (3, .ofNat 1, .ofNat 0), (0, .ofNat 0, .ofNat 0), (0, .ofNat 0, .ofNat 0)), (2, 1, (0, .ofNat 0, .ofNat 1), (0, .ofNat 0, .ofNat 0), (0, .ofNat 0, .ofNat 0)), (2, 2, (2, .ofNat 1, .ofNat 0), (5, .ofNat 1, .ofNat 0), (0, .ofNat 0, .ofNat 0)), (0, 1, (0, .ofNat 0, .ofNat 0), (5, .ofNat 1, .ofNat 0), (0, .ofNat 0, .ofNat 0)), (2, 3, (2, .ofNat 1, .ofNat 0), (0, .ofNat 0, .ofNat 0), (0, .ofNat 0, .ofNat 0)), (2, 1, (0, .ofNat 0, .ofNat 1), (0, .ofNat 0, .ofNat 0), (0, .ofNat 0, .ofNat 0)), (2, 2, (1, .ofNat 1, .ofNat 0), (4, .ofNat 1, .ofNat 0), (0, .ofNat 0, .ofNat 0)), (0, 6, (0, .ofNat 0, .ofNat 0), (4, .ofNat 1, .ofNat 0), (0, .ofNat 0, .ofNat 0)), (2, 3, (1, .ofNat 1, .ofNat 0), (0, .ofNat 0, .ofNat 0), (0, .ofNat 0, .ofNat 0))], [(1, [(.ofNat 0, .ofNat 15)]), (2, [(.ofNat 0, .ofNat 7)]), (3, [(.negSucc 2147483647, .negSucc 0)]), (4, [(.ofNat 1, .ofNat 16)]), (5, [(.ofNat 1, .ofNat 8)])], [], []),
  (0, [], [.inl (false, (0, .ofNat 0, .negSucc 0))], [(2, 0, (0, .ofNat 0, .ofNat 0), (0, .ofNat 0, .ofNat 0), (0, .ofNat 0, .ofNat 0)), (2, 3, (3, .ofNat 1, .ofNat 0), (5, .ofNat 1, .ofNat 0), (0, .ofNat 0, .ofNat 0)), (0, 1, (0, .ofNat 0, .ofNat 0), (5, .ofNat 1, .ofNat 0), (0, .ofNat 0, .ofNat 0)), (2, 3, (3, .ofNat 1, .ofNat 0), (0, .ofNat 0, .ofNat 0), (0, .ofNat 0, .ofNat 0)), (2, 1, (0, .ofNat 0, .ofNat 1), (0, .ofNat 0, .ofNat 0), (0, .ofNat 0, .ofNat 0)), (2, 2, (2, .ofNat 1, .ofNat 0), (5, .ofNat 1, .ofNat 0), (0, .ofNat 0, .ofNat 0)), (0, 1, (0, .ofNat 0, .ofNat 0), (5, .ofNat 1, .ofNat 0), (0, .ofNat 0, .ofNat 0)), (2, 3, (2, .ofNat 1, .ofNat 0), (0, .ofNat 0, .ofNat 0), (0, .ofNat 0, .ofNat 0)), (2, 1, (0, .ofNat 0, .ofNat 1), (0, .ofNat 0, .ofNat 0), (0, .ofNat 0, .ofNat 0)), (2, 2, (1, .ofNat 1, .ofNat 0), (4, .ofNat 1, .ofNat 0), (0, .ofNat 0, .ofNat 0)), (0, 6, (0, .ofNat 0, .ofNat 0), (4, .ofNat 1, .ofNat 0), (0, .ofNat 0, .ofNat 0)), (2, 3, (1, .ofNat 1, .ofNat 0), (0, .ofNat 0, .ofNat 0), (0, .ofNat 0, .ofNat 0))], [(1, [(.ofNat 0, .ofNat 15)]), (2, [(.ofNat 0, .ofNat 7)]), (3, [(.ofNat 1, .ofNat 2147483647)]), (4, [(.ofNat 1, .ofNat 16)]), (5, [(.ofNat 1, .ofNat 8)])], [], []),
  (0, [], [.inl (false, (0, .ofNat 0, .negSucc 1))], [(2, 0, (0, .ofNat 0, .ofNat 0), (0, .ofNat 0, .ofNat 0), (0, .ofNat 0, .ofNat 0)), (2, 0, (10, .ofNat 1, .ofNat 0), (6, .ofNat 1, .ofNat 0), (0, .ofNat 0, .ofNat 0)), (0, 3, (2, .ofNat 1, .ofNat 0), (10, .ofNat 1, .ofNat 0), (0, .ofNat 0, .ofNat 0)), (2, 3, (9, .ofNat 1, .ofNat 0), (0, .ofNat 0, .ofNat 0), (0, .ofNat 0, .ofNat 0)), (0, 4, (2, .ofNat 1, .ofNat 0), (8, .ofNat 1, .ofNat 0), (0, .ofNat 0, .ofNat 0)), (0, 4, (3, .ofNat 1, .ofNat 0), (7, .ofNat 1, .ofNat 0), (0, .ofNat 0, .ofNat 0)), (0, 3, (3, .ofNat 1, .ofNat 0), (6, .ofNat 1, .ofNat 0), (0, .ofNat 0, .ofNat 0)), (2, 1, (0, .ofNat 0, .ofNat 1), (0, .ofNat 0, .ofNat 0), (0, .ofNat 0, .ofNat 0)), (2, 2, (3, .ofNat 1, .ofNat 0), (5, .ofNat 1, .ofNat 0), (0, .ofNat 0, .ofNat 0)), (0, 1, (0, .ofNat 0, .ofNat 0), (5, .ofNat 1, .ofNat 0), (0, .ofNat 0, .ofNat 0)), (2, 3, (3, .ofNat 1, .ofNat 0), (0, .ofNat 0, .ofNat 0), (0, .ofNat 0, .ofNat 0)), (2, 1, (0, .ofNat 0, .ofNat 1), (0, .ofNat 0, .ofNat 0), (0, .ofNat 0, .ofNat 0)), (2, 2, (2, .ofNat 1, .ofNat 0), (5, .ofNat 1, .ofNat 0), (0, .ofNat 0, .ofNat 0)), (0, 1, (0, .ofNat 0, .ofNat 0), (5, .ofNat 1, .ofNat 0), (0, .ofNat 0, .ofNat 0)), (2, 3, (2, .ofNat 1, .ofNat 0), (0, .ofNat 0, .ofNat 0), (0, .ofNat 0, .ofNat 0)), (2, 1, (0, .ofNat 0, .ofNat 1), (0, .ofNat 0, .ofNat 0), (0, .ofNat 0, .ofNat 0)), (2, 2, (1, .ofNat 1, .ofNat 0), (4, .ofNat 1, .ofNat 0), (0, .ofNat 0, .ofNat 0)), (0, 6, (0, .ofNat 0, .ofNat 0), (4, .ofNat 1, .ofNat 0), (0, .ofNat 0, .ofNat 0)), (2, 3, (1, .ofNat 1, .ofNat 0), (0, .ofNat 0, .ofNat 0), (0, .ofNat 0, .ofNat 0))], [(1, [(.ofNat 0, .ofNat 15)]), (2, [(.ofNat 0, .ofNat 7)]), (3, [(.ofNat 0, .ofNat 7)]), (4, [(.ofNat 1, .ofNat 16)]), (5, [(.ofNat 1, .ofNat 8)]), (6, [(.ofNat 0, .ofNat 1)]), (7, [(.ofNat 0, .ofNat 9)]), (8, [(.ofNat 0, .ofNat 9)]), (9, [(.ofNat 0, .ofNat 9)]), (10, [(.ofNat 0, .ofNat 1)])], [((8, .ofNat 1, .ofNat 0), (7, .negSucc 0, .ofNat 0), (9, .ofNat 1, .ofNat 0))], []),
  (0, [], [.inl (false, (0, .ofNat 0, .negSucc 1))], [(2, 0, (0, .ofNat 0, .ofNat 0), (0, .ofNat 0, .ofNat 0), (0, .ofNat 0, .ofNat 0)), (2, 5, (11, .ofNat 1, .ofNat 0), (0, .ofNat 0, .ofNat 0), (0, .ofNat 0, .ofNat 0)), (0, 4, (2, .ofNat 1, .ofNat 0), (8, .ofNat 1, .ofNat 0), (0, .ofNat 0, .ofNat 0)), (2, 0, (9, .ofNat 1, .ofNat 0), (0, .ofNat 0, .ofNat 0), (0, .ofNat 0, .ofNat 0)), (2, 1, (10, .ofNat 1, .ofNat 0), (6, .ofNat 1, .ofNat 0), (0, .ofNat 0, .ofNat 0)), (0, 3, (2, .ofNat 1, .ofNat 0), (10, .ofNat 1, .ofNat 0), (0, .ofNat 0, .ofNat 0)), (2, 3, (9, .ofNat 1, .ofNat 0), (0, .ofNat 0, .ofNat 0), (0, .ofNat 0, .ofNat 0)), (0, 4, (2, .ofNat 1, .ofNat 0), (8, .ofNat 1, .ofNat 0), (0, .ofNat 0, .ofNat 0)), (0, 4, (3, .ofNat 1, .ofNat 0), (7, .ofNat 1, .ofNat 0), (0, .ofNat 0, .ofNat 0)), (0, 3, (3, .ofNat 1, .ofNat 0), (6, .ofNat 1, .ofNat 0), (0, .ofNat 0, .ofNat 0)), (2, 1, (0, .ofNat 0, .ofNat 1), (0, .ofNat 0, .ofNat 0), (0, .ofNat 0, .ofNat 0)), (2, 2, (3, .ofNat 1, .ofNat 0), (5, .ofNat 1, .ofNat 0), (0, .ofNat 0, .ofNat 0)), (0, 1, (0, .ofNat 0, .ofNat 0), (5, .ofNat 1, .ofNat 0), (0, .ofNat 0, .ofNat 0)), (2, 3, (3, .ofNat 1, .ofNat 0), (0, .ofNat 0, .ofNat 0), (0, .ofNat 0, .ofNat 0)), (2, 1, (0, .ofNat 0, .ofNat 1), (0, .ofNat 0, .ofNat 0), (0, .ofNat 0, .ofNat 0)), (2, 2, (2, .ofNat 1, .ofNat 0), (5, .ofNat 1, .ofNat 0), (0, .ofNat 0, .ofNat 0)), (0, 1, (0, .ofNat 0, .ofNat 0), (5, .ofNat 1, .ofNat 0), (0, .ofNat 0, .ofNat 0)), (2, 3, (2, .ofNat 1, .ofNat 0), (0, .ofNat 0, .ofNat 0), (0, .ofNat 0, .ofNat 0)), (2, 1, (0, .ofNat 0, .ofNat 1), (0, .ofNat 0, .ofNat 0), (0, .ofNat 0, .ofNat 0)), (2, 2, (1, .ofNat 1, .ofNat 0), (4, .ofNat 1, .ofNat 0), (0, .ofNat 0, .ofNat 0)), (0, 6, (0, .ofNat 0, .ofNat 0), (4, .ofNat 1, .ofNat 0), (0, .ofNat 0, .ofNat 0)), (2, 3, (1, .ofNat 1, .ofNat 0), (0, .ofNat 0, .ofNat 0), (0, .ofNat 0, .ofNat 0))], [(1, [(.ofNat 0, .ofNat 15)]), (2, [(.ofNat 0, .ofNat 7)]), (3, [(.ofNat 0, .ofNat 7)]), (4, [(.ofNat 1, .ofNat 16)]), (5, [(.ofNat 1, .ofNat 8)]), (6, [(.ofNat 0, .ofNat 1)]), (7, [(.ofNat 0, .ofNat 9)]), (8, [(.ofNat 0, .ofNat 9)]), (9, [(.ofNat 0, .ofNat 0)]), (10, [(.ofNat 0, .ofNat 1)]), (11, [(.ofNat 0, .ofNat 0)])], [((8, .ofNat 1, .ofNat 0), (7, .ofNat 1, .ofNat 0), (11, .ofNat 1, .ofNat 0)), ((8, .ofNat 1, .ofNat 0), (7, .negSucc 0, .ofNat 0), (9, .ofNat 1, .ofNat 0))], []),
  (63, [(0, .inr (.inl [0])), (1, .inl (false, (1, .ofNat 1, .ofNat 0))), (2, .inl (false, (2, .ofNat 1, .ofNat 0))), (3, .inl (false, (3, .ofNat 1, .ofNat 0)))], [.inr (.inl [6]), .inr (.inl [1]), .inr (.inl [71])], [(2, 1, (0, .ofNat 0, .ofNat 1), (0, .ofNat 0, .ofNat 0), (0, .ofNat 0, .ofNat 0)), (2, 4, (11, .ofNat 1, .ofNat 0), (0, .ofNat 0, .ofNat 0), (0, .ofNat 0, .ofNat 0)), (0, 4, (2, .ofNat 1, .ofNat 0), (8, .ofNat 1, .ofNat 0), (0, .ofNat 0, .ofNat 0)), (2, 0, (9, .ofNat 1, .ofNat 0), (0, .ofNat 0, .ofNat 0), (0, .ofNat 0, .ofNat 0)), (2, 1, (10, .ofNat 1, .ofNat 0), (6, .ofNat 1, .ofNat 0), (0, .ofNat 0, .ofNat 0)), (0, 3, (2, .ofNat 1, .ofNat 0), (10, .ofNat 1, .ofNat 0), (0, .ofNat 0, .ofNat 0)), (2, 3, (9, .ofNat 1, .ofNat 0), (0, .ofNat 0, .ofNat 0), (0, .ofNat 0, .ofNat 0)), (0, 4, (2, .ofNat 1, .ofNat 0), (8, .ofNat 1, .ofNat 0), (0, .ofNat 0, .ofNat 0)), (0, 4, (3, .ofNat 1, .ofNat 0), (7, .ofNat 1, .ofNat 0), (0, .ofNat 0, .ofNat 0)), (0, 3, (3, .ofNat 1, .ofNat 0), (6, .ofNat 1, .ofNat 0), (0, .ofNat 0, .ofNat 0)), (2, 1, (0, .ofNat 0, .ofNat 1), (0, .ofNat 0, .ofNat 0), (0, .ofNat 0, .ofNat 0)), (2, 2, (3, .ofNat 1, .ofNat 0), (5, .ofNat 1, .ofNat 0), (0, .ofNat 0, .ofNat 0)), (0, 1, (0, .ofNat 0, .ofNat 0), (5, .ofNat 1, .ofNat 0), (0, .ofNat 0, .ofNat 0)), (2, 3, (3, .ofNat 1, .ofNat 0), (0, .ofNat 0, .ofNat 0), (0, .ofNat 0, .ofNat 0)), (2, 1, (0, .ofNat 0, .ofNat 1), (0, .ofNat 0, .ofNat 0), (0, .ofNat 0, .ofNat 0)), (2, 2, (2, .ofNat 1, .ofNat 0), (5, .ofNat 1, .ofNat 0), (0, .ofNat 0, .ofNat 0)), (0, 1, (0, .ofNat 0, .ofNat 0), (5, .ofNat 1, .ofNat 0), (0, .ofNat 0, .ofNat 0)), (2, 3, (2, .ofNat 1, .ofNat 0), (0, .ofNat 0, .ofNat 0), (0, .ofNat 0, .ofNat 0)), (2, 1, (0, .ofNat 0, .ofNat 1), (0, .ofNat 0, .ofNat 0), (0, .ofNat 0, .ofNat 0)), (2, 2, (1, .ofNat 1, .ofNat 0), (4, .ofNat 1, .ofNat 0), (0, .ofNat 0, .ofNat 0)), (0, 6, (0, .ofNat 0, .ofNat 0), (4, .ofNat 1, .ofNat 0), (0, .ofNat 0, .ofNat 0)), (2, 3, (1, .ofNat 1, .ofNat 0), (0, .ofNat 0, .ofNat 0), (0, .ofNat 0, .ofNat 0))], [(1, [(.ofNat 0, .ofNat 15)]), (2, [(.ofNat 0, .ofNat 7)]), (3, [(.ofNat 0, .ofNat 7)]), (4, [(.ofNat 1, .ofNat 16)]), (5, [(.ofNat 1, .ofNat 8)]), (6, [(.ofNat 0, .ofNat 1)]), (7, [(.ofNat 0, .ofNat 9)]), (8, [(.ofNat 0, .ofNat 9)]), (9, [(.ofNat 0, .ofNat 0)]), (10, [(.ofNat 0, .ofNat 1)]), (11, [(.ofNat 1, .ofNat 18)])], [((8, .ofNat 1, .ofNat 0), (7, .ofNat 1, .ofNat 0), (11, .ofNat 1, .ofNat 0)), ((8, .ofNat 1, .ofNat 0), (7, .negSucc 0, .ofNat 0), (9, .ofNat 1, .ofNat 0))], []),
  (0, [], [.inl (false, (0, .ofNat 0, .negSucc 1))], [(2, 0, (0, .ofNat 0, .ofNat 0), (0, .ofNat 0, .ofNat 0), (0, .ofNat 0, .ofNat 0)), (2, 1, (9, .ofNat 1, .ofNat 0), (0, .ofNat 0, .ofNat 2), (0, .ofNat 0, .ofNat 0)), (2, 1, (9, .ofNat 1, .ofNat 0), (0, .ofNat 0, .ofNat 0), (0, .ofNat 0, .ofNat 0)), (2, 1, (10, .ofNat 1, .ofNat 0), (6, .ofNat 1, .ofNat 0), (0, .ofNat 0, .ofNat 0)), (0, 3, (2, .ofNat 1, .ofNat 0), (10, .ofNat 1, .ofNat 0), (0, .ofNat 0, .ofNat 0)), (2, 3, (9, .ofNat 1, .ofNat 0), (0, .ofNat 0, .ofNat 0), (0, .ofNat 0, .ofNat 0)), (0, 4, (2, .ofNat 1, .ofNat 0), (8, .ofNat 1, .ofNat 0), (0, .ofNat 0, .ofNat 0)), (0, 4, (3, .ofNat 1, .ofNat 0), (7, .ofNat 1, .ofNat 0), (0, .ofNat 0, .ofNat 0)), (0, 3, (3, .ofNat 1, .ofNat 0), (6, .ofNat 1, .ofNat 0), (0, .ofNat 0, .ofNat 0)), (2, 1, (0, .ofNat 0, .ofNat 1), (0, .ofNat 0, .ofNat 0), (0, .ofNat 0, .ofNat 0)), (2, 2, (3, .ofNat 1, .ofNat 0), (5, .ofNat 1, .ofNat 0), (0, .ofNat 0, .ofNat 0)), (0, 1, (0, .ofNat 0, .ofNat 0), (5, .ofNat 1, .ofNat 0), (0, .ofNat 0, .ofNat 0)), (2, 3, (3, .ofNat 1, .ofNat 0), (0, .ofNat 0, .ofNat 0), (0, .ofNat 0, .ofNat 0)), (2, 1, (0, .ofNat 0, .ofNat 1), (0, .ofNat 0, .ofNat 0), (0, .ofNat 0, .ofNat 0)), (2, 2, (2, .ofNat 1, .ofNat 0), (5, .ofNat 1, .ofNat 0), (0, .ofNat 0, .ofNat 0)), (0, 1, (0, .ofNat 0, .ofNat 0), (5, .ofNat 1, .ofNat 0), (0, .ofNat 0, .ofNat 0)), (2, 3, (2, .ofNat 1, .ofNat 0), (0, .ofNat 0, .ofNat 0), (0, .ofNat 0, .ofNat 0)), (2, 1, (0, .ofNat 0, .ofNat 1), (0, .ofNat 0, .ofNat 0), (0, .ofNat 0, .ofNat 0)), (2, 2, (1, .ofNat 1, .ofNat 0), (4, .ofNat 1, .ofNat 0), (0, .ofNat 0, .ofNat 0)), (0, 6, (0, .ofNat 0, .ofNat 0), (4, .ofNat 1, .ofNat 0), (0, .ofNat 0, .ofNat 0)), (2, 3, (1, .ofNat 1, .ofNat 0), (0, .ofNat 0, .ofNat 0), (0, .ofNat 0, .ofNat 0))], [(1, [(.ofNat 0, .ofNat 15)]), (2, [(.ofNat 0, .ofNat 7)]), (3, [(.ofNat 0, .ofNat 7)]), (4, [(.ofNat 1, .ofNat 16)]), (5, [(.ofNat 1, .ofNat 8)]), (6, [(.ofNat 0, .ofNat 1)]), (7, [(.ofNat 0, .ofNat 9)]), (8, [(.ofNat 0, .ofNat 9)]), (9, [(.ofNat 1, .ofNat 1), (.ofNat 3, .ofNat 9)]), (10, [(.ofNat 0, .ofNat 1)])], [((8, .ofNat 1, .ofNat 0), (7, .negSucc 0, .ofNat 0), (9, .ofNat 1, .ofNat 0))], []),
  (0, [], [.inl (false, (0, .ofNat 0, .negSucc 1))], [(2, 0, (0, .ofNat 0, .ofNat 0), (0, .ofNat 0, .ofNat 0), (0, .ofNat 0, .ofNat 0)), (2, 5, (11, .ofNat 1, .ofNat 0), (0, .ofNat 0, .ofNat 0), (0, .ofNat 0, .ofNat 0)), (0, 4, (2, .ofNat 1, .ofNat 0), (8, .ofNat 1, .ofNat 0), (0, .ofNat 0, .ofNat 0)), (2, 0, (9, .ofNat 1, .ofNat 0), (0, .ofNat 0, .ofNat 2), (0, .ofNat 0, .ofNat 0)), (2, 1, (9, .ofNat 1, .ofNat 0), (0, .ofNat 0, .ofNat 0), (0, .ofNat 0, .ofNat 0)), (2, 1, (10, .ofNat 1, .ofNat 0), (6, .ofNat 1, .ofNat 0), (0, .ofNat 0, .ofNat 0)), (0, 3, (2, .ofNat 1, .ofNat 0), (10, .ofNat 1, .ofNat 0), (0, .ofNat 0, .ofNat 0)), (2, 3, (9, .ofNat 1, .ofNat 0), (0, .ofNat 0, .ofNat 0), (0, .ofNat 0, .ofNat 0)), (0, 4, (2, .ofNat 1, .ofNat 0), (8, .ofNat 1, .ofNat 0), (0, .ofNat 0, .ofNat 0)), (0, 4, (3, .ofNat 1, .ofNat 0), (7, .ofNat 1, .ofNat 0), (0, .ofNat 0, .ofNat 0)), (0, 3, (3, .ofNat 1, .ofNat 0), (6, .ofNat 1, .ofNat 0), (0, .ofNat 0, .ofNat 0)), (2, 1, (0, .ofNat 0, .ofNat 1), (0, .ofNat 0, .ofNat 0), (0, .ofNat 0, .ofNat 0)), (2, 2, (3, .ofNat 1, .ofNat 0), (5, .ofNat 1, .ofNat 0), (0, .ofNat 0, .ofNat 0)), (0, 1, (0, .ofNat 0, .ofNat 0), (5, .ofNat 1, .ofNat 0), (0, .ofNat 0, .ofNat 0)), (2, 3, (3, .ofNat 1, .ofNat 0), (0, .ofNat 0, .ofNat 0), (0, .ofNat 0, .ofNat 0)), (2, 1, (0, .ofNat 0, .ofNat 1), (0, .ofNat 0, .ofNat 0), (0, .ofNat 0, .ofNat 0)), (2, 2, (2, .ofNat 1, .ofNat 0), (5, .ofNat 1, .ofNat 0), (0, .ofNat 0, .ofNat 0)), (0, 1, (0, .ofNat 0, .ofNat 0), (5, .ofNat 1, .ofNat 0), (0, .ofNat 0, .ofNat 0)), (2, 3, (2, .ofNat 1, .ofNat 0), (0, .ofNat 0, .ofNat 0), (0, .ofNat 0, .ofNat 0)), (2, 1, (0, .ofNat 0, .ofNat 1), (0, .ofNat 0, .ofNat 0), (0, .ofNat 0, .ofNat 0)), (2, 2, (1, .ofNat 1, .ofNat 0), (4, .ofNat 1, .ofNat 0), (0, .ofNat 0, .ofNat 0)), (0, 6, (0, .ofNat 0, .ofNat 0), (4, .ofNat 1, .ofNat 0), (0, .ofNat 0, .ofNat 0)), (2, 3, (1, .ofNat 1, .ofNat 0), (0, .ofNat 0, .ofNat 0), (0, .ofNat 0, .ofNat 0))], [(1, [(.ofNat 0, .ofNat 15)]), (2, [(.ofNat 0, .ofNat 7)]), (3, [(.ofNat 0, .ofNat 7)]), (4, [(.ofNat 1, .ofNat 16)]), (5, [(.ofNat 1, .ofNat 8)]), (6, [(.ofNat 0, .ofNat 1)]), (7, [(.ofNat 0, .ofNat 9)]), (8, [(.ofNat 0, .ofNat 9)]), (9, [(.ofNat 2, .ofNat 2)]), (10, [(.ofNat 0, .ofNat 1)]), (11, [(.ofNat 0, .ofNat 0)])], [((8, .ofNat 1, .ofNat 0), (7, .ofNat 1, .ofNat 0), (11, .ofNat 1, .ofNat 0)), ((8, .ofNat 1, .ofNat 0), (7, .negSucc 0, .ofNat 0), (9, .ofNat 1, .ofNat 0))], []),
  (63, [(0, .inr (.inl [0])), (1, .inl (false, (1, .ofNat 1, .ofNat 0))), (2, .inl (false, (2, .ofNat 1, .ofNat 0))), (3, .inl (false, (3, .ofNat 1, .ofNat 0)))], [.inr (.inl [6]), .inr (.inl [1]), .inr (.inl [71])], [(2, 1, (0, .ofNat 0, .ofNat 1), (0, .ofNat 0, .ofNat 0), (0, .ofNat 0, .ofNat 0)), (2, 4, (11, .ofNat 1, .ofNat 0), (0, .ofNat 0, .ofNat 0), (0, .ofNat 0, .ofNat 0)), (0, 4, (2, .ofNat 1, .ofNat 0), (8, .ofNat 1, .ofNat 0), (0, .ofNat 0, .ofNat 0)), (2, 0, (9, .ofNat 1, .ofNat 0), (0, .ofNat 0, .ofNat 2), (0, .ofNat 0, .ofNat 0)), (2, 1, (9, .ofNat 1, .ofNat 0), (0, .ofNat 0, .ofNat 0), (0, .ofNat 0, .ofNat 0)), (2, 1, (10, .ofNat 1, .ofNat 0), (6, .ofNat 1, .ofNat 0), (0, .ofNat 0, .ofNat 0)), (0, 3, (2, .ofNat 1, .ofNat 0), (10, .ofNat 1, .ofNat 0), (0, .ofNat 0, .ofNat 0)), (2, 3, (9, .ofNat 1, .ofNat 0), (0, .ofNat 0, .ofNat 0), (0, .ofNat 0, .ofNat 0)), (0, 4, (2, .ofNat 1, .ofNat 0), (8, .ofNat 1, .ofNat 0), (0, .ofNat 0, .ofNat 0)), (0, 4, (3, .ofNat 1, .ofNat 0), (7, .ofNat 1, .ofNat 0), (0, .ofNat 0, .ofNat 0)), (0, 3, (3, .ofNat 1, .ofNat 0), (6, .ofNat 1, .ofNat 0), (0, .ofNat 0, .ofNat 0)), (2, 1, (0, .ofNat 0, .ofNat 1), (0, .ofNat 0, .ofNat 0), (0, .ofNat 0, .ofNat 0)), (2, 2, (3, .ofNat 1, .ofNat 0), (5, .ofNat 1, .ofNat 0), (0, .ofNat 0, .ofNat 0)), (0, 1, (0, .ofNat 0, .ofNat 0), (5, .ofNat 1, .ofNat 0), (0, .ofNat 0, .ofNat 0)), (2, 3, (3, .ofNat 1, .ofNat 0), (0, .ofNat 0, .ofNat 0), (0, .ofNat 0, .ofNat 0)), (2, 1, (0, .ofNat 0, .ofNat 1), (0, .ofNat 0, .ofNat 0), (0, .ofNat 0, .ofNat 0)), (2, 2, (2, .ofNat 1, .ofNat 0), (5, .ofNat 1, .ofNat 0), (0, .ofNat 0, .ofNat 0)), (0, 1, (0, .ofNat 0, .ofNat 0), (5, .ofNat 1, .ofNat 0), (0, .ofNat 0, .ofNat 0)), (2, 3, (2, .ofNat 1, .ofNat 0), (0, .ofNat 0, .ofNat 0), (0, .ofNat 0, .ofNat 0)), (2, 1, (0, .ofNat 0, .ofNat 1), (0, .ofNat 0, .ofNat 0), (0, .ofNat 0, .ofNat 0)), (2, 2, (1, .ofNat 1, .ofNat 0), (4, .ofNat 1, .ofNat 0), (0, .ofNat 0, .ofNat 0)), (0, 6, (0, .ofNat 0, .ofNat 0), (4, .ofNat 1, .ofNat 0), (0, .ofNat 0, .ofNat 0)), (2, 3, (1, .ofNat 1, .ofNat 0), (0, .ofNat 0, .ofNat 0), (0, .ofNat 0, .ofNat 0))], [(1, [(.ofNat 0, .ofNat 15)]), (2, [(.ofNat 0, .ofNat 7)]), (3, [(.ofNat 0, .ofNat 7)]), (4, [(.ofNat 1, .ofNat 16)]), (5, [(.ofNat 1, .ofNat 8)]), (6, [(.ofNat 0, .ofNat 1)]), (7, [(.ofNat 0, .ofNat 9)]), (8, [(.ofNat 0, .ofNat 9)]), (9, [(.ofNat 2, .ofNat 2)]), (10, [(.ofNat 0, .ofNat 1)]), (11, [(.ofNat 1, .ofNat 18)])], [((8, .ofNat 1, .ofNat 0), (7, .ofNat 1, .ofNat 0), (11, .ofNat 1, .ofNat 0)), ((8, .ofNat 1, .ofNat 0), (7, .negSucc 0, .ofNat 0), (9, .ofNat 1, .ofNat 0))], []),
  (0, [], [.inl (false, (0, .ofNat 0, .negSucc 1))], [(2, 0, (0, .ofNat 0, .ofNat 0), (0, .ofNat 0, .ofNat 0), (0, .ofNat 0, .ofNat 0)), (2, 0, (10, .ofNat 1, .ofNat 0), (6, .ofNat 1, .ofNat 0), (0, .ofNat 0, .ofNat 0)), (0, 3, (2, .ofNat 1, .ofNat 0), (10, .ofNat 1, .ofNat 0), (0, .ofNat 0, .ofNat 0)), (2, 2, (9, .ofNat 1, .ofNat 0), (0, .ofNat 0, .ofNat 0), (0, .ofNat 0, .ofNat 0)), (0, 4, (2, .ofNat 1, .ofNat 0), (8, .ofNat 1, .ofNat 0), (0, .ofNat 0, .ofNat 0)), (0, 4, (3, .ofNat 1, .ofNat 0), (7, .ofNat 1, .ofNat 0), (0, .ofNat 0, .ofNat 0)), (0, 3, (3, .ofNat 1, .ofNat 0), (6, .ofNat 1, .ofNat 0), (0, .ofNat 0, .ofNat 0)), (2, 1, (0, .ofNat 0, .ofNat 1), (0, .ofNat 0, .ofNat 0), (0, .ofNat 0, .ofNat 0)), (2, 2, (3, .ofNat 1, .ofNat 0), (5, .ofNat 1, .ofNat 0), (0, .ofNat 0, .ofNat 0)), (0, 1, (0, .ofNat 0, .ofNat 0), (5, .ofNat 1, .ofNat 0), (0, .ofNat 0, .ofNat 0)), (2, 3, (3, .ofNat 1, .ofNat 0), (0, .ofNat 0, .ofNat 0), (0, .ofNat 0, .ofNat 0)), (2, 1, (0, .ofNat 0, .ofNat 1), (0, .ofNat 0, .ofNat 0), (0, .ofNat 0, .ofNat 0)), (2, 2, (2, .ofNat 1, .ofNat 0), (5, .ofNat 1, .ofNat 0), (0, .ofNat 0, .ofNat 0)), (0, 1, (0, .ofNat 0, .ofNat 0), (5, .ofNat 1, .ofNat 0), (0, .ofNat 0, .ofNat 0)), (2, 3, (2, .ofNat 1, .ofNat 0), (0, .ofNat 0, .ofNat 0), (0, .ofNat 0, .ofNat 0)), (2, 1, (0, .ofNat 0, .ofNat 1), (0, .ofNat 0, .ofNat 0), (0, .ofNat 0, .ofNat 0)), (2, 2, (1, .ofNat 1, .ofNat 0), (4, .ofNat 1, .ofNat 0), (0, .ofNat 0, .ofNat 0)), (0, 6, (0, .ofNat 0, .ofNat 0), (4, .ofNat 1, .ofNat 0), (0, .ofNat 0, .ofNat 0)), (2, 3, (1, .ofNat 1, .ofNat 0), (0, .ofNat 0, .ofNat 0), (0, .ofNat 0, .ofNat 0))], [(1, [(.ofNat 0, .ofNat 15)]), (2, [(.ofNat 0, .ofNat 7)]), (3, [(.ofNat 0, .ofNat 7)]), (4, [(.ofNat 1, .ofNat 16)]), (5, [(.ofNat 1, .ofNat 8)]), (6, [(.ofNat 0, .ofNat 1)]), (7, [(.ofNat 0, .ofNat 9)]), (8, [(.ofNat 0, .ofNat 9)]), (9, [(.negSucc 8, .negSucc 0)]), (10, [(.ofNat 0, .ofNat 1)])], [((8, .ofNat 1, .ofNat 0), (7, .negSucc 0, .ofNat 0), (9, .ofNat 1, .ofNat 0))], []),
  (0, [], [.inl (false, (0, .ofNat 0, .negSucc 1))], [(2, 0, (0, .ofNat 0, .ofNat 0), (0, .ofNat 0, .ofNat 0), (0, .ofNat 0, .ofNat 0)), (2, 1, (9, .negSucc 0, .ofNat 0), (0, .ofNat 0, .ofNat 2), (0, .ofNat 0, .ofNat 0)), (2, 1, (9, .negSucc 0, .ofNat 0), (0, .ofNat 0, .ofNat 0), (0, .ofNat 0, .ofNat 0)), (2, 1, (10, .ofNat 1, .ofNat 0), (6, .ofNat 1, .ofNat 0), (0, .ofNat 0, .ofNat 0)), (0, 3, (2, .ofNat 1, .ofNat 0), (10, .ofNat 1, .ofNat 0), (0, .ofNat 0, .ofNat 0)), (2, 2, (9, .ofNat 1, .ofNat 0), (0, .ofNat 0, .ofNat 0), (0, .ofNat 0, .ofNat 0)), (0, 4, (2, .ofNat 1, .ofNat 0), (8, .ofNat 1, .ofNat 0), (0, .ofNat 0, .ofNat 0)), (0, 4, (3, .ofNat 1, .ofNat 0), (7, .ofNat 1, .ofNat 0), (0, .ofNat 0, .ofNat 0)), (0, 3, (3, .ofNat 1, .ofNat 0), (6, .ofNat 1, .ofNat 0), (0, .ofNat 0, .ofNat 0)), (2, 1, (0, .ofNat 0, .ofNat 1), (0, .ofNat 0, .ofNat 0), (0, .ofNat 0, .ofNat 0)), (2, 2, (3, .ofNat 1, .ofNat 0), (5, .ofNat 1, .ofNat 0), (0, .ofNat 0, .ofNat 0)), (0, 1, (0, .ofNat 0, .ofNat 0), (5, .ofNat 1, .ofNat 0), (0, .ofNat 0, .ofNat 0)), (2, 3, (3, .ofNat 1, .ofNat 0), (0, .ofNat 0, .ofNat 0), (0, .ofNat 0, .ofNat 0)), (2, 1, (0, .ofNat 0, .ofNat 1), (0, .ofNat 0, .ofNat 0), (0, .ofNat 0, .ofNat 0)), (2, 2, (2, .ofNat 1, .ofNat 0), (5, .ofNat 1, .ofNat 0), (0, .ofNat 0, .ofNat 0)), (0, 1, (0, .ofNat 0, .ofNat 0), (5, .ofNat 1, .ofNat 0), (0, .ofNat 0, .ofNat 0)), (2, 3, (2, .ofNat 1, .ofNat 0), (0, .ofNat 0, .ofNat 0), (0, .ofNat 0, .ofNat 0)), (2, 1, (0, .ofNat 0, .ofNat 1), (0, .ofNat 0, .ofNat 0), (0, .ofNat 0, .ofNat 0)), (2, 2, (1, .ofNat 1, .ofNat 0), (4, .ofNat 1, .ofNat 0), (0, .ofNat 0, .ofNat 0)), (0, 6, (0, .ofNat 0, .ofNat 0), (4, .ofNat 1, .ofNat 0), (0, .ofNat 0, .ofNat 0)), (2, 3, (1, .ofNat 1, .ofNat 0), (0, .ofNat 0, .ofNat 0), (0, .ofNat 0, .ofNat 0))], [(1, [(.ofNat 0, .ofNat 15)]), (2, [(.ofNat 0, .ofNat 7)]), (3, [(.ofNat 0, .ofNat 7)]), (4, [(.ofNat 1, .ofNat 16)]), (5, [(.ofNat 1, .ofNat 8)]), (6, [(.ofNat 0, .ofNat 1)]), (7, [(.ofNat 0, .ofNat 9)]), (8, [(.ofNat 0, .ofNat 9)]), (9, [(.negSucc 8, .negSucc 2), (.negSucc 0, .negSucc 0)]), (10, [(.ofNat 0, .ofNat 1)])], [((8, .ofNat 1, .ofNat 0), (7, .negSucc 0, .ofNat 0), (9, .ofNat 1, .ofNat 0))], []),
  (0, [], [.inl (false, (0, .ofNat 0, .negSucc 1))], [(2, 0, (0, .ofNat 0, .ofNat 0), (0, .ofNat 0, .ofNat 0), (0, .ofNat 0, .ofNat 0)), (2, 5, (11, .ofNat 1, .ofNat 0), (0, .ofNat 0, .ofNat 0), (0, .ofNat 0, .ofNat 0)), (0, 4, (2, .ofNat 1, .ofNat 0), (8, .ofNat 1, .ofNat 0), (0, .ofNat 0, .ofNat 0)), (2, 0, (9, .negSucc 0, .ofNat 0), (0, .ofNat 0, .ofNat 2), (0, .ofNat 0, .ofNat 0)), (2, 1, (9, .negSucc 0, .ofNat 0), (0, .ofNat 0, .ofNat 0), (0, .ofNat 0, .ofNat 0)), (2, 1, (10, .ofNat 1, .ofNat 0), (6, .ofNat 1, .ofNat 0), (0, .ofNat 0, .ofNat 0)), (0, 3, (2, .ofNat 1, .ofNat 0), (10, .ofNat 1, .ofNat 0), (0, .ofNat 0, .ofNat 0)), (2, 2, (9, .ofNat 1, .ofNat 0), (0, .ofNat 0, .ofNat 0), (0, .ofNat 0, .ofNat 0)), (0, 4, (2, .ofNat 1, .ofNat 0), (8, .ofNat 1, .ofNat 0), (0, .ofNat 0, .ofNat 0)), (0, 4, (3, .ofNat 1, .ofNat 0), (7, .ofNat 1, .ofNat 0), (0, .ofNat 0, .ofNat 0)), (0, 3, (3, .ofNat 1, .ofNat 0), (6, .ofNat 1, .ofNat 0), (0, .ofNat 0, .ofNat 0)), (2, 1, (0, .ofNat 0, .ofNat 1), (0, .ofNat 0, .ofNat 0), (0, .ofNat 0, .ofNat 0)), (2, 2, (3, .ofNat 1, .ofNat 0), (5, .ofNat 1, .ofNat 0), (0, .ofNat 0, .ofNat 0)), (0, 1, (0, .ofNat 0, .ofNat 0), (5, .ofNat 1, .ofNat 0), (0, .ofNat 0, .ofNat 0)), (2, 3, (3, .ofNat 1, .ofNat 0), (0, .ofNat 0, .ofNat 0), (0, .ofNat 0, .ofNat 0)), (2, 1, (0, .ofNat 0, .ofNat 1), (0, .ofNat 0, .ofNat 0), (0, .ofNat 0, .ofNat 0)), (2, 2, (2, .ofNat 1, .ofNat 0), (5, .ofNat 1, .ofNat 0), (0, .ofNat 0, .ofNat 0)), (0, 1, (0, .ofNat 0, .ofNat 0), (5, .ofNat 1, .ofNat 0), (0, .ofNat 0, .ofNat 0)), (2, 3, (2, .ofNat 1, .ofNat 0), (0, .ofNat 0, .ofNat 0), (0, .ofNat 0, .ofNat 0)), (2, 1, (0, .ofNat 0, .ofNat 1), (0, .ofNat 0, .ofNat 0), (0, .ofNat 0, .ofNat 0)), (2, 2, (1, .ofNat 1, .ofNat 0), (4, .ofNat 1, .ofNat 0), (0, .ofNat 0, .ofNat 0)), (0, 6, (0, .ofNat 0, .ofNat 0), (4, .ofNat 1, .ofNat 0), (0, .ofNat 0, .ofNat 0)), (2, 3, (1, .ofNat 1, .ofNat 0), (0, .ofNat 0, .ofNat 0), (0, .ofNat 0, .ofNat 0))], [(1, [(.ofNat 0, .ofNat 15)]), (2, [(.ofNat 0, .ofNat 7)]), (3, [(.ofNat 0, .ofNat 7)]), (4, [(.ofNat 1, .ofNat 16)]), (5, [(.ofNat 1, .ofNat 8)]), (6, [(.ofNat 0, .ofNat 1)]), (7, [(.ofNat 0, .ofNat 9)]), (8, [(.ofNat 0, .ofNat 9)]), (9, [(.negSucc 1, .negSucc 1)]), (10, [(.ofNat 0, .ofNat 1)]), (11, [(.ofNat 0, .ofNat 0)])], [((8, .ofNat 1, .ofNat 0), (7, .ofNat 1, .ofNat 0), (11, .ofNat 1, .ofNat 0)), ((8, .ofNat 1, .ofNat 0), (7, .negSucc 0, .ofNat 0), (9, .ofNat 1, .ofNat 0))], []),
  (63, [(0, .inr (.inl [0])), (1, .inl (false, (1, .ofNat 1, .ofNat 0))), (2, .inl (false, (2, .ofNat 1, .ofNat 0))), (3, .inl (false, (3, .ofNat 1, .ofNat 0)))], [.inr (.inl [6]), .inr (.inl [1]), .inr (.inl [71])], [(2, 1, (0, .ofNat 0, .ofNat 1), (0, .ofNat 0, .ofNat 0), (0, .ofNat 0, .ofNat 0)), (2, 4, (11, .ofNat 1, .ofNat 0), (0, .ofNat 0, .ofNat 0), (0, .ofNat 0, .ofNat 0)), (0, 4, (2, .ofNat 1, .ofNat 0), (8, .ofNat 1, .ofNat 0), (0, .ofNat 0, .ofNat 0)), (2, 0, (9, .negSucc 0, .ofNat 0), (0, .ofNat 0, .ofNat 2), (0, .ofNat 0, .ofNat 0)), (2, 1, (9, .negSucc 0, .ofNat 0), (0, .ofNat 0, .ofNat 0), (0, .ofNat 0, .ofNat 0)), (2, 1, (10, .ofNat 1, .ofNat 0), (6, .ofNat 1, .ofNat 0), (0, .ofNat 0, .ofNat 0)), (0, 3, (2, .ofNat 1, .ofNat 0), (10, .ofNat 1, .ofNat 0), (0, .ofNat 0, .ofNat 0)), (2, 2, (9, .ofNat 1, .ofNat 0), (0, .ofNat 0, .ofNat 0), (0, .ofNat 0, .ofNat 0)), (0, 4, (2, .ofNat 1, .ofNat 0), (8, .ofNat 1, .ofNat 0), (0, .ofNat 0, .ofNat 0)), (0, 4, (3, .ofNat 1, .ofNat 0), (7, .ofNat 1, .ofNat 0), (0, .ofNat 0, .ofNat 0)), (0, 3, (3, .ofNat 1, .ofNat 0), (6, .ofNat 1, .ofNat 0), (0, .ofNat 0, .ofNat 0)), (2, 1, (0, .ofNat 0, .ofNat 1), (0, .ofNat 0, .ofNat 0), (0, .ofNat 0, .ofNat 0)), (2, 2, (3, .ofNat 1, .ofNat 0), (5, .ofNat 1, .ofNat 0), (0, .ofNat 0, .ofNat 0)), (0, 1, (0, .ofNat 0, .ofNat 0), (5, .ofNat 1, .ofNat 0), (0, .ofNat 0, .ofNat 0)), (2, 3, (3, .ofNat 1, .ofNat 0), (0, .ofNat 0, .ofNat 0), (0, .ofNat 0, .ofNat 0)), (2, 1, (0, .ofNat 0, .ofNat 1), (0, .ofNat 0, .ofNat 0), (0, .ofNat 0, .ofNat 0)), (2, 2, (2, .ofNat 1, .ofNat 0), (5, .ofNat 1, .ofNat 0), (0, .ofNat 0, .ofNat 0)), (0, 1, (0, .ofNat 0, .ofNat 0), (5, .ofNat 1, .ofNat 0), (0, .ofNat 0, .ofNat 0)), (2, 3, (2, .ofNat 1, .ofNat 0), (0, .ofNat 0, .ofNat 0), (0, .ofNat 0, .ofNat 0)), (2, 1, (0, .ofNat 0, .ofNat 1), (0, .ofNat 0, .ofNat 0), (0, .ofNat 0, .ofNat 0)), (2, 2, (1, .ofNat 1, .ofNat 0), (4, .ofNat 1, .ofNat 0), (0, .ofNat 0, .ofNat 0)), (0, 6, (0, .ofNat 0, .ofNat 0), (4, .ofNat 1, .ofNat 0), (0, .ofNat 0, .ofNat 0)), (2, 3, (1, .ofNat 1, .ofNat 0), (0, .ofNat 0, .ofNat 0), (0, .ofNat 0, .ofNat 0))], [(1, [(.ofNat 0, .ofNat 15)]), (2, [(.ofNat 0, .ofNat 7)]), (3, [(.ofNat 0, .ofNat 7)]), (4, [(.ofNat 1, .ofNat 16)]), (5, [(.ofNat 1, .ofNat 8)]), (6, [(.ofNat 0, .ofNat 1)]), (7, [(.ofNat 0, .ofNat 9)]), (8, [(.ofNat 0, .ofNat 9)]), (9, [(.negSucc 1, .negSucc 1)]), (10, [(.ofNat 0, .ofNat 1)]), (11, [(.ofNat 1, .ofNat 18)])], [((8, .ofNat 1, .ofNat 0), (7, .ofNat 1, .ofNat 0), (11, .ofNat 1, .ofNat 0)), ((8, .ofNat 1, .ofNat 0), (7, .negSucc 0, .ofNat 0), (9, .ofNat 1, .ofNat 0))], [])]
set_option maxRecDepth 1000000 in
theorem sg_gv_x0_g : sg_go [] [62] 3000 104 0 3 4 [(0, [(.ofNat 0, .ofNat 0)]), (1, [(.negSucc 2147483647, .ofNat 2147483647)]), (2, [(.negSucc 2147483647, .ofNat 2147483647)]), (3, [(.negSucc 2147483647, .ofNat 2147483647)])] [] [] [] [(0, .inr (.inl [0])), (1, .inl (false, (1, .ofNat 1, .ofNat 0))), (2, .inl (false, (2, .ofNat 1, .ofNat 0))), (3, .inl (false, (3, .ofNat 1, .ofNat 0)))] [] [] sg_gv_x0_Z = true := by decide +kernel
set_option maxRecDepth 100000 in
theorem sg_gv_x0 {Q : Option Value × am_S → Prop} {d : Nat} {S : am_S} {L : am_L} {x1 x2 x3 : Int} (hd : 3 ≤ d) (hP : ax_P0 none S) (l0 : lc L 0 0) (l1 : li L 1 x1) (l2 : li L 2 x2) (l3 : li L 3 x3) (b1 : ((-2147483648) ≤ x1 ∧ x1 ≤ 2147483647)) (b2 : ((-2147483648) ≤ x2 ∧ x2 ≤ 2147483647)) (b3 : ((-2147483648) ≤ x3 ∧ x3 ≤ 2147483647))
    (k0 : ∀ (i1 : Int32), x1 < 0 → ((-2147483648) ≤ x1 ∧ x1 ≤ (-1)) → i1.toInt = (-1) → Q (some (.int i1), S))
    (k1 : ∀ (x4 : Int) (i1 : Int32), 0 ≤ x1 → rd S 6 0 = x4 → x4 ≤ x1 → (0 ≤ x1 ∧ x1 ≤ 2147483647) → (0 ≤ x4 ∧ x4 ≤ 16) → i1.toInt = (-1) → Q (some (.int i1), S))
    (k2 : ∀ (x4 : Int) (i1 : Int32), 0 ≤ x1 → rd S 6 0 = x4 → x1 < x4 → x2 < 0 → (0 ≤ x1 ∧ x1 ≤ 15) → ((-2147483648) ≤ x2 ∧ x2 ≤ (-1)) → (1 ≤ x4 ∧ x4 ≤ 16) → i1.toInt = (-1) → Q (some (.int i1), S))
    (k3 : ∀ (x4 x5 : Int) (i1 : Int32), 0 ≤ x1 → rd S 6 0 = x4 → x1 < x4 → 0 ≤ x2 → rd S 1 0 = x5 → x5 ≤ x2 → (0 ≤ x1 ∧ x1 ≤ 15) → (0 ≤ x2 ∧ x2 ≤ 2147483647) → (1 ≤ x4 ∧ x4 ≤ 16) → (0 ≤ x5 ∧ x5 ≤ 8) → i1.toInt = (-1) → Q (some (.int i1), S))
    (k4 : ∀ (x4 x5 : Int) (i1 : Int32), 0 ≤ x1 → rd S 6 0 = x4 → x1 < x4 → 0 ≤ x2 → rd S 1 0 = x5 → x2 < x5 → x3 < 0 → (0 ≤ x1 ∧ x1 ≤ 15) → (0 ≤ x2 ∧ x2 ≤ 7) → ((-2147483648) ≤ x3 ∧ x3 ≤ (-1)) → (1 ≤ x4 ∧ x4 ≤ 16) → (1 ≤ x5 ∧ x5 ≤ 8) → i1.toInt = (-1) → Q (some (.int i1), S))
    (k5 : ∀ (x4 x5 : Int) (i1 : Int32), 0 ≤ x1 → rd S 6 0 = x4 → x1 < x4 → 0 ≤ x2 → rd S 1 0 = x5 → x2 < x5 → 0 ≤ x3 → x5 ≤ x3 → (0 ≤ x1 ∧ x1 ≤ 15) → (0 ≤ x2 ∧ x2 ≤ 7) → (1 ≤ x3 ∧ x3 ≤ 2147483647) → (1 ≤ x4 ∧ x4 ≤ 16) → (1 ≤ x5 ∧ x5 ≤ 8) → i1.toInt = (-1) → Q (some (.int i1), S))
    (k6 : ∀ (x4 x5 x6 x7 x8 x9 x10 : Int) (i1 : Int32), 0 ≤ x1 → rd S 6 0 = x4 → x1 < x4 → 0 ≤ x2 → rd S 1 0 = x5 → x2 < x5 → 0 ≤ x3 → x3 < x5 → rd S 3 x3 = x6 → rd S 4 x3 = x7 → rd S 4 x2 = x8 → 0 ≤ x9 → rd S 3 x2 = x10 → x10 = x6 → (0 ≤ x1 ∧ x1 ≤ 15) → (0 ≤ x2 ∧ x2 ≤ 7) → (0 ≤ x3 ∧ x3 ≤ 7) → (1 ≤ x4 ∧ x4 ≤ 16) → (1 ≤ x5 ∧ x5 ≤ 8) → (0 ≤ x6 ∧ x6 ≤ 1) → (0 ≤ x7 ∧ x7 ≤ 9) → (0 ≤ x8 ∧ x8 ≤ 9) → (0 ≤ x9 ∧ x9 ≤ 9) → (0 ≤ x10 ∧ x10 ≤ 1) → x8 + ((-1) * x7 + 0) = x9 → i1.toInt = (-2) → Q (some (.int i1), S))
    (k7 : ∀ (x4 x5 x6 x7 x8 x9 x10 x11 : Int) (i1 : Int32), 0 ≤ x1 → rd S 6 0 = x4 → x1 < x4 → 0 ≤ x2 → rd S 1 0 = x5 → x2 < x5 → 0 ≤ x3 → x3 < x5 → rd S 3 x3 = x6 → rd S 4 x3 = x7 → rd S 4 x2 = x8 → 0 ≤ x9 → rd S 3 x2 = x10 → x10 ≠ x6 → x9 = 0 → x11 ≤ 0 → (0 ≤ x1 ∧ x1 ≤ 15) → (0 ≤ x2 ∧ x2 ≤ 7) → (0 ≤ x3 ∧ x3 ≤ 7) → (1 ≤ x4 ∧ x4 ≤ 16) → (1 ≤ x5 ∧ x5 ≤ 8) → (0 ≤ x6 ∧ x6 ≤ 1) → (0 ≤ x7 ∧ x7 ≤ 9) → (0 ≤ x8 ∧ x8 ≤ 9) → (0 ≤ x9 ∧ x9 ≤ 0) → (0 ≤ x10 ∧ x10 ≤ 1) → (0 ≤ x11 ∧ x11 ≤ 0) → x8 + x7 = x11 → x8 + ((-1) * x7 + 0) = x9 → i1.toInt = (-2) → Q (some (.int i1), S))
    (k8 : ∀ (x4 x5 x6 x7 x8 x9 x10 x11 : Int) (L' : am_L), 0 ≤ x1 → rd S 6 0 = x4 → x1 < x4 → 0 ≤ x2 → rd S 1 0 = x5 → x2 < x5 → 0 ≤ x3 → x3 < x5 → rd S 3 x3 = x6 → rd S 4 x3 = x7 → rd S 4 x2 = x8 → 0 ≤ x9 → rd S 3 x2 = x10 → x10 ≠ x6 → x9 = 0 → 0 < x11 → (0 ≤ x1 ∧ x1 ≤ 15) → (0 ≤ x2 ∧ x2 ≤ 7) → (0 ≤ x3 ∧ x3 ≤ 7) → (1 ≤ x4 ∧ x4 ≤ 16) → (1 ≤ x5 ∧ x5 ≤ 8) → (0 ≤ x6 ∧ x6 ≤ 1) → (0 ≤ x7 ∧ x7 ≤ 9) → (0 ≤ x8 ∧ x8 ≤ 9) → (0 ≤ x9 ∧ x9 ≤ 0) → (0 ≤ x10 ∧ x10 ≤ 1) → (1 ≤ x11 ∧ x11 ≤ 18) → x8 + x7 = x11 → x8 + ((-1) * x7 + 0) = x9 → lc L' 0 0 → li L' 1 x1 → li L' 2 x2 → li L' 3 x3 → am_V none d 104 62 L' ((.ref 6) :: (.ref 1) :: (.ref 71) :: []) S Q)
    (k9 : ∀ (x4 x5 x6 x7 x8 x9 x10 : Int) (i1 : Int32), 0 ≤ x1 → rd S 6 0 = x4 → x1 < x4 → 0 ≤ x2 → rd S 1 0 = x5 → x2 < x5 → 0 ≤ x3 → x3 < x5 → rd S 3 x3 = x6 → rd S 4 x3 = x7 → rd S 4 x2 = x8 → 0 ≤ x9 → rd S 3 x2 = x10 → x10 ≠ x6 → x9 ≠ 0 → x9 ≠ 2 → (0 ≤ x1 ∧ x1 ≤ 15) → (0 ≤ x2 ∧ x2 ≤ 7) → (0 ≤ x3 ∧ x3 ≤ 7) → (1 ≤ x4 ∧ x4 ≤ 16) → (1 ≤ x5 ∧ x5 ≤ 8) → (0 ≤ x6 ∧ x6 ≤ 1) → (0 ≤ x7 ∧ x7 ≤ 9) → (0 ≤ x8 ∧ x8 ≤ 9) → (1 ≤ x9 ∧ x9 ≤ 1) ∨ (3 ≤ x9 ∧ x9 ≤ 9) → (0 ≤ x10 ∧ x10 ≤ 1) → x8 + ((-1) * x7 + 0) = x9 → i1.toInt = (-2) → Q (some (.int i1), S))
    (k10 : ∀ (x4 x5 x6 x7 x8 x9 x10 x11 : Int) (i1 : Int32), 0 ≤ x1 → rd S 6 0 = x4 → x1 < x4 → 0 ≤ x2 → rd S 1 0 = x5 → x2 < x5 → 0 ≤ x3 → x3 < x5 → rd S 3 x3 = x6 → rd S 4 x3 = x7 → rd S 4 x2 = x8 → 0 ≤ x9 → rd S 3 x2 = x10 → x10 ≠ x6 → x9 ≠ 0 → x9 = 2 → x11 ≤ 0 → (0 ≤ x1 ∧ x1 ≤ 15) → (0 ≤ x2 ∧ x2 ≤ 7) → (0 ≤ x3 ∧ x3 ≤ 7) → (1 ≤ x4 ∧ x4 ≤ 16) → (1 ≤ x5 ∧ x5 ≤ 8) → (0 ≤ x6 ∧ x6 ≤ 1) → (0 ≤ x7 ∧ x7 ≤ 9) → (0 ≤ x8 ∧ x8 ≤ 9) → (2 ≤ x9 ∧ x9 ≤ 2) → (0 ≤ x10 ∧ x10 ≤ 1) → (0 ≤ x11 ∧ x11 ≤ 0) → x8 + x7 = x11 → x8 + ((-1) * x7 + 0) = x9 → i1.toInt = (-2) → Q (some (.int i1), S))
    (k11 : ∀ (x4 x5 x6 x7 x8 x9 x10 x11 : Int) (L' : am_L), 0 ≤ x1 → rd S 6 0 = x4 → x1 < x4 → 0 ≤ x2 → rd S 1 0 = x5 → x2 < x5 → 0 ≤ x3 → x3 < x5 → rd S 3 x3 = x6 → rd S 4 x3 = x7 → rd S 4 x2 = x8 → 0 ≤ x9 → rd S 3 x2 = x10 → x10 ≠ x6 → x9 ≠ 0 → x9 = 2 → 0 < x11 → (0 ≤ x1 ∧ x1 ≤ 15) → (0 ≤ x2 ∧ x2 ≤ 7) → (0 ≤ x3 ∧ x3 ≤ 7) → (1 ≤ x4 ∧ x4 ≤ 16) → (1 ≤ x5 ∧ x5 ≤ 8) → (0 ≤ x6 ∧ x6 ≤ 1) → (0 ≤ x7 ∧ x7 ≤ 9) → (0 ≤ x8 ∧ x8 ≤ 9) → (2 ≤ x9 ∧ x9 ≤ 2) → (0 ≤ x10 ∧ x10 ≤ 1) → (1 ≤ x11 ∧ x11 ≤ 18) → x8 + x7 = x11 → x8 + ((-1) * x7 + 0) = x9 → lc L' 0 0 → li L' 1 x1 → li L' 2 x2 → li L' 3 x3 → am_V none d 104 62 L' ((.ref 6) :: (.ref 1) :: (.ref 71) :: []) S Q)
    (k12 : ∀ (x4 x5 x6 x7 x8 x9 x10 : Int) (i1 : Int32), 0 ≤ x1 → rd S 6 0 = x4 → x1 < x4 → 0 ≤ x2 → rd S 1 0 = x5 → x2 < x5 → 0 ≤ x3 → x3 < x5 → rd S 3 x3 = x6 → rd S 4 x3 = x7 → rd S 4 x2 = x8 → x9 < 0 → rd S 3 x2 = x10 → x10 = x6 → (0 ≤ x1 ∧ x1 ≤ 15) → (0 ≤ x2 ∧ x2 ≤ 7) → (0 ≤ x3 ∧ x3 ≤ 7) → (1 ≤ x4 ∧ x4 ≤ 16) → (1 ≤ x5 ∧ x5 ≤ 8) → (0 ≤ x6 ∧ x6 ≤ 1) → (0 ≤ x7 ∧ x7 ≤ 9) → (0 ≤ x8 ∧ x8 ≤ 9) → ((-9) ≤ x9 ∧ x9 ≤ (-1)) → (0 ≤ x10 ∧ x10 ≤ 1) → x8 + ((-1) * x7 + 0) = x9 → i1.toInt = (-2) → Q (some (.int i1), S))
    (k13 : ∀ (x4 x5 x6 x7 x8 x9 x10 : Int) (i1 : Int32), 0 ≤ x1 → rd S 6 0 = x4 → x1 < x4 → 0 ≤ x2 → rd S 1 0 = x5 → x2 < x5 → 0 ≤ x3 → x3 < x5 → rd S 3 x3 = x6 → rd S 4 x3 = x7 → rd S 4 x2 = x8 → x9 < 0 → rd S 3 x2 = x10 → x10 ≠ x6 → (-1) * x9 + 0 ≠ 0 → (-1) * x9 + 0 ≠ 2 → (0 ≤ x1 ∧ x1 ≤ 15) → (0 ≤ x2 ∧ x2 ≤ 7) → (0 ≤ x3 ∧ x3 ≤ 7) → (1 ≤ x4 ∧ x4 ≤ 16) → (1 ≤ x5 ∧ x5 ≤ 8) → (0 ≤ x6 ∧ x6 ≤ 1) → (0 ≤ x7 ∧ x7 ≤ 9) → (0 ≤ x8 ∧ x8 ≤ 9) → ((-9) ≤ x9 ∧ x9 ≤ (-3)) ∨ ((-1) ≤ x9 ∧ x9 ≤ (-1)) → (0 ≤ x10 ∧ x10 ≤ 1) → x8 + ((-1) * x7 + 0) = x9 → i1.toInt = (-2) → Q (some (.int i1), S))
    (k14 : ∀ (x4 x5 x6 x7 x8 x9 x10 x11 : Int) (i1 : Int32), 0 ≤ x1 → rd S 6 0 = x4 → x1 < x4 → 0 ≤ x2 → rd S 1 0 = x5 → x2 < x5 → 0 ≤ x3 → x3 < x5 → rd S 3 x3 = x6 → rd S 4 x3 = x7 → rd S 4 x2 = x8 → x9 < 0 → rd S 3 x2 = x10 → x10 ≠ x6 → (-1) * x9 + 0 ≠ 0 → (-1) * x9 + 0 = 2 → x11 ≤ 0 → (0 ≤ x1 ∧ x1 ≤ 15) → (0 ≤ x2 ∧ x2 ≤ 7) → (0 ≤ x3 ∧ x3 ≤ 7) → (1 ≤ x4 ∧ x4 ≤ 16) → (1 ≤ x5 ∧ x5 ≤ 8) → (0 ≤ x6 ∧ x6 ≤ 1) → (0 ≤ x7 ∧ x7 ≤ 9) → (0 ≤ x8 ∧ x8 ≤ 9) → ((-2) ≤ x9 ∧ x9 ≤ (-2)) → (0 ≤ x10 ∧ x10 ≤ 1) → (0 ≤ x11 ∧ x11 ≤ 0) → x8 + x7 = x11 → x8 + ((-1) * x7 + 0) = x9 → i1.toInt = (-2) → Q (some (.int i1), S))
    (k15 : ∀ (x4 x5 x6 x7 x8 x9 x10 x11 : Int) (L' : am_L), 0 ≤ x1 → rd S 6 0 = x4 → x1 < x4 → 0 ≤ x2 → rd S 1 0 = x5 → x2 < x5 → 0 ≤ x3 → x3 < x5 → rd S 3 x3 = x6 → rd S 4 x3 = x7 → rd S 4 x2 = x8 → x9 < 0 → rd S 3 x2 = x10 → x10 ≠ x6 → (-1) * x9 + 0 ≠ 0 → (-1) * x9 + 0 = 2 → 0 < x11 → (0 ≤ x1 ∧ x1 ≤ 15) → (0 ≤ x2 ∧ x2 ≤ 7) → (0 ≤ x3 ∧ x3 ≤ 7) → (1 ≤ x4 ∧ x4 ≤ 16) → (1 ≤ x5 ∧ x5 ≤ 8) → (0 ≤ x6 ∧ x6 ≤ 1) → (0 ≤ x7 ∧ x7 ≤ 9) → (0 ≤ x8 ∧ x8 ≤ 9) → ((-2) ≤ x9 ∧ x9 ≤ (-2)) → (0 ≤ x10 ∧ x10 ≤ 1) → (1 ≤ x11 ∧ x11 ≤ 18) → x8 + x7 = x11 → x8 + ((-1) * x7 + 0) = x9 → lc L' 0 0 → li L' 1 x1 → li L' 2 x2 → li L' 3 x3 → am_V none d 104 62 L' ((.ref 6) :: (.ref 1) :: (.ref 71) :: []) S Q) : am_V none d 104 0 L ([]) S Q := by
  refine sg_use sg_gv_x0_g hd hP (sg_xs [0, x1, x2, x3]) ⟨⟨Int.le_refl 0, Int.le_refl 0⟩, b1, b2, b3, trivial⟩ trivial trivial trivial ⟨l0, l1, l2, l3, trivial⟩ trivial ?_
  intro z hz x' L' st' S' hx hP' hW hL' hs' hJ hE' hT' hD'
  have q1 : x' 1 = x1 := hx 1 (by decide)
  subst q1
  have q2 : x' 2 = x2 := hx 2 (by decide)
  subst q2
  have q3 : x' 3 = x3 := hx 3 (by decide)
  subst q3
  have eS : S' = S := hW.1 rfl
  subst eS
  simp only [sg_gv_x0_Z, List.mem_cons, List.not_mem_nil, or_false] at hz
  rcases hz with rfl | rfl | rfl | rfl | rfl | rfl | rfl | rfl | rfl | rfl | rfl | rfl | rfl | rfl | rfl | rfl
  · obtain ⟨f0, -, hσ⟩ := hJ
    obtain ⟨e0, -⟩ := hE'
    intro v hv
    subst hv
    cases v with
    | none => exact hs'.elim
    | some v1 =>
      obtain ⟨⟨i1, rfl, g1⟩, -⟩ := hs'
      exact k0 i1 f0 e0 g1
  · obtain ⟨f0, f1, f2, -, hσ⟩ := hJ
    obtain ⟨e0, e1, -⟩ := hE'
    intro v hv
    subst hv
    cases v with
    | none => exact hs'.elim
    | some v1 =>
      obtain ⟨⟨i1, rfl, g1⟩, -⟩ := hs'
      exact k1 (x' 4) i1 f0 f1 f2 e0 e1 g1
  · obtain ⟨f0, f1, f2, -, f4, -, hσ⟩ := hJ
    obtain ⟨e0, e1, e2, -⟩ := hE'
    intro v hv
    subst hv
    cases v with
    | none => exact hs'.elim
    | some v1 =>
      obtain ⟨⟨i1, rfl, g1⟩, -⟩ := hs'
      exact k2 (x' 4) i1 f0 f1 f2 f4 e0 e1 e2 g1
  · obtain ⟨f0, f1, f2, -, f4, f5, f6, -, hσ⟩ := hJ
    obtain ⟨e0, e1, e2, e3, -⟩ := hE'
    intro v hv
    subst hv
    cases v with
    | none => exact hs'.elim
    | some v1 =>
      obtain ⟨⟨i1, rfl, g1⟩, -⟩ := hs'
      exact k3 (x' 4) (x' 5) i1 f0 f1 f2 f4 f5 f6 e0 e1 e2 e3 g1
  · obtain ⟨f0, f1, f2, -, f4, f5, f6, -, f8, -, hσ⟩ := hJ
    obtain ⟨e0, e1, e2, e3, e4, -⟩ := hE'
    intro v hv
    subst hv
    cases v with
    | none => exact hs'.elim
    | some v1 =>
      obtain ⟨⟨i1, rfl, g1⟩, -⟩ := hs'
      exact k4 (x' 4) (x' 5) i1 f0 f1 f2 f4 f5 f6 f8 e0 e1 e2 e3 e4 g1
  · obtain ⟨f0, f1, f2, -, f4, f5, f6, -, f8, -, f10, -, hσ⟩ := hJ
    obtain ⟨e0, e1, e2, e3, e4, -⟩ := hE'
    intro v hv
    subst hv
    cases v with
    | none => exact hs'.elim
    | some v1 =>
      obtain ⟨⟨i1, rfl, g1⟩, -⟩ := hs'
      exact k5 (x' 4) (x' 5) i1 f0 f1 f2 f4 f5 f6 f8 f10 e0 e1 e2 e3 e4 g1
  · obtain ⟨f0, f1, f2, -, f4, f5, f6, -, f8, -, f10, -, f12, f13, f14, f15, f16, f17, -, hσ⟩ := hJ
    obtain ⟨e0, e1, e2, e3, e4, e5, e6, e7, e8, e9, -⟩ := hE'
    obtain ⟨t0, -⟩ := hT'
    intro v hv
    subst hv
    cases v with
    | none => exact hs'.elim
    | some v1 =>
      obtain ⟨⟨i1, rfl, g1⟩, -⟩ := hs'
      exact k6 (x' 4) (x' 5) (x' 6) (x' 7) (x' 8) (x' 9) (x' 10) i1 f0 f1 f2 f4 f5 f6 f8 f10 f12 f13 f14 f15 f16 f17 e0 e1 e2 e3 e4 e5 e6 e7 e8 e9 t0 g1
  · obtain ⟨f0, f1, f2, -, f4, f5, f6, -, f8, -, f10, -, f12, f13, f14, f15, f16, f17, f18, -, f20, -, hσ⟩ := hJ
    obtain ⟨e0, e1, e2, e3, e4, e5, e6, e7, e8, e9, e10, -⟩ := hE'
    obtain ⟨t0, t1, -⟩ := hT'
    intro v hv
    subst hv
    cases v with
    | none => exact hs'.elim
    | some v1 =>
      obtain ⟨⟨i1, rfl, g1⟩, -⟩ := hs'
      exact k7 (x' 4) (x' 5) (x' 6) (x' 7) (x' 8) (x' 9) (x' 10) (x' 11) i1 f0 f1 f2 f4 f5 f6 f8 f10 f12 f13 f14 f15 f16 f17 f18 f20 e0 e1 e2 e3 e4 e5 e6 e7 e8 e9 e10 t0 t1 g1
  · obtain ⟨f0, f1, f2, -, f4, f5, f6, -, f8, -, f10, -, f12, f13, f14, f15, f16, f17, f18, -, f20, -, hσ⟩ := hJ
    obtain ⟨e0, e1, e2, e3, e4, e5, e6, e7, e8, e9, e10, -⟩ := hE'
    obtain ⟨t0, t1, -⟩ := hT'
    obtain ⟨p0, p1, p2, p3, -⟩ := hL'
    obtain ⟨v1, r1, rfl, rfl, hs1⟩ := sg_tc hs'
    obtain ⟨v2, r2, rfl, rfl, hs2⟩ := sg_tc hs1
    obtain ⟨v3, r3, rfl, rfl, hs3⟩ := sg_tc hs2
    obtain rfl := sg_tn hs3
    exact k8 (x' 4) (x' 5) (x' 6) (x' 7) (x' 8) (x' 9) (x' 10) (x' 11) L' f0 f1 f2 f4 f5 f6 f8 f10 f12 f13 f14 f15 f16 f17 f18 f20 e0 e1 e2 e3 e4 e5 e6 e7 e8 e9 e10 t0 t1 p0 p1 p2 p3
  · obtain ⟨f0, f1, f2, -, f4, f5, f6, -, f8, -, f10, -, f12, f13, f14, f15, f16, f17, f18, f19, -, hσ⟩ := hJ
    obtain ⟨e0, e1, e2, e3, e4, e5, e6, e7, e8, e9, -⟩ := hE'
    obtain ⟨t0, -⟩ := hT'
    intro v hv
    subst hv
    cases v with
    | none => exact hs'.elim
    | some v1 =>
      obtain ⟨⟨i1, rfl, g1⟩, -⟩ := hs'
      exact k9 (x' 4) (x' 5) (x' 6) (x' 7) (x' 8) (x' 9) (x' 10) i1 f0 f1 f2 f4 f5 f6 f8 f10 f12 f13 f14 f15 f16 f17 f18 f19 e0 e1 e2 e3 e4 e5 e6 e7 e8 e9 t0 g1
  · obtain ⟨f0, f1, f2, -, f4, f5, f6, -, f8, -, f10, -, f12, f13, f14, f15, f16, f17, f18, f19, -, f21, -, hσ⟩ := hJ
    obtain ⟨e0, e1, e2, e3, e4, e5, e6, e7, e8, e9, e10, -⟩ := hE'
    obtain ⟨t0, t1, -⟩ := hT'
    intro v hv
    subst hv
    cases v with
    | none => exact hs'.elim
    | some v1 =>
      obtain ⟨⟨i1, rfl, g1⟩, -⟩ := hs'
      exact k10 (x' 4) (x' 5) (x' 6) (x' 7) (x' 8) (x' 9) (x' 10) (x' 11) i1 f0 f1 f2 f4 f5 f6 f8 f10 f12 f13 f14 f15 f16 f17 f18 f19 f21 e0 e1 e2 e3 e4 e5 e6 e7 e8 e9 e10 t0 t1 g1
  · obtain ⟨f0, f1, f2, -, f4, f5, f6, -, f8, -, f10, -, f12, f13, f14, f15, f16, f17, f18, f19, -, f21, -, hσ⟩ := hJ
    obtain ⟨e0, e1, e2, e3, e4, e5, e6, e7, e8, e9, e10, -⟩ := hE'
    obtain ⟨t0, t1, -⟩ := hT'
    obtain ⟨p0, p1, p2, p3, -⟩ := hL'
    obtain ⟨v1, r1, rfl, rfl, hs1⟩ := sg_tc hs'
    obtain ⟨v2, r2, rfl, rfl, hs2⟩ := sg_tc hs1
    obtain ⟨v3, r3, rfl, rfl, hs3⟩ := sg_tc hs2
    obtain rfl := sg_tn hs3
    exact k11 (x' 4) (x' 5) (x' 6) (x' 7) (x' 8) (x' 9) (x' 10) (x' 11) L' f0 f1 f2 f4 f5 f6 f8 f10 f12 f13 f14 f15 f16 f17 f18 f19 f21 e0 e1 e2 e3 e4 e5 e6 e7 e8 e9 e10 t0 t1 p0 p1 p2 p3
  · obtain ⟨f0, f1, f2, -, f4, f5, f6, -, f8, -, f10, -, f12, f13, f14, f15, f16, f17, -, hσ⟩ := hJ
    obtain ⟨e0, e1, e2, e3, e4, e5, e6, e7, e8, e9, -⟩ := hE'
    obtain ⟨t0, -⟩ := hT'
    intro v hv
    subst hv
    cases v with
    | none => exact hs'.elim
    | some v1 =>
      obtain ⟨⟨i1, rfl, g1⟩, -⟩ := hs'
      exact k12 (x' 4) (x' 5) (x' 6) (x' 7) (x' 8) (x' 9) (x' 10) i1 f0 f1 f2 f4 f5 f6 f8 f10 f12 f13 f14 f15 f16 f17 e0 e1 e2 e3 e4 e5 e6 e7 e8 e9 t0 g1
  · obtain ⟨f0, f1, f2, -, f4, f5, f6, -, f8, -, f10, -, f12, f13, f14, f15, f16, f17, f18, f19, -, hσ⟩ := hJ
    obtain ⟨e0, e1, e2, e3, e4, e5, e6, e7, e8, e9, -⟩ := hE'
    obtain ⟨t0, -⟩ := hT'
    intro v hv
    subst hv
    cases v with
    | none => exact hs'.elim
    | some v1 =>
      obtain ⟨⟨i1, rfl, g1⟩, -⟩ := hs'
      exact k13 (x' 4) (x' 5) (x' 6) (x' 7) (x' 8) (x' 9) (x' 10) i1 f0 f1 f2 f4 f5 f6 f8 f10 f12 f13 f14 f15 f16 f17 f18 f19 e0 e1 e2 e3 e4 e5 e6 e7 e8 e9 t0 g1
  · obtain ⟨f0, f1, f2, -, f4, f5, f6, -, f8, -, f10, -, f12, f13, f14, f15, f16, f17, f18, f19, -, f21, -, hσ⟩ := hJ
    obtain ⟨e0, e1, e2, e3, e4, e5, e6, e7, e8, e9, e10, -⟩ := hE'
    obtain ⟨t0, t1, -⟩ := hT'
    intro v hv
    subst hv
    cases v with
    | none => exact hs'.elim
    | some v1 =>
      obtain ⟨⟨i1, rfl, g1⟩, -⟩ := hs'
      exact k14 (x' 4) (x' 5) (x' 6) (x' 7) (x' 8) (x' 9) (x' 10) (x' 11) i1 f0 f1 f2 f4 f5 f6 f8 f10 f12 f13 f14 f15 f16 f17 f18 f19 f21 e0 e1 e2 e3 e4 e5 e6 e7 e8 e9 e10 t0 t1 g1
  · obtain ⟨f0, f1, f2, -, f4, f5, f6, -, f8, -, f10, -, f12, f13, f14, f15, f16, f17, f18, f19, -, f21, -, hσ⟩ := hJ
    obtain ⟨e0, e1, e2, e3, e4, e5, e6, e7, e8, e9, e10, -⟩ := hE'
    obtain ⟨t0, t1, -⟩ := hT'
    obtain ⟨p0, p1, p2, p3, -⟩ := hL'
    obtain ⟨v1, r1, rfl, rfl, hs1⟩ := sg_tc hs'
    obtain ⟨v2, r2, rfl, rfl, hs2⟩ := sg_tc hs1
    obtain ⟨v3, r3, rfl, rfl, hs3⟩ := sg_tc hs2
    obtain rfl := sg_tn hs3
    exact k15 (x' 4) (x' 5) (x' 6) (x' 7) (x' 8) (x' 9) (x' 10) (x' 11) L' f0 f1 f2 f4 f5 f6 f8 f10 f12 f13 f14 f15 f16 f17 f18 f19 f21 e0 e1 e2 e3 e4 e5 e6 e7 e8 e9 e10 t0 t1 p0 p1 p2 p3
def sg_gv_x1_Z : List sg_z := [(0, [], [.inl (false, (0, .ofNat 0, .ofNat 1))], [(1, 12, (1, .ofNat 1, .ofNat 0), (3, .ofNat 1, .ofNat 0), (0, .ofNat 0, .ofNat 0)), (1, 11, (1, .ofNat 1, .ofNat 0), (2, .ofNat 1, .ofNat 0), (0, .ofNat 0, .ofNat 0))], [(1, [(.ofNat 0, .ofNat 15)]), (2, [(.ofNat 0, .ofNat 7)]), (3, [(.ofNat 0, .ofNat 7)])], [], [])]
set_option maxRecDepth 1000000 in
theorem sg_gv_x1_g : sg_go [] [] 3000 104 65 1 4 [(0, [(.ofNat 0, .ofNat 0)]), (1, [(.ofNat 0, .ofNat 15)]), (2, [(.ofNat 0, .ofNat 7)]), (3, [(.ofNat 0, .ofNat 7)])] [] [] [] [(0, .inr (.inl [0])), (1, .inl (false, (1, .ofNat 1, .ofNat 0))), (2, .inl (false, (2, .ofNat 1, .ofNat 0))), (3, .inl (false, (3, .ofNat 1, .ofNat 0)))] [] [(11, none), (12, none)] sg_gv_x1_Z = true := by decide +kernel
set_option maxRecDepth 100000 in
theorem sg_gv_x1 {Q : Option Value × am_S → Prop} {d : Nat} {S : am_S} {L : am_L} {x1 x2 x3 : Int} (hd : 1 ≤ d) (hP : ax_P0 none S) (l0 : lc L 0 0) (l1 : li L 1 x1) (l2 : li L 2 x2) (l3 : li L 3 x3) (b1 : (0 ≤ x1 ∧ x1 ≤ 15)) (b2 : (0 ≤ x2 ∧ x2 ≤ 7)) (b3 : (0 ≤ x3 ∧ x3 ≤ 7))
    (k0 : ∀ (S' : am_S) (i1 : Int32), ax_P0 none S' → rd S' = sg_up (sg_up (rd S) 11 x1 x2) 12 x1 x3 → (0 ≤ x1 ∧ x1 ≤ 15) → (0 ≤ x2 ∧ x2 ≤ 7) → (0 ≤ x3 ∧ x3 ≤ 7) → i1.toInt = 1 → Q (some (.int i1), S')) : am_V none d 104 65 L ([]) S Q := by
  refine sg_use sg_gv_x1_g hd hP (sg_xs [0, x1, x2, x3]) ⟨⟨Int.le_refl 0, Int.le_refl 0⟩, b1, b2, b3, trivial⟩ trivial trivial trivial ⟨l0, l1, l2, l3, trivial⟩ trivial ?_
  intro z hz x' L' st' S' hx hP' hW hL' hs' hJ hE' hT' hD'
  have q1 : x' 1 = x1 := hx 1 (by decide)
  subst q1
  have q2 : x' 2 = x2 := hx 2 (by decide)
  subst q2
  have q3 : x' 3 = x3 := hx 3 (by decide)
  subst q3
  simp only [sg_gv_x1_Z, List.mem_cons, List.not_mem_nil, or_false] at hz
  rcases hz with rfl
  · have hσ := hJ
    obtain ⟨e0, e1, e2, -⟩ := hE'
    intro v hv
    subst hv
    cases v with
    | none => exact hs'.elim
    | some v1 =>
      obtain ⟨⟨i1, rfl, g1⟩, -⟩ := hs'
      exact k0 S' i1 hP' hσ e0 e1 e2 g1
def sg_gv_m0_Z : List sg_z := [(0, [], [.inl (false, (0, .ofNat 0, .negSucc 0))], [(2, 0, (0, .ofNat 0, .ofNat 0), (0, .ofNat 0, .ofNat 0), (0, .ofNat 0, .ofNat 0)), (2, 2, (1, .ofNat 1, .ofNat 0), (0, .ofNat 0, .ofNat 0), (0, .ofNat 0, .ofNat 0)), (0, 122, (0, .ofNat 0, .ofNat 5), (4, .ofNat 1, .ofNat 0), (0, .ofNat 0, .ofNat 0))], [(1, [(.negSucc 2147483647, .negSucc 0)]), (4, [(.ofNat 0, .ofNat 16)])], [], []),
  (0, [], [.inl (false, (0, .ofNat 0, .negSucc 0))], [(2, 0, (0, .ofNat 0, .ofNat 0), (0, .ofNat 0, .ofNat 0), (0, .ofNat 0, .ofNat 0)), (2, 4, (1, .ofNat 1, .ofNat 0), (4, .ofNat 1, .negSucc 0), (0, .ofNat 0, .ofNat 0)), (2, 3, (1, .ofNat 1, .ofNat 0), (0, .ofNat 0, .ofNat 0), (0, .ofNat 0, .ofNat 0)), (0, 122, (0, .ofNat 0, .ofNat 5), (4, .ofNat 1, .ofNat 0), (0, .ofNat 0, .ofNat 0))], [(1, [(.ofNat 0, .ofNat 2147483647)]), (4, [(.ofNat 0, .ofNat 16)])], [], []),
  (0, [], [.inl (false, (0, .ofNat 0, .negSucc 0))], [(2, 0, (0, .ofNat 0, .ofNat 0), (0, .ofNat 0, .ofNat 0), (0, .ofNat 0, .ofNat 0)), (2, 2, (2, .ofNat 1, .ofNat 0), (0, .ofNat 0, .ofNat 0), (0, .ofNat 0, .ofNat 0)), (0, 122, (0, .ofNat 0, .ofNat 0), (5, .ofNat 1, .ofNat 0), (0, .ofNat 0, .ofNat 0)), (2, 1, (0, .ofNat 0, .ofNat 1), (0, .ofNat 0, .ofNat 0), (0, .ofNat 0, .ofNat 0)), (2, 5, (1, .ofNat 1, .ofNat 0), (4, .ofNat 1, .negSucc 0), (0, .ofNat 0, .ofNat 0)), (2, 3, (1, .ofNat 1, .ofNat 0), (0, .ofNat 0, .ofNat 0), (0, .ofNat 0, .ofNat 0)), (0, 122, (0, .ofNat 0, .ofNat 5), (4, .ofNat 1, .ofNat 0), (0, .ofNat 0, .ofNat 0))], [(1, [(.ofNat 0, .ofNat 15)]), (2, [(.negSucc 2147483647, .negSucc 0)]), (4, [(.ofNat 1, .ofNat 16)]), (5, [(.ofNat 0, .ofNat 8)])], [], []),
  (0, [], [.inl (false, (0, .ofNat 0, .negSucc 0))], [(2, 0, (0, .ofNat 0, .ofNat 0), (0, .ofNat 0, .ofNat 0), (0, .ofNat 0, .ofNat 0)), (2, 4, (2, .ofNat 1, .ofNat 0), (5, .ofNat 1, .negSucc 0), (0, .ofNat 0, .ofNat 0)), (2, 3, (2, .ofNat 1, .ofNat 0), (0, .ofNat 0, .ofNat 0), (0, .ofNat 0, .ofNat 0)), (0, 122, (0, .ofNat 0, .ofNat 0), (5, .ofNat 1, .ofNat 0), (0, .ofNat 0, .ofNat 0)), (2, 1, (0, .ofNat 0, .ofNat 1), (0, .ofNat 0, .ofNat 0), (0, .ofNat 0, .ofNat 0)), (2, 5, (1, .ofNat 1, .ofNat 0), (4, .ofNat 1, .negSucc 0), (0, .ofNat 0, .ofNat 0)), (2, 3, (1, .ofNat 1, .ofNat 0), (0, .ofNat 0, .ofNat 0), (0, .ofNat 0, .ofNat 0)), (0, 122, (0, .ofNat 0, .ofNat 5), (4, .ofNat 1, .ofNat 0), (0, .ofNat 0, .ofNat 0))], [(1, [(.ofNat 0, .ofNat 15)]), (2, [(.ofNat 0, .ofNat 2147483647)]), (4, [(.ofNat 1, .ofNat 16)]), (5, [(.ofNat 0, .ofNat 8)])], [], []),
  (0, [], [.inl (false, (0, .ofNat 0, .negSucc 0))], [(2, 0, (0, .ofNat 0, .ofNat 0), (0, .ofNat 0, .ofNat 0), (0, .ofNat 0, .ofNat 0)), (2, 2, (3, .ofNat 1, .ofNat 0), (0, .ofNat 0, .ofNat 0), (0, .ofNat 0, .ofNat 0)), (0, 122, (0, .ofNat 0, .ofNat 0), (5, .ofNat 1, .ofNat 0), (0, .ofNat 0, .ofNat 0)), (2, 1, (0, .ofNat 0, .ofNat 1), (0, .ofNat 0, .ofNat 0), (0, .ofNat 0, .ofNat 0)), (2, 5, (2, .ofNat 1, .ofNat 0), (5, .ofNat 1, .negSucc 0), (0, .ofNat 0, .ofNat 0)), (2, 3, (2, .ofNat 1, .ofNat 0), (0, .ofNat 0, .ofNat 0), (0, .ofNat 0, .ofNat 0)), (0, 122, (0, .ofNat 0, .ofNat 0), (5, .ofNat 1, .ofNat 0), (0, .ofNat 0, .ofNat 0)), (2, 1, (0, .ofNat 0, .ofNat 1), (0, .ofNat 0, .ofNat 0), (0, .ofNat 0, .ofNat 0)), (2, 5, (1, .ofNat 1, .ofNat 0), (4, .ofNat 1, .negSucc 0), (0, .ofNat 0, .ofNat 0)), (2, 3, (1, .ofNat 1, .ofNat 0), (0, .ofNat 0, .ofNat 0), (0, .ofNat 0, .ofNat 0)), (0, 122, (0, .ofNat 0, .ofNat 5), (4, .ofNat 1, .ofNat 0), (0, .ofNat 0, .ofNat 0))], [(1, [(.ofNat 0, .ofNat 15)]), (2, [(.ofNat 0, .ofNat 7)]), (3, [(.negSucc 2147483647, .negSucc 0)]), (4, [(.ofNat 1, .ofNat 16)]), (5, [(.ofNat 1, .ofNat 8)])], [], []),
  (0, [], [.inl (false, (0, .ofNat 0, .negSucc 0))], [(2, 0, (0, .ofNat 0, .ofNat 0), (0, .ofNat 0, .ofNat 0), (0, .ofNat 0, .ofNat 0)), (2, 4, (3, .ofNat 1, .ofNat 0), (5, .ofNat 1, .negSucc 0), (0, .ofNat 0, .ofNat 0)), (2, 3, (3, .ofNat 1, .ofNat 0), (0, .ofNat 0, .ofNat 0), (0, .ofNat 0, .ofNat 0)), (0, 122, (0, .ofNat 0, .ofNat 0), (5, .ofNat 1, .ofNat 0), (0, .ofNat 0, .ofNat 0)), (2, 1, (0, .ofNat 0, .ofNat 1), (0, .ofNat 0, .ofNat 0), (0, .ofNat 0, .ofNat 0)), (2, 5, (2, .ofNat 1, .ofNat 0), (5, .ofNat 1, .negSucc 0), (0, .ofNat 0, .ofNat 0)), (2, 3, (2, .ofNat 1, .ofNat 0), (0, .ofNat 0, .ofNat 0), (0, .ofNat 0, .ofNat 0)), (0, 122, (0, .ofNat 0, .ofNat 0), (5, .ofNat 1, .ofNat 0), (0, .ofNat 0, .ofNat 0)), (2, 1, (0, .ofNat 0, .ofNat 1), (0, .ofNat 0, .ofNat 0), (0, .ofNat 0, .ofNat 0)), (2, 5, (1, .ofNat 1, .ofNat 0), (4, .ofNat 1, .negSucc 0), (0, .ofNat 0, .ofNat 0)), (2, 3, (1, .ofNat 1, .ofNat 0), (0, .ofNat 0, .ofNat 0), (0, .ofNat 0, .ofNat 0)), (0, 122, (0, .ofNat 0, .ofNat 5), (4, .ofNat 1, .ofNat 0), (0, .ofNat 0, .ofNat 0))], [(1, [(.ofNat 0, .ofNat 15)]), (2, [(.ofNat 0, .ofNat 7)]), (3, [(.ofNat 1, .ofNat 2147483647)]), (4, [(.ofNat 1, .ofNat 16)]), (5, [(.ofNat 1, .ofNat 8)])], [], []),
  (0, [], [.inl (false, (0, .ofNat 0, .negSucc 1))], [(2, 0, (0, .ofNat 0, .ofNat 0), (0, .ofNat 0, .ofNat 0), (0, .ofNat 0, .ofNat 0)), (2, 0, (6, .ofNat 1, .ofNat 0), (10, .ofNat 1, .ofNat 0), (0, .ofNat 0, .ofNat 0)), (0, 124, (3, .ofNat 1, .ofNat 0), (10, .ofNat 1, .ofNat 0), (0, .ofNat 0, .ofNat 0)), (0, 125, (3, .ofNat 1, .ofNat 0), (8, .ofNat 1, .ofNat 0), (0, .ofNat 0, .ofNat 0)), (2, 5, (7, .ofNat 1, .ofNat 0), (8, .ofNat 1, .ofNat 0), (0, .ofNat 0, .ofNat 0)), (0, 125, (3, .ofNat 1, .ofNat 0), (8, .ofNat 1, .ofNat 0), (0, .ofNat 0, .ofNat 0)), (0, 125, (2, .ofNat 1, .ofNat 0), (7, .ofNat 1, .ofNat 0), (0, .ofNat 0, .ofNat 0)), (0, 124, (2, .ofNat 1, .ofNat 0), (6, .ofNat 1, .ofNat 0), (0, .ofNat 0, .ofNat 0)), (2, 1, (0, .ofNat 0, .ofNat 1), (0, .ofNat 0, .ofNat 0), (0, .ofNat 0, .ofNat 0)), (2, 5, (3, .ofNat 1, .ofNat 0), (5, .ofNat 1, .negSucc 0), (0, .ofNat 0, .ofNat 0)), (2, 3, (3, .ofNat 1, .ofNat 0), (0, .ofNat 0, .ofNat 0), (0, .ofNat 0, .ofNat 0)), (0, 122, (0, .ofNat 0, .ofNat 0), (5, .ofNat 1, .ofNat 0), (0, .ofNat 0, .ofNat 0)), (2, 1, (0, .ofNat 0, .ofNat 1), (0, .ofNat 0, .ofNat 0), (0, .ofNat 0, .ofNat 0)), (2, 5, (2, .ofNat 1, .ofNat 0), (5, .ofNat 1, .negSucc 0), (0, .ofNat 0, .ofNat 0)), (2, 3, (2, .ofNat 1, .ofNat 0), (0, .ofNat 0, .ofNat 0), (0, .ofNat 0, .ofNat 0)), (0, 122, (0, .ofNat 0, .ofNat 0), (5, .ofNat 1, .ofNat 0), (0, .ofNat 0, .ofNat 0)), (2, 1, (0, .ofNat 0, .ofNat 1), (0, .ofNat 0, .ofNat 0), (0, .ofNat 0, .ofNat 0)), (2, 5, (1, .ofNat 1, .ofNat 0), (4, .ofNat 1, .negSucc 0), (0, .ofNat 0, .ofNat 0)), (2, 3, (1, .ofNat 1, .ofNat 0), (0, .ofNat 0, .ofNat 0), (0, .ofNat 0, .ofNat 0)), (0, 122, (0, .ofNat 0, .ofNat 5), (4, .ofNat 1, .ofNat 0), (0, .ofNat 0, .ofNat 0))], [(1, [(.ofNat 0, .ofNat 15)]), (2, [(.ofNat 0, .ofNat 7)]), (3, [(.ofNat 0, .ofNat 7)]), (4, [(.ofNat 1, .ofNat 16)]), (5, [(.ofNat 1, .ofNat 8)]), (6, [(.ofNat 0, .ofNat 1)]), (7, [(.ofNat 0, .ofNat 9)]), (8, [(.ofNat 0, .ofNat 9)]), (10, [(.ofNat 0, .ofNat 1)])], [], []),
  (0, [], [.inl (false, (0, .ofNat 0, .negSucc 1))], [(2, 0, (0, .ofNat 0, .ofNat 0), (0, .ofNat 0, .ofNat 0), (0, .ofNat 0, .ofNat 0)), (2, 5, (11, .ofNat 1, .ofNat 0), (0, .ofNat 0, .ofNat 0), (0, .ofNat 0, .ofNat 0)), (0, 125, (3, .ofNat 1, .ofNat 0), (8, .ofNat 1, .ofNat 0), (0, .ofNat 0, .ofNat 0)), (2, 0, (9, .ofNat 1, .ofNat 0), (0, .ofNat 0, .ofNat 0), (0, .ofNat 0, .ofNat 0)), (2, 1, (6, .ofNat 1, .ofNat 0), (10, .ofNat 1, .ofNat 0), (0, .ofNat 0, .ofNat 0)), (0, 124, (3, .ofNat 1, .ofNat 0), (10, .ofNat 1, .ofNat 0), (0, .ofNat 0, .ofNat 0)), (0, 125, (3, .ofNat 1, .ofNat 0), (8, .ofNat 1, .ofNat 0), (0, .ofNat 0, .ofNat 0)), (2, 5, (7, .ofNat 1, .ofNat 0), (8, .ofNat 1, .ofNat 0), (0, .ofNat 0, .ofNat 0)), (0, 125, (3, .ofNat 1, .ofNat 0), (8, .ofNat 1, .ofNat 0), (0, .ofNat 0, .ofNat 0)), (0, 125, (2, .ofNat 1, .ofNat 0), (7, .ofNat 1, .ofNat 0), (0, .ofNat 0, .ofNat 0)), (0, 124, (2, .ofNat 1, .ofNat 0), (6, .ofNat 1, .ofNat 0), (0, .ofNat 0, .ofNat 0)), (2, 1, (0, .ofNat 0, .ofNat 1), (0, .ofNat 0, .ofNat 0), (0, .ofNat 0, .ofNat 0)), (2, 5, (3, .ofNat 1, .ofNat 0), (5, .ofNat 1, .negSucc 0), (0, .ofNat 0, .ofNat 0)), (2, 3, (3, .ofNat 1, .ofNat 0), (0, .ofNat 0, .ofNat 0), (0, .ofNat 0, .ofNat 0)), (0, 122, (0, .ofNat 0, .ofNat 0), (5, .ofNat 1, .ofNat 0), (0, .ofNat 0, .ofNat 0)), (2, 1, (0, .ofNat 0, .ofNat 1), (0, .ofNat 0, .ofNat 0), (0, .ofNat 0, .ofNat 0)), (2, 5, (2, .ofNat 1, .ofNat 0), (5, .ofNat 1, .negSucc 0), (0, .ofNat 0, .ofNat 0)), (2, 3, (2, .ofNat 1, .ofNat 0), (0, .ofNat 0, .ofNat 0), (0, .ofNat 0, .ofNat 0)), (0, 122, (0, .ofNat 0, .ofNat 0), (5, .ofNat 1, .ofNat 0), (0, .ofNat 0, .ofNat 0)), (2, 1, (0, .ofNat 0, .ofNat 1), (0, .ofNat 0, .ofNat 0), (0, .ofNat 0, .ofNat 0)), (2, 5, (1, .ofNat 1, .ofNat 0), (4, .ofNat 1, .negSucc 0), (0, .ofNat 0, .ofNat 0)), (2, 3, (1, .ofNat 1, .ofNat 0), (0, .ofNat 0, .ofNat 0), (0, .ofNat 0, .ofNat 0)), (0, 122, (0, .ofNat 0, .ofNat 5), (4, .ofNat 1, .ofNat 0), (0, .ofNat 0, .ofNat 0))], [(1, [(.ofNat 0, .ofNat 15)]), (2, [(.ofNat 0, .ofNat 7)]), (3, [(.ofNat 0, .ofNat 7)]), (4, [(.ofNat 1, .ofNat 16)]), (5, [(.ofNat 1, .ofNat 8)]), (6, [(.ofNat 0, .ofNat 1)]), (7, [(.ofNat 0, .ofNat 9)]), (8, [(.ofNat 0, .ofNat 9)]), (9, [(.ofNat 0, .ofNat 0)]), (10, [(.ofNat 0, .ofNat 1)]), (11, [(.ofNat 0, .ofNat 0)])], [((7, .ofNat 1, .ofNat 0), (8, .ofNat 1, .ofNat 0), (11, .ofNat 1, .ofNat 0)), ((8, .ofNat 1, .ofNat 0), (7, .negSucc 0, .ofNat 0), (9, .ofNat 1, .ofNat 0))], []),
  (40, [(0, .inr (.inl [122])), (1, .inl (false, (1, .ofNat 1, .ofNat 0))), (2, .inl (false, (2, .ofNat 1, .ofNat 0))), (3, .inl (false, (3, .ofNat 1, .ofNat 0)))], [.inr (.inl [122])], [(2, 1, (0, .ofNat 0, .ofNat 1), (0, .ofNat 0, .ofNat 0), (0, .ofNat 0, .ofNat 0)), (2, 4, (11, .ofNat 1, .ofNat 0), (0, .ofNat 0, .ofNat 0), (0, .ofNat 0, .ofNat 0)), (0, 125, (3, .ofNat 1, .ofNat 0), (8, .ofNat 1, .ofNat 0), (0, .ofNat 0, .ofNat 0)), (2, 0, (9, .ofNat 1, .ofNat 0), (0, .ofNat 0, .ofNat 0), (0, .ofNat 0, .ofNat 0)), (2, 1, (6, .ofNat 1, .ofNat 0), (10, .ofNat 1, .ofNat 0), (0, .ofNat 0, .ofNat 0)), (0, 124, (3, .ofNat 1, .ofNat 0), (10, .ofNat 1, .ofNat 0), (0, .ofNat 0, .ofNat 0)), (0, 125, (3, .ofNat 1, .ofNat 0), (8, .ofNat 1, .ofNat 0), (0, .ofNat 0, .ofNat 0)), (2, 5, (7, .ofNat 1, .ofNat 0), (8, .ofNat 1, .ofNat 0), (0, .ofNat 0, .ofNat 0)), (0, 125, (3, .ofNat 1, .ofNat 0), (8, .ofNat 1, .ofNat 0), (0, .ofNat 0, .ofNat 0)), (0, 125, (2, .ofNat 1, .ofNat 0), (7, .ofNat 1, .ofNat 0), (0, .ofNat 0, .ofNat 0)), (0, 124, (2, .ofNat 1, .ofNat 0), (6, .ofNat 1, .ofNat 0), (0, .ofNat 0, .ofNat 0)), (2, 1, (0, .ofNat 0, .ofNat 1), (0, .ofNat 0, .ofNat 0), (0, .ofNat 0, .ofNat 0)), (2, 5, (3, .ofNat 1, .ofNat 0), (5, .ofNat 1, .negSucc 0), (0, .ofNat 0, .ofNat 0)), (2, 3, (3, .ofNat 1, .ofNat 0), (0, .ofNat 0, .ofNat 0), (0, .ofNat 0, .ofNat 0)), (0, 122, (0, .ofNat 0, .ofNat 0), (5, .ofNat 1, .ofNat 0), (0, .ofNat 0, .ofNat 0)), (2, 1, (0, .ofNat 0, .ofNat 1), (0, .ofNat 0, .ofNat 0), (0, .ofNat 0, .ofNat 0)), (2, 5, (2, .ofNat 1, .ofNat 0), (5, .ofNat 1, .negSucc 0), (0, .ofNat 0, .ofNat 0)), (2, 3, (2, .ofNat 1, .ofNat 0), (0, .ofNat 0, .ofNat 0), (0, .ofNat 0, .ofNat 0)), (0, 122, (0, .ofNat 0, .ofNat 0), (5, .ofNat 1, .ofNat 0), (0, .ofNat 0, .ofNat 0)), (2, 1, (0, .ofNat 0, .ofNat 1), (0, .ofNat 0, .ofNat 0), (0, .ofNat 0, .ofNat 0)), (2, 5, (1, .ofNat 1, .ofNat 0), (4, .ofNat 1, .negSucc 0), (0, .ofNat 0, .ofNat 0)), (2, 3, (1, .ofNat 1, .ofNat 0), (0, .ofNat 0, .ofNat 0), (0, .ofNat 0, .ofNat 0)), (0, 122, (0, .ofNat 0, .ofNat 5), (4, .ofNat 1, .ofNat 0), (0, .ofNat 0, .ofNat 0))], [(1, [(.ofNat 0, .ofNat 15)]), (2, [(.ofNat 0, .ofNat 7)]), (3, [(.ofNat 0, .ofNat 7)]), (4, [(.ofNat 1, .ofNat 16)]), (5, [(.ofNat 1, .ofNat 8)]), (6, [(.ofNat 0, .ofNat 1)]), (7, [(.ofNat 0, .ofNat 9)]), (8, [(.ofNat 0, .ofNat 9)]), (9, [(.ofNat 0, .ofNat 0)]), (10, [(.ofNat 0, .ofNat 1)]), (11, [(.ofNat 1, .ofNat 18)])], [((7, .ofNat 1, .ofNat 0), (8, .ofNat 1, .ofNat 0), (11, .ofNat 1, .ofNat 0)), ((8, .ofNat 1, .ofNat 0), (7, .negSucc 0, .ofNat 0), (9, .ofNat 1, .ofNat 0))], []),
  (0, [], [.inl (false, (0, .ofNat 0, .negSucc 1))], [(2, 0, (0, .ofNat 0, .ofNat 0), (0, .ofNat 0, .ofNat 0), (0, .ofNat 0, .ofNat 0)), (2, 1, (9, .ofNat 1, .ofNat 0), (0, .ofNat 0, .ofNat 2), (0, .ofNat 0, .ofNat 0)), (2, 1, (9, .ofNat 1, .ofNat 0), (0, .ofNat 0, .ofNat 0), (0, .ofNat 0, .ofNat 0)), (2, 1, (6, .ofNat 1, .ofNat 0), (10, .ofNat 1, .ofNat 0), (0, .ofNat 0, .ofNat 0)), (0, 124, (3, .ofNat 1, .ofNat 0), (10, .ofNat 1, .ofNat 0), (0, .ofNat 0, .ofNat 0)), (0, 125, (3, .ofNat 1, .ofNat 0), (8, .ofNat 1, .ofNat 0), (0, .ofNat 0, .ofNat 0)), (2, 5, (7, .ofNat 1, .ofNat 0), (8, .ofNat 1, .ofNat 0), (0, .ofNat 0, .ofNat 0)), (0, 125, (3, .ofNat 1, .ofNat 0), (8, .ofNat 1, .ofNat 0), (0, .ofNat 0, .ofNat 0)), (0, 125, (2, .ofNat 1, .ofNat 0), (7, .ofNat 1, .ofNat 0), (0, .ofNat 0, .ofNat 0)), (0, 124, (2, .ofNat 1, .ofNat 0), (6, .ofNat 1, .ofNat 0), (0, .ofNat 0, .ofNat 0)), (2, 1, (0, .ofNat 0, .ofNat 1), (0, .ofNat 0, .ofNat 0), (0, .ofNat 0, .ofNat 0)), (2, 5, (3, .ofNat 1, .ofNat 0), (5, .ofNat 1, .negSucc 0), (0, .ofNat 0, .ofNat 0)), (2, 3, (3, .ofNat 1, .ofNat 0), (0, .ofNat 0, .ofNat 0), (0, .ofNat 0, .ofNat 0)), (0, 122, (0, .ofNat 0, .ofNat 0), (5, .ofNat 1, .ofNat 0), (0, .ofNat 0, .ofNat 0)), (2, 1, (0, .ofNat 0, .ofNat 1), (0, .ofNat 0, .ofNat 0), (0, .ofNat 0, .ofNat 0)), (2, 5, (2, .ofNat 1, .ofNat 0), (5, .ofNat 1, .negSucc 0), (0, .ofNat 0, .ofNat 0)), (2, 3, (2, .ofNat 1, .ofNat 0), (0, .ofNat 0, .ofNat 0), (0, .ofNat 0, .ofNat 0)), (0, 122, (0, .ofNat 0, .ofNat 0), (5, .ofNat 1, .ofNat 0), (0, .ofNat 0, .ofNat 0)), (2, 1, (0, .ofNat 0, .ofNat 1), (0, .ofNat 0, .ofNat 0), (0, .ofNat 0, .ofNat 0)), (2, 5, (1, .ofNat 1, .ofNat 0), (4, .ofNat 1, .negSucc 0), (0, .ofNat 0, .ofNat 0)), (2, 3, (1, .ofNat 1, .ofNat 0), (0, .ofNat 0, .ofNat 0), (0, .ofNat 0, .ofNat 0)), (0, 122, (0, .ofNat 0, .ofNat 5), (4, .ofNat 1, .ofNat 0), (0, .ofNat 0, .ofNat 0))], [(1, [(.ofNat 0, .ofNat 15)]), (2, [(.ofNat 0, .ofNat 7)]), (3, [(.ofNat 0, .ofNat 7)]), (4, [(.ofNat 1, .ofNat 16)]), (5, [(.ofNat 1, .ofNat 8)]), (6, [(.ofNat 0, .ofNat 1)]), (7, [(.ofNat 0, .ofNat 9)]), (8, [(.ofNat 0, .ofNat 9)]), (9, [(.negSucc 8, .negSucc 0), (.ofNat 1, .ofNat 1), (.ofNat 3, .ofNat 9)]), (10, [(.ofNat 0, .ofNat 1)])], [((8, .ofNat 1, .ofNat 0), (7, .negSucc 0, .ofNat 0), (9, .ofNat 1, .ofNat 0))], []),
  (0, [], [.inl (false, (0, .ofNat 0, .negSucc 1))], [(2, 0, (0, .ofNat 0, .ofNat 0), (0, .ofNat 0, .ofNat 0), (0, .ofNat 0, .ofNat 0)), (2, 5, (11, .ofNat 1, .ofNat 0), (0, .ofNat 0, .ofNat 0), (0, .ofNat 0, .ofNat 0)), (0, 125, (3, .ofNat 1, .ofNat 0), (8, .ofNat 1, .ofNat 0), (0, .ofNat 0, .ofNat 0)), (2, 0, (9, .ofNat 1, .ofNat 0), (0, .ofNat 0, .ofNat 2), (0, .ofNat 0, .ofNat 0)), (2, 1, (9, .ofNat 1, .ofNat 0), (0, .ofNat 0, .ofNat 0), (0, .ofNat 0, .ofNat 0)), (2, 1, (6, .ofNat 1, .ofNat 0), (10, .ofNat 1, .ofNat 0), (0, .ofNat 0, .ofNat 0)), (0, 124, (3, .ofNat 1, .ofNat 0), (10, .ofNat 1, .ofNat 0), (0, .ofNat 0, .ofNat 0)), (0, 125, (3, .ofNat 1, .ofNat 0), (8, .ofNat 1, .ofNat 0), (0, .ofNat 0, .ofNat 0)), (2, 5, (7, .ofNat 1, .ofNat 0), (8, .ofNat 1, .ofNat 0), (0, .ofNat 0, .ofNat 0)), (0, 125, (3, .ofNat 1, .ofNat 0), (8, .ofNat 1, .ofNat 0), (0, .ofNat 0, .ofNat 0)), (0, 125, (2, .ofNat 1, .ofNat 0), (7, .ofNat 1, .ofNat 0), (0, .ofNat 0, .ofNat 0)), (0, 124, (2, .ofNat 1, .ofNat 0), (6, .ofNat 1, .ofNat 0), (0, .ofNat 0, .ofNat 0)), (2, 1, (0, .ofNat 0, .ofNat 1), (0, .ofNat 0, .ofNat 0), (0, .ofNat 0, .ofNat 0)), (2, 5, (3, .ofNat 1, .ofNat 0), (5, .ofNat 1, .negSucc 0), (0, .ofNat 0, .ofNat 0)), (2, 3, (3, .ofNat 1, .ofNat 0), (0, .ofNat 0, .ofNat 0), (0, .ofNat 0, .ofNat 0)), (0, 122, (0, .ofNat 0, .ofNat 0), (5, .ofNat 1, .ofNat 0), (0, .ofNat 0, .ofNat 0)), (2, 1, (0, .ofNat 0, .ofNat 1), (0, .ofNat 0, .ofNat 0), (0, .ofNat 0, .ofNat 0)), (2, 5, (2, .ofNat 1, .ofNat 0), (5, .ofNat 1, .negSucc 0), (0, .ofNat 0, .ofNat 0)), (2, 3, (2, .ofNat 1, .ofNat 0), (0, .ofNat 0, .ofNat 0), (0, .ofNat 0, .ofNat 0)), (0, 122, (0, .ofNat 0, .ofNat 0), (5, .ofNat 1, .ofNat 0), (0, .ofNat 0, .ofNat 0)), (2, 1, (0, .ofNat 0, .ofNat 1), (0, .ofNat 0, .ofNat 0), (0, .ofNat 0, .ofNat 0)), (2, 5, (1, .ofNat 1, .ofNat 0), (4, .ofNat 1, .negSucc 0), (0, .ofNat 0, .ofNat 0)), (2, 3, (1, .ofNat 1, .ofNat 0), (0, .ofNat 0, .ofNat 0), (0, .ofNat 0, .ofNat 0)), (0, 122, (0, .ofNat 0, .ofNat 5), (4, .ofNat 1, .ofNat 0), (0, .ofNat 0, .ofNat 0))], [(1, [(.ofNat 0, .ofNat 15)]), (2, [(.ofNat 0, .ofNat 7)]), (3, [(.ofNat 0, .ofNat 7)]), (4, [(.ofNat 1, .ofNat 16)]), (5, [(.ofNat 1, .ofNat 8)]), (6, [(.ofNat 0, .ofNat 1)]), (7, [(.ofNat 0, .ofNat 9)]), (8, [(.ofNat 0, .ofNat 9)]), (9, [(.ofNat 2, .ofNat 2)]), (10, [(.ofNat 0, .ofNat 1)]), (11, [(.ofNat 0, .ofNat 0)])], [((7, .ofNat 1, .ofNat 0), (8, .ofNat 1, .ofNat 0), (11, .ofNat 1, .ofNat 0)), ((8, .ofNat 1, .ofNat 0), (7, .negSucc 0, .ofNat 0), (9, .ofNat 1, .ofNat 0))], []),
  (40, [(0, .inr (.inl [122])), (1, .inl (false, (1, .ofNat 1, .ofNat 0))), (2, .inl (false, (2, .ofNat 1, .ofNat 0))), (3, .inl (false, (3, .ofNat 1, .ofNat 0)))], [.inr (.inl [122])], [(2, 1, (0, .ofNat 0, .ofNat 1), (0, .ofNat 0, .ofNat 0), (0, .ofNat 0, .ofNat 0)), (2, 4, (11, .ofNat 1, .ofNat 0), (0, .ofNat 0, .ofNat 0), (0, .ofNat 0, .ofNat 0)), (0, 125, (3, .ofNat 1, .ofNat 0), (8, .ofNat 1, .ofNat 0), (0, .ofNat 0, .ofNat 0)), (2, 0, (9, .ofNat 1, .ofNat 0), (0, .ofNat 0, .ofNat 2), (0, .ofNat 0, .ofNat 0)), (2, 1, (9, .ofNat 1, .ofNat 0), (0, .ofNat 0, .ofNat 0), (0, .ofNat 0, .ofNat 0)), (2, 1, (6, .ofNat 1, .ofNat 0), (10, .ofNat 1, .ofNat 0), (0, .ofNat 0, .ofNat 0)), (0, 124, (3, .ofNat 1, .ofNat 0), (10, .ofNat 1, .ofNat 0), (0, .ofNat 0, .ofNat 0)), (0, 125, (3, .ofNat 1, .ofNat 0), (8, .ofNat 1, .ofNat 0), (0, .ofNat 0, .ofNat 0)), (2, 5, (7, .ofNat 1, .ofNat 0), (8, .ofNat 1, .ofNat 0), (0, .ofNat 0, .ofNat 0)), (0, 125, (3, .ofNat 1, .ofNat 0), (8, .ofNat 1, .ofNat 0), (0, .ofNat 0, .ofNat 0)), (0, 125, (2, .ofNat 1, .ofNat 0), (7, .ofNat 1, .ofNat 0), (0, .ofNat 0, .ofNat 0)), (0, 124, (2, .ofNat 1, .ofNat 0), (6, .ofNat 1, .ofNat 0), (0, .ofNat 0, .ofNat 0)), (2, 1, (0, .ofNat 0, .ofNat 1), (0, .ofNat 0, .ofNat 0), (0, .ofNat 0, .ofNat 0)), (2, 5, (3, .ofNat 1, .ofNat 0), (5, .ofNat 1, .negSucc 0), (0, .ofNat 0, .ofNat 0)), (2, 3, (3, .ofNat 1, .ofNat 0), (0, .ofNat 0, .ofNat 0), (0, .ofNat 0, .ofNat 0)), (0, 122, (0, .ofNat 0, .ofNat 0), (5, .ofNat 1, .ofNat 0), (0, .ofNat 0, .ofNat 0)), (2, 1, (0, .ofNat 0, .ofNat 1), (0, .ofNat 0, .ofNat 0), (0, .ofNat 0, .ofNat 0)), (2, 5, (2, .ofNat 1, .ofNat 0), (5, .ofNat 1, .negSucc 0), (0, .ofNat 0, .ofNat 0)), (2, 3, (2, .ofNat 1, .ofNat 0), (0, .ofNat 0, .ofNat 0), (0, .ofNat 0, .ofNat 0)), (0, 122, (0, .ofNat 0, .ofNat 0), (5, .ofNat 1, .ofNat 0), (0, .ofNat 0, .ofNat 0)), (2, 1, (0, .ofNat 0, .ofNat 1), (0, .ofNat 0, .ofNat 0), (0, .ofNat 0, .ofNat 0)), (2, 5, (1, .ofNat 1, .ofNat 0), (4, .ofNat 1, .negSucc 0), (0, .ofNat 0, .ofNat 0)), (2, 3, (1, .ofNat 1, .ofNat 0), (0, .ofNat 0, .ofNat 0), (0, .ofNat 0, .ofNat 0)), (0, 122, (0, .ofNat 0, .ofNat 5), (4, .ofNat 1, .ofNat 0), (0, .ofNat 0, .ofNat 0))], [(1, [(.ofNat 0, .ofNat 15)]), (2, [(.ofNat 0, .ofNat 7)]), (3, [(.ofNat 0, .ofNat 7)]), (4, [(.ofNat 1, .ofNat 16)]), (5, [(.ofNat 1, .ofNat 8)]), (6, [(.ofNat 0, .ofNat 1)]), (7, [(.ofNat 0, .ofNat 9)]), (8, [(.ofNat 0, .ofNat 9)]), (9, [(.ofNat 2, .ofNat 2)]), (10, [(.ofNat 0, .ofNat 1)]), (11, [(.ofNat 1, .ofNat 18)])], [((7, .ofNat 1, .ofNat 0), (8, .ofNat 1, .ofNat 0), (11, .ofNat 1, .ofNat 0)), ((8, .ofNat 1, .ofNat 0), (7, .negSucc 0, .ofNat 0), (9, .ofNat 1, .ofNat 0))], []),
  (0, [], [.inl (false, (0, .ofNat 0, .negSucc 1))], [(2, 0, (0, .ofNat 0, .ofNat 0), (0, .ofNat 0, .ofNat 0), (0, .ofNat 0, .ofNat 0)), (2, 0, (6, .ofNat 1, .ofNat 0), (10, .ofNat 1, .ofNat 0), (0, .ofNat 0, .ofNat 0)), (0, 124, (3, .ofNat 1, .ofNat 0), (10, .ofNat 1, .ofNat 0), (0, .ofNat 0, .ofNat 0)), (0, 125, (3, .ofNat 1, .ofNat 0), (8, .ofNat 1, .ofNat 0), (0, .ofNat 0, .ofNat 0)), (2, 4, (7, .ofNat 1, .ofNat 0), (8, .ofNat 1, .ofNat 0), (0, .ofNat 0, .ofNat 0)), (0, 125, (3, .ofNat 1, .ofNat 0), (8, .ofNat 1, .ofNat 0), (0, .ofNat 0, .ofNat 0)), (0, 125, (2, .ofNat 1, .ofNat 0), (7, .ofNat 1, .ofNat 0), (0, .ofNat 0, .ofNat 0)), (0, 124, (2, .ofNat 1, .ofNat 0), (6, .ofNat 1, .ofNat 0), (0, .ofNat 0, .ofNat 0)), (2, 1, (0, .ofNat 0, .ofNat 1), (0, .ofNat 0, .ofNat 0), (0, .ofNat 0, .ofNat 0)), (2, 5, (3, .ofNat 1, .ofNat 0), (5, .ofNat 1, .negSucc 0), (0, .ofNat 0, .ofNat 0)), (2, 3, (3, .ofNat 1, .ofNat 0), (0, .ofNat 0, .ofNat 0), (0, .ofNat 0, .ofNat 0)), (0, 122, (0, .ofNat 0, .ofNat 0), (5, .ofNat 1, .ofNat 0), (0, .ofNat 0, .ofNat 0)), (2, 1, (0, .ofNat 0, .ofNat 1), (0, .ofNat 0, .ofNat 0), (0, .ofNat 0, .ofNat 0)), (2, 5, (2, .ofNat 1, .ofNat 0), (5, .ofNat 1, .negSucc 0), (0, .ofNat 0, .ofNat 0)), (2, 3, (2, .ofNat 1, .ofNat 0), (0, .ofNat 0, .ofNat 0), (0, .ofNat 0, .ofNat 0)), (0, 122, (0, .ofNat 0, .ofNat 0), (5, .ofNat 1, .ofNat 0), (0, .ofNat 0, .ofNat 0)), (2, 1, (0, .ofNat 0, .ofNat 1), (0, .ofNat 0, .ofNat 0), (0, .ofNat 0, .ofNat 0)), (2, 5, (1, .ofNat 1, .ofNat 0), (4, .ofNat 1, .negSucc 0), (0, .ofNat 0, .ofNat 0)), (2, 3, (1, .ofNat 1, .ofNat 0), (0, .ofNat 0, .ofNat 0), (0, .ofNat 0, .ofNat 0)), (0, 122, (0, .ofNat 0, .ofNat 5), (4, .ofNat 1, .ofNat 0), (0, .ofNat 0, .ofNat 0))], [(1, [(.ofNat 0, .ofNat 15)]), (2, [(.ofNat 0, .ofNat 7)]), (3, [(.ofNat 0, .ofNat 7)]), (4, [(.ofNat 1, .ofNat 16)]), (5, [(.ofNat 1, .ofNat 8)]), (6, [(.ofNat 0, .ofNat 1)]), (7, [(.ofNat 1, .ofNat 9)]), (8, [(.ofNat 0, .ofNat 8)]), (10, [(.ofNat 0, .ofNat 1)])], [], []),
  (40, [(0, .inr (.inl [122])), (1, .inl (false, (1, .ofNat 1, .ofNat 0))), (2, .inl (false, (2, .ofNat 1, .ofNat 0))), (3, .inl (false, (3, .ofNat 1, .ofNat 0)))], [.inr (.inl [122])], [(2, 1, (0, .ofNat 0, .ofNat 1), (0, .ofNat 0, .ofNat 0), (0, .ofNat 0, .ofNat 0)), (2, 4, (11, .ofNat 1, .ofNat 0), (0, .ofNat 0, .ofNat 0), (0, .ofNat 0, .ofNat 0)), (0, 125, (3, .ofNat 1, .ofNat 0), (8, .ofNat 1, .ofNat 0), (0, .ofNat 0, .ofNat 0)), (2, 0, (9, .ofNat 1, .ofNat 0), (0, .ofNat 0, .ofNat 0), (0, .ofNat 0, .ofNat 0)), (2, 1, (6, .ofNat 1, .ofNat 0), (10, .ofNat 1, .ofNat 0), (0, .ofNat 0, .ofNat 0)), (0, 124, (3, .ofNat 1, .ofNat 0), (10, .ofNat 1, .ofNat 0), (0, .ofNat 0, .ofNat 0)), (0, 125, (3, .ofNat 1, .ofNat 0), (8, .ofNat 1, .ofNat 0), (0, .ofNat 0, .ofNat 0)), (2, 4, (7, .ofNat 1, .ofNat 0), (8, .ofNat 1, .ofNat 0), (0, .ofNat 0, .ofNat 0)), (0, 125, (3, .ofNat 1, .ofNat 0), (8, .ofNat 1, .ofNat 0), (0, .ofNat 0, .ofNat 0)), (0, 125, (2, .ofNat 1, .ofNat 0), (7, .ofNat 1, .ofNat 0), (0, .ofNat 0, .ofNat 0)), (0, 124, (2, .ofNat 1, .ofNat 0), (6, .ofNat 1, .ofNat 0), (0, .ofNat 0, .ofNat 0)), (2, 1, (0, .ofNat 0, .ofNat 1), (0, .ofNat 0, .ofNat 0), (0, .ofNat 0, .ofNat 0)), (2, 5, (3, .ofNat 1, .ofNat 0), (5, .ofNat 1, .negSucc 0), (0, .ofNat 0, .ofNat 0)), (2, 3, (3, .ofNat 1, .ofNat 0), (0, .ofNat 0, .ofNat 0), (0, .ofNat 0, .ofNat 0)), (0, 122, (0, .ofNat 0, .ofNat 0), (5, .ofNat 1, .ofNat 0), (0, .ofNat 0, .ofNat 0)), (2, 1, (0, .ofNat 0, .ofNat 1), (0, .ofNat 0, .ofNat 0), (0, .ofNat 0, .ofNat 0)), (2, 5, (2, .ofNat 1, .ofNat 0), (5, .ofNat 1, .negSucc 0), (0, .ofNat 0, .ofNat 0)), (2, 3, (2, .ofNat 1, .ofNat 0), (0, .ofNat 0, .ofNat 0), (0, .ofNat 0, .ofNat 0)), (0, 122, (0, .ofNat 0, .ofNat 0), (5, .ofNat 1, .ofNat 0), (0, .ofNat 0, .ofNat 0)), (2, 1, (0, .ofNat 0, .ofNat 1), (0, .ofNat 0, .ofNat 0), (0, .ofNat 0, .ofNat 0)), (2, 5, (1, .ofNat 1, .ofNat 0), (4, .ofNat 1, .negSucc 0), (0, .ofNat 0, .ofNat 0)), (2, 3, (1, .ofNat 1, .ofNat 0), (0, .ofNat 0, .ofNat 0), (0, .ofNat 0, .ofNat 0)), (0, 122, (0, .ofNat 0, .ofNat 5), (4, .ofNat 1, .ofNat 0), (0, .ofNat 0, .ofNat 0))], [(1, [(.ofNat 0, .ofNat 15)]), (2, [(.ofNat 0, .ofNat 7)]), (3, [(.ofNat 0, .ofNat 7)]), (4, [(.ofNat 1, .ofNat 16)]), (5, [(.ofNat 1, .ofNat 8)]), (6, [(.ofNat 0, .ofNat 1)]), (7, [(.ofNat 1, .ofNat 9)]), (8, [(.ofNat 0, .ofNat 8)]), (9, [(.ofNat 0, .ofNat 0)]), (10, [(.ofNat 0, .ofNat 1)]), (11, [(.ofNat 1, .ofNat 17)])], [((7, .ofNat 1, .ofNat 0), (8, .ofNat 1, .ofNat 0), (11, .ofNat 1, .ofNat 0)), ((7, .ofNat 1, .ofNat 0), (8, .negSucc 0, .ofNat 0), (9, .ofNat 1, .ofNat 0))], []),
  (0, [], [.inl (false, (0, .ofNat 0, .negSucc 1))], [(2, 0, (0, .ofNat 0, .ofNat 0), (0, .ofNat 0, .ofNat 0), (0, .ofNat 0, .ofNat 0)), (2, 1, (9, .ofNat 1, .ofNat 0), (0, .ofNat 0, .ofNat 2), (0, .ofNat 0, .ofNat 0)), (2, 1, (9, .ofNat 1, .ofNat 0), (0, .ofNat 0, .ofNat 0), (0, .ofNat 0, .ofNat 0)), (2, 1, (6, .ofNat 1, .ofNat 0), (10, .ofNat 1, .ofNat 0), (0, .ofNat 0, .ofNat 0)), (0, 124, (3, .ofNat 1, .ofNat 0), (10, .ofNat 1, .ofNat 0), (0, .ofNat 0, .ofNat 0)), (0, 125, (3, .ofNat 1, .ofNat 0), (8, .ofNat 1, .ofNat 0), (0, .ofNat 0, .ofNat 0)), (2, 4, (7, .ofNat 1, .ofNat 0), (8, .ofNat 1, .ofNat 0), (0, .ofNat 0, .ofNat 0)), (0, 125, (3, .ofNat 1, .ofNat 0), (8, .ofNat 1, .ofNat 0), (0, .ofNat 0, .ofNat 0)), (0, 125, (2, .ofNat 1, .ofNat 0), (7, .ofNat 1, .ofNat 0), (0, .ofNat 0, .ofNat 0)), (0, 124, (2, .ofNat 1, .ofNat 0), (6, .ofNat 1, .ofNat 0), (0, .ofNat 0, .ofNat 0)), (2, 1, (0, .ofNat 0, .ofNat 1), (0, .ofNat 0, .ofNat 0), (0, .ofNat 0, .ofNat 0)), (2, 5, (3, .ofNat 1, .ofNat 0), (5, .ofNat 1, .negSucc 0), (0, .ofNat 0, .ofNat 0)), (2, 3, (3, .ofNat 1, .ofNat 0), (0, .ofNat 0, .ofNat 0), (0, .ofNat 0, .ofNat 0)), (0, 122, (0, .ofNat 0, .ofNat 0), (5, .ofNat 1, .ofNat 0), (0, .ofNat 0, .ofNat 0)), (2, 1, (0, .ofNat 0, .ofNat 1), (0, .ofNat 0, .ofNat 0), (0, .ofNat 0, .ofNat 0)), (2, 5, (2, .ofNat 1, .ofNat 0), (5, .ofNat 1, .negSucc 0), (0, .ofNat 0, .ofNat 0)), (2, 3, (2, .ofNat 1, .ofNat 0), (0, .ofNat 0, .ofNat 0), (0, .ofNat 0, .ofNat 0)), (0, 122, (0, .ofNat 0, .ofNat 0), (5, .ofNat 1, .ofNat 0), (0, .ofNat 0, .ofNat 0)), (2, 1, (0, .ofNat 0, .ofNat 1), (0, .ofNat 0, .ofNat 0), (0, .ofNat 0, .ofNat 0)), (2, 5, (1, .ofNat 1, .ofNat 0), (4, .ofNat 1, .negSucc 0), (0, .ofNat 0, .ofNat 0)), (2, 3, (1, .ofNat 1, .ofNat 0), (0, .ofNat 0, .ofNat 0), (0, .ofNat 0, .ofNat 0)), (0, 122, (0, .ofNat 0, .ofNat 5), (4, .ofNat 1, .ofNat 0), (0, .ofNat 0, .ofNat 0))], [(1, [(.ofNat 0, .ofNat 15)]), (2, [(.ofNat 0, .ofNat 7)]), (3, [(.ofNat 0, .ofNat 7)]), (4, [(.ofNat 1, .ofNat 16)]), (5, [(.ofNat 1, .ofNat 8)]), (6, [(.ofNat 0, .ofNat 1)]), (7, [(.ofNat 1, .ofNat 9)]), (8, [(.ofNat 0, .ofNat 8)]), (9, [(.negSucc 6, .negSucc 0), (.ofNat 1, .ofNat 1), (.ofNat 3, .ofNat 9)]), (10, [(.ofNat 0, .ofNat 1)])], [((7, .ofNat 1, .ofNat 0), (8, .negSucc 0, .ofNat 0), (9, .ofNat 1, .ofNat 0))], []),
  (40, [(0, .inr (.inl [122])), (1, .inl (false, (1, .ofNat 1, .ofNat 0))), (2, .inl (false, (2, .ofNat 1, .ofNat 0))), (3, .inl (false, (3, .ofNat 1, .ofNat 0)))], [.inr (.inl [122])], [(2, 1, (0, .ofNat 0, .ofNat 1), (0, .ofNat 0, .ofNat 0), (0, .ofNat 0, .ofNat 0)), (2, 4, (11, .ofNat 1, .ofNat 0), (0, .ofNat 0, .ofNat 0), (0, .ofNat 0, .ofNat 0)), (0, 125, (3, .ofNat 1, .ofNat 0), (8, .ofNat 1, .ofNat 0), (0, .ofNat 0, .ofNat 0)), (2, 0, (9, .ofNat 1, .ofNat 0), (0, .ofNat 0, .ofNat 2), (0, .ofNat 0, .ofNat 0)), (2, 1, (9, .ofNat 1, .ofNat 0), (0, .ofNat 0, .ofNat 0), (0, .ofNat 0, .ofNat 0)), (2, 1, (6, .ofNat 1, .ofNat 0), (10, .ofNat 1, .ofNat 0), (0, .ofNat 0, .ofNat 0)), (0, 124, (3, .ofNat 1, .ofNat 0), (10, .ofNat 1, .ofNat 0), (0, .ofNat 0, .ofNat 0)), (0, 125, (3, .ofNat 1, .ofNat 0), (8, .ofNat 1, .ofNat 0), (0, .ofNat 0, .ofNat 0)), (2, 4, (7, .ofNat 1, .ofNat 0), (8, .ofNat 1, .ofNat 0), (0, .ofNat 0, .ofNat 0)), (0, 125, (3, .ofNat 1, .ofNat 0), (8, .ofNat 1, .ofNat 0), (0, .ofNat 0, .ofNat 0)), (0, 125, (2, .ofNat 1, .ofNat 0), (7, .ofNat 1, .ofNat 0), (0, .ofNat 0, .ofNat 0)), (0, 124, (2, .ofNat 1, .ofNat 0), (6, .ofNat 1, .ofNat 0), (0, .ofNat 0, .ofNat 0)), (2, 1, (0, .ofNat 0, .ofNat 1), (0, .ofNat 0, .ofNat 0), (0, .ofNat 0, .ofNat 0)), (2, 5, (3, .ofNat 1, .ofNat 0), (5, .ofNat 1, .negSucc 0), (0, .ofNat 0, .ofNat 0)), (2, 3, (3, .ofNat 1, .ofNat 0), (0, .ofNat 0, .ofNat 0), (0, .ofNat 0, .ofNat 0)), (0, 122, (0, .ofNat 0, .ofNat 0), (5, .ofNat 1, .ofNat 0), (0, .ofNat 0, .ofNat 0)), (2, 1, (0, .ofNat 0, .ofNat 1), (0, .ofNat 0, .ofNat 0), (0, .ofNat 0, .ofNat 0)), (2, 5, (2, .ofNat 1, .ofNat 0), (5, .ofNat 1, .negSucc 0), (0, .ofNat 0, .ofNat 0)), (2, 3, (2, .ofNat 1, .ofNat 0), (0, .ofNat 0, .ofNat 0), (0, .ofNat 0, .ofNat 0)), (0, 122, (0, .ofNat 0, .ofNat 0), (5, .ofNat 1, .ofNat 0), (0, .ofNat 0, .ofNat 0)), (2, 1, (0, .ofNat 0, .ofNat 1), (0, .ofNat 0, .ofNat 0), (0, .ofNat 0, .ofNat 0)), (2, 5, (1, .ofNat 1, .ofNat 0), (4, .ofNat 1, .negSucc 0), (0, .ofNat 0, .ofNat 0)), (2, 3, (1, .ofNat 1, .ofNat 0), (0, .ofNat 0, .ofNat 0), (0, .ofNat 0, .ofNat 0)), (0, 122, (0, .ofNat 0, .ofNat 5), (4, .ofNat 1, .ofNat 0), (0, .ofNat 0, .ofNat 0))], [(1, [(.ofNat 0, .ofNat 15)]), (2, [(.ofNat 0, .ofNat 7)]), (3, [(.ofNat 0, .ofNat 7)]), (4, [(.ofNat 1, .ofNat 16)]), (5, [(.ofNat 1, .ofNat 8)]), (6, [(.ofNat 0, .ofNat 1)]), (7, [(.ofNat 1, .ofNat 9)]), (8, [(.ofNat 0, .ofNat 8)]), (9, [(.ofNat 2, .ofNat 2)]), (10, [(.ofNat 0, .ofNat 1)]), (11, [(.ofNat 1, .ofNat 17)])], [((7, .ofNat 1, .ofNat 0), (8, .ofNat 1, .ofNat 0), (11, .ofNat 1, .ofNat 0)), ((7, .ofNat 1, .ofNat 0), (8, .negSucc 0, .ofNat 0), (9, .ofNat 1, .ofNat 0))], [])]
set_option maxRecDepth 1000000 in
theorem sg_gv_m0_g : sg_go [] [39] 3000 178 0 2 4 [(0, [(.ofNat 0, .ofNat 0)]), (1, [(.negSucc 2147483647, .ofNat 2147483647)]), (2, [(.negSucc 2147483647, .ofNat 2147483647)]), (3, [(.negSucc 2147483647, .ofNat 2147483647)])] [] [] [] [(0, .inr (.inl [122])), (1, .inl (false, (1, .ofNat 1, .ofNat 0))), (2, .inl (false, (2, .ofNat 1, .ofNat 0))), (3, .inl (false, (3, .ofNat 1, .ofNat 0)))] [] [] sg_gv_m0_Z = true := by decide +kernel
set_option maxRecDepth 100000 in
theorem sg_gv_m0 {Q : Option Value × am_S → Prop} {d : Nat} {S : am_S} {L : am_L} {x1 x2 x3 : Int} (hd : 2 ≤ d) (hP : ax_P0 none S) (l0 : lc L 0 122) (l1 : li L 1 x1) (l2 : li L 2 x2) (l3 : li L 3 x3) (b1 : ((-2147483648) ≤ x1 ∧ x1 ≤ 2147483647)) (b2 : ((-2147483648) ≤ x2 ∧ x2 ≤ 2147483647)) (b3 : ((-2147483648) ≤ x3 ∧ x3 ≤ 2147483647))
    (k0 : ∀ (x4 : Int) (i1 : Int32), rd S 122 5 = x4 → x1 < 0 → ((-2147483648) ≤ x1 ∧ x1 ≤ (-1)) → (0 ≤ x4 ∧ x4 ≤ 16) → i1.toInt = (-1) → Q (some (.int i1), S))
    (k1 : ∀ (x4 : Int) (i1 : Int32), rd S 122 5 = x4 → 0 ≤ x1 → x4 + (-1) < x1 → (0 ≤ x1 ∧ x1 ≤ 2147483647) → (0 ≤ x4 ∧ x4 ≤ 16) → i1.toInt = (-1) → Q (some (.int i1), S))
    (k2 : ∀ (x4 x5 : Int) (i1 : Int32), rd S 122 5 = x4 → 0 ≤ x1 → x1 ≤ x4 + (-1) → rd S 122 0 = x5 → x2 < 0 → (0 ≤ x1 ∧ x1 ≤ 15) → ((-2147483648) ≤ x2 ∧ x2 ≤ (-1)) → (1 ≤ x4 ∧ x4 ≤ 16) → (0 ≤ x5 ∧ x5 ≤ 8) → i1.toInt = (-1) → Q (some (.int i1), S))
    (k3 : ∀ (x4 x5 : Int) (i1 : Int32), rd S 122 5 = x4 → 0 ≤ x1 → x1 ≤ x4 + (-1) → rd S 122 0 = x5 → 0 ≤ x2 → x5 + (-1) < x2 → (0 ≤ x1 ∧ x1 ≤ 15) → (0 ≤ x2 ∧ x2 ≤ 2147483647) → (1 ≤ x4 ∧ x4 ≤ 16) → (0 ≤ x5 ∧ x5 ≤ 8) → i1.toInt = (-1) → Q (some (.int i1), S))
    (k4 : ∀ (x4 x5 : Int) (i1 : Int32), rd S 122 5 = x4 → 0 ≤ x1 → x1 ≤ x4 + (-1) → rd S 122 0 = x5 → 0 ≤ x2 → x2 ≤ x5 + (-1) → x3 < 0 → (0 ≤ x1 ∧ x1 ≤ 15) → (0 ≤ x2 ∧ x2 ≤ 7) → ((-2147483648) ≤ x3 ∧ x3 ≤ (-1)) → (1 ≤ x4 ∧ x4 ≤ 16) → (1 ≤ x5 ∧ x5 ≤ 8) → i1.toInt = (-1) → Q (some (.int i1), S))
    (k5 : ∀ (x4 x5 : Int) (i1 : Int32), rd S 122 5 = x4 → 0 ≤ x1 → x1 ≤ x4 + (-1) → rd S 122 0 = x5 → 0 ≤ x2 → x2 ≤ x5 + (-1) → 0 ≤ x3 → x5 + (-1) < x3 → (0 ≤ x1 ∧ x1 ≤ 15) → (0 ≤ x2 ∧ x2 ≤ 7) → (1 ≤ x3 ∧ x3 ≤ 2147483647) → (1 ≤ x4 ∧ x4 ≤ 16) → (1 ≤ x5 ∧ x5 ≤ 8) → i1.toInt = (-1) → Q (some (.int i1), S))
    (k6 : ∀ (x4 x5 x6 x7 x8 x10 : Int) (i1 : Int32), rd S 122 5 = x4 → 0 ≤ x1 → x1 ≤ x4 + (-1) → rd S 122 0 = x5 → 0 ≤ x2 → x2 ≤ x5 + (-1) → 0 ≤ x3 → x3 ≤ x5 + (-1) → rd S 124 x2 = x6 → rd S 125 x2 = x7 → rd S 125 x3 = x8 → x7 ≤ x8 → rd S 124 x3 = x10 → x6 = x10 → (0 ≤ x1 ∧ x1 ≤ 15) → (0 ≤ x2 ∧ x2 ≤ 7) → (0 ≤ x3 ∧ x3 ≤ 7) → (1 ≤ x4 ∧ x4 ≤ 16) → (1 ≤ x5 ∧ x5 ≤ 8) → (0 ≤ x6 ∧ x6 ≤ 1) → (0 ≤ x7 ∧ x7 ≤ 9) → (0 ≤ x8 ∧ x8 ≤ 9) → (0 ≤ x10 ∧ x10 ≤ 1) → i1.toInt = (-2) → Q (some (.int i1), S))
    (k7 : ∀ (x4 x5 x6 x7 x8 x9 x10 x11 : Int) (i1 : Int32), rd S 122 5 = x4 → 0 ≤ x1 → x1 ≤ x4 + (-1) → rd S 122 0 = x5 → 0 ≤ x2 → x2 ≤ x5 + (-1) → 0 ≤ x3 → x3 ≤ x5 + (-1) → rd S 124 x2 = x6 → rd S 125 x2 = x7 → rd S 125 x3 = x8 → x7 ≤ x8 → rd S 124 x3 = x10 → x6 ≠ x10 → x9 = 0 → x11 ≤ 0 → (0 ≤ x1 ∧ x1 ≤ 15) → (0 ≤ x2 ∧ x2 ≤ 7) → (0 ≤ x3 ∧ x3 ≤ 7) → (1 ≤ x4 ∧ x4 ≤ 16) → (1 ≤ x5 ∧ x5 ≤ 8) → (0 ≤ x6 ∧ x6 ≤ 1) → (0 ≤ x7 ∧ x7 ≤ 9) → (0 ≤ x8 ∧ x8 ≤ 9) → (0 ≤ x9 ∧ x9 ≤ 0) → (0 ≤ x10 ∧ x10 ≤ 1) → (0 ≤ x11 ∧ x11 ≤ 0) → x7 + x8 = x11 → x8 + ((-1) * x7 + 0) = x9 → i1.toInt = (-2) → Q (some (.int i1), S))
    (k8 : ∀ (x4 x5 x6 x7 x8 x9 x10 x11 : Int) (L' : am_L), rd S 122 5 = x4 → 0 ≤ x1 → x1 ≤ x4 + (-1) → rd S 122 0 = x5 → 0 ≤ x2 → x2 ≤ x5 + (-1) → 0 ≤ x3 → x3 ≤ x5 + (-1) → rd S 124 x2 = x6 → rd S 125 x2 = x7 → rd S 125 x3 = x8 → x7 ≤ x8 → rd S 124 x3 = x10 → x6 ≠ x10 → x9 = 0 → 0 < x11 → (0 ≤ x1 ∧ x1 ≤ 15) → (0 ≤ x2 ∧ x2 ≤ 7) → (0 ≤ x3 ∧ x3 ≤ 7) → (1 ≤ x4 ∧ x4 ≤ 16) → (1 ≤ x5 ∧ x5 ≤ 8) → (0 ≤ x6 ∧ x6 ≤ 1) → (0 ≤ x7 ∧ x7 ≤ 9) → (0 ≤ x8 ∧ x8 ≤ 9) → (0 ≤ x9 ∧ x9 ≤ 0) → (0 ≤ x10 ∧ x10 ≤ 1) → (1 ≤ x11 ∧ x11 ≤ 18) → x7 + x8 = x11 → x8 + ((-1) * x7 + 0) = x9 → lc L' 0 122 → li L' 1 x1 → li L' 2 x2 → li L' 3 x3 → am_V none d 178 39 L' ((.ref 122) :: []) S Q)
    (k9 : ∀ (x4 x5 x6 x7 x8 x9 x10 : Int) (i1 : Int32), rd S 122 5 = x4 → 0 ≤ x1 → x1 ≤ x4 + (-1) → rd S 122 0 = x5 → 0 ≤ x2 → x2 ≤ x5 + (-1) → 0 ≤ x3 → x3 ≤ x5 + (-1) → rd S 124 x2 = x6 → rd S 125 x2 = x7 → rd S 125 x3 = x8 → x7 ≤ x8 → rd S 124 x3 = x10 → x6 ≠ x10 → x9 ≠ 0 → x9 ≠ 2 → (0 ≤ x1 ∧ x1 ≤ 15) → (0 ≤ x2 ∧ x2 ≤ 7) → (0 ≤ x3 ∧ x3 ≤ 7) → (1 ≤ x4 ∧ x4 ≤ 16) → (1 ≤ x5 ∧ x5 ≤ 8) → (0 ≤ x6 ∧ x6 ≤ 1) → (0 ≤ x7 ∧ x7 ≤ 9) → (0 ≤ x8 ∧ x8 ≤ 9) → ((-9) ≤ x9 ∧ x9 ≤ (-1)) ∨ (1 ≤ x9 ∧ x9 ≤ 1) ∨ (3 ≤ x9 ∧ x9 ≤ 9) → (0 ≤ x10 ∧ x10 ≤ 1) → x8 + ((-1) * x7 + 0) = x9 → i1.toInt = (-2) → Q (some (.int i1), S))
    (k10 : ∀ (x4 x5 x6 x7 x8 x9 x10 x11 : Int) (i1 : Int32), rd S 122 5 = x4 → 0 ≤ x1 → x1 ≤ x4 + (-1) → rd S 122 0 = x5 → 0 ≤ x2 → x2 ≤ x5 + (-1) → 0 ≤ x3 → x3 ≤ x5 + (-1) → rd S 124 x2 = x6 → rd S 125 x2 = x7 → rd S 125 x3 = x8 → x7 ≤ x8 → rd S 124 x3 = x10 → x6 ≠ x10 → x9 ≠ 0 → x9 = 2 → x11 ≤ 0 → (0 ≤ x1 ∧ x1 ≤ 15) → (0 ≤ x2 ∧ x2 ≤ 7) → (0 ≤ x3 ∧ x3 ≤ 7) → (1 ≤ x4 ∧ x4 ≤ 16) → (1 ≤ x5 ∧ x5 ≤ 8) → (0 ≤ x6 ∧ x6 ≤ 1) → (0 ≤ x7 ∧ x7 ≤ 9) → (0 ≤ x8 ∧ x8 ≤ 9) → (2 ≤ x9 ∧ x9 ≤ 2) → (0 ≤ x10 ∧ x10 ≤ 1) → (0 ≤ x11 ∧ x11 ≤ 0) → x7 + x8 = x11 → x8 + ((-1) * x7 + 0) = x9 → i1.toInt = (-2) → Q (some (.int i1), S))
    (k11 : ∀ (x4 x5 x6 x7 x8 x9 x10 x11 : Int) (L' : am_L), rd S 122 5 = x4 → 0 ≤ x1 → x1 ≤ x4 + (-1) → rd S 122 0 = x5 → 0 ≤ x2 → x2 ≤ x5 + (-1) → 0 ≤ x3 → x3 ≤ x5 + (-1) → rd S 124 x2 = x6 → rd S 125 x2 = x7 → rd S 125 x3 = x8 → x7 ≤ x8 → rd S 124 x3 = x10 → x6 ≠ x10 → x9 ≠ 0 → x9 = 2 → 0 < x11 → (0 ≤ x1 ∧ x1 ≤ 15) → (0 ≤ x2 ∧ x2 ≤ 7) → (0 ≤ x3 ∧ x3 ≤ 7) → (1 ≤ x4 ∧ x4 ≤ 16) → (1 ≤ x5 ∧ x5 ≤ 8) → (0 ≤ x6 ∧ x6 ≤ 1) → (0 ≤ x7 ∧ x7 ≤ 9) → (0 ≤ x8 ∧ x8 ≤ 9) → (2 ≤ x9 ∧ x9 ≤ 2) → (0 ≤ x10 ∧ x10 ≤ 1) → (1 ≤ x11 ∧ x11 ≤ 18) → x7 + x8 = x11 → x8 + ((-1) * x7 + 0) = x9 → lc L' 0 122 → li L' 1 x1 → li L' 2 x2 → li L' 3 x3 → am_V none d 178 39 L' ((.ref 122) :: []) S Q)
    (k12 : ∀ (x4 x5 x6 x7 x8 x10 : Int) (i1 : Int32), rd S 122 5 = x4 → 0 ≤ x1 → x1 ≤ x4 + (-1) → rd S 122 0 = x5 → 0 ≤ x2 → x2 ≤ x5 + (-1) → 0 ≤ x3 → x3 ≤ x5 + (-1) → rd S 124 x2 = x6 → rd S 125 x2 = x7 → rd S 125 x3 = x8 → x8 < x7 → rd S 124 x3 = x10 → x6 = x10 → (0 ≤ x1 ∧ x1 ≤ 15) → (0 ≤ x2 ∧ x2 ≤ 7) → (0 ≤ x3 ∧ x3 ≤ 7) → (1 ≤ x4 ∧ x4 ≤ 16) → (1 ≤ x5 ∧ x5 ≤ 8) → (0 ≤ x6 ∧ x6 ≤ 1) → (1 ≤ x7 ∧ x7 ≤ 9) → (0 ≤ x8 ∧ x8 ≤ 8) → (0 ≤ x10 ∧ x10 ≤ 1) → i1.toInt = (-2) → Q (some (.int i1), S))
    (k13 : ∀ (x4 x5 x6 x7 x8 x9 x10 x11 : Int) (L' : am_L), rd S 122 5 = x4 → 0 ≤ x1 → x1 ≤ x4 + (-1) → rd S 122 0 = x5 → 0 ≤ x2 → x2 ≤ x5 + (-1) → 0 ≤ x3 → x3 ≤ x5 + (-1) → rd S 124 x2 = x6 → rd S 125 x2 = x7 → rd S 125 x3 = x8 → x8 < x7 → rd S 124 x3 = x10 → x6 ≠ x10 → x9 = 0 → 0 < x11 → (0 ≤ x1 ∧ x1 ≤ 15) → (0 ≤ x2 ∧ x2 ≤ 7) → (0 ≤ x3 ∧ x3 ≤ 7) → (1 ≤ x4 ∧ x4 ≤ 16) → (1 ≤ x5 ∧ x5 ≤ 8) → (0 ≤ x6 ∧ x6 ≤ 1) → (1 ≤ x7 ∧ x7 ≤ 9) → (0 ≤ x8 ∧ x8 ≤ 8) → (0 ≤ x9 ∧ x9 ≤ 0) → (0 ≤ x10 ∧ x10 ≤ 1) → (1 ≤ x11 ∧ x11 ≤ 17) → x7 + x8 = x11 → x7 + ((-1) * x8 + 0) = x9 → lc L' 0 122 → li L' 1 x1 → li L' 2 x2 → li L' 3 x3 → am_V none d 178 39 L' ((.ref 122) :: []) S Q)
    (k14 : ∀ (x4 x5 x6 x7 x8 x9 x10 : Int) (i1 : Int32), rd S 122 5 = x4 → 0 ≤ x1 → x1 ≤ x4 + (-1) → rd S 122 0 = x5 → 0 ≤ x2 → x2 ≤ x5 + (-1) → 0 ≤ x3 → x3 ≤ x5 + (-1) → rd S 124 x2 = x6 → rd S 125 x2 = x7 → rd S 125 x3 = x8 → x8 < x7 → rd S 124 x3 = x10 → x6 ≠ x10 → x9 ≠ 0 → x9 ≠ 2 → (0 ≤ x1 ∧ x1 ≤ 15) → (0 ≤ x2 ∧ x2 ≤ 7) → (0 ≤ x3 ∧ x3 ≤ 7) → (1 ≤ x4 ∧ x4 ≤ 16) → (1 ≤ x5 ∧ x5 ≤ 8) → (0 ≤ x6 ∧ x6 ≤ 1) → (1 ≤ x7 ∧ x7 ≤ 9) → (0 ≤ x8 ∧ x8 ≤ 8) → ((-7) ≤ x9 ∧ x9 ≤ (-1)) ∨ (1 ≤ x9 ∧ x9 ≤ 1) ∨ (3 ≤ x9 ∧ x9 ≤ 9) → (0 ≤ x10 ∧ x10 ≤ 1) → x7 + ((-1) * x8 + 0) = x9 → i1.toInt = (-2) → Q (some (.int i1), S))
    (k15 : ∀ (x4 x5 x6 x7 x8 x9 x10 x11 : Int) (L' : am_L), rd S 122 5 = x4 → 0 ≤ x1 → x1 ≤ x4 + (-1) → rd S 122 0 = x5 → 0 ≤ x2 → x2 ≤ x5 + (-1) → 0 ≤ x3 → x3 ≤ x5 + (-1) → rd S 124 x2 = x6 → rd S 125 x2 = x7 → rd S 125 x3 = x8 → x8 < x7 → rd S 124 x3 = x10 → x6 ≠ x10 → x9 ≠ 0 → x9 = 2 → 0 < x11 → (0 ≤ x1 ∧ x1 ≤ 15) → (0 ≤ x2 ∧ x2 ≤ 7) → (0 ≤ x3 ∧ x3 ≤ 7) → (1 ≤ x4 ∧ x4 ≤ 16) → (1 ≤ x5 ∧ x5 ≤ 8) → (0 ≤ x6 ∧ x6 ≤ 1) → (1 ≤ x7 ∧ x7 ≤ 9) → (0 ≤ x8 ∧ x8 ≤ 8) → (2 ≤ x9 ∧ x9 ≤ 2) → (0 ≤ x10 ∧ x10 ≤ 1) → (1 ≤ x11 ∧ x11 ≤ 17) → x7 + x8 = x11 → x7 + ((-1) * x8 + 0) = x9 → lc L' 0 122 → li L' 1 x1 → li L' 2 x2 → li L' 3 x3 → am_V none d 178 39 L' ((.ref 122) :: []) S Q) : am_V none d 178 0 L ([]) S Q := by
  refine sg_use sg_gv_m0_g hd hP (sg_xs [0, x1, x2, x3]) ⟨⟨Int.le_refl 0, Int.le_refl 0⟩, b1, b2, b3, trivial⟩ trivial trivial trivial ⟨l0, l1, l2, l3, trivial⟩ trivial ?_
  intro z hz x' L' st' S' hx hP' hW hL' hs' hJ hE' hT' hD'
  have q1 : x' 1 = x1 := hx 1 (by decide)
  subst q1
  have q2 : x' 2 = x2 := hx 2 (by decide)
  subst q2
  have q3 : x' 3 = x3 := hx 3 (by decide)
  subst q3
  have eS : S' = S := hW.1 rfl
  subst eS
  simp only [sg_gv_m0_Z, List.mem_cons, List.not_mem_nil, or_false] at hz
  rcases hz with rfl | rfl | rfl | rfl | rfl | rfl | rfl | rfl | rfl | rfl | rfl | rfl | rfl | rfl | rfl | rfl
  · obtain ⟨f0, f1, -, hσ⟩ := hJ
    obtain ⟨e0, e1, -⟩ := hE'
    intro v hv
    subst hv
    cases v with
    | none => exact hs'.elim
    | some v1 =>
      obtain ⟨⟨i1, rfl, g1⟩, -⟩ := hs'
      exact k0 (x' 4) i1 f0 f1 e0 e1 g1
  · obtain ⟨f0, f1, f2, -, hσ⟩ := hJ
    obtain ⟨e0, e1, -⟩ := hE'
    intro v hv
    subst hv
    cases v with
    | none => exact hs'.elim
    | some v1 =>
      obtain ⟨⟨i1, rfl, g1⟩, -⟩ := hs'
      exact k1 (x' 4) i1 f0 f1 f2 e0 e1 g1
  · obtain ⟨f0, f1, f2, -, f4, f5, -, hσ⟩ := hJ
    obtain ⟨e0, e1, e2, e3, -⟩ := hE'
    intro v hv
    subst hv
    cases v with
    | none => exact hs'.elim
    | some v1 =>
      obtain ⟨⟨i1, rfl, g1⟩, -⟩ := hs'
      exact k2 (x' 4) (x' 5) i1 f0 f1 f2 f4 f5 e0 e1 e2 e3 g1
  · obtain ⟨f0, f1, f2, -, f4, f5, f6, -, hσ⟩ := hJ
    obtain ⟨e0, e1, e2, e3, -⟩ := hE'
    intro v hv
    subst hv
    cases v with
    | none => exact hs'.elim
    | some v1 =>
      obtain ⟨⟨i1, rfl, g1⟩, -⟩ := hs'
      exact k3 (x' 4) (x' 5) i1 f0 f1 f2 f4 f5 f6 e0 e1 e2 e3 g1
  · obtain ⟨f0, f1, f2, -, f4, f5, f6, -, -, f9, -, hσ⟩ := hJ
    obtain ⟨e0, e1, e2, e3, e4, -⟩ := hE'
    intro v hv
    subst hv
    cases v with
    | none => exact hs'.elim
    | some v1 =>
      obtain ⟨⟨i1, rfl, g1⟩, -⟩ := hs'
      exact k4 (x' 4) (x' 5) i1 f0 f1 f2 f4 f5 f6 f9 e0 e1 e2 e3 e4 g1
  · obtain ⟨f0, f1, f2, -, f4, f5, f6, -, -, f9, f10, -, hσ⟩ := hJ
    obtain ⟨e0, e1, e2, e3, e4, -⟩ := hE'
    intro v hv
    subst hv
    cases v with
    | none => exact hs'.elim
    | some v1 =>
      obtain ⟨⟨i1, rfl, g1⟩, -⟩ := hs'
      exact k5 (x' 4) (x' 5) i1 f0 f1 f2 f4 f5 f6 f9 f10 e0 e1 e2 e3 e4 g1
  · obtain ⟨f0, f1, f2, -, f4, f5, f6, -, -, f9, f10, -, f12, f13, f14, f15, -, f17, f18, -, hσ⟩ := hJ
    obtain ⟨e0, e1, e2, e3, e4, e5, e6, e7, e8, -⟩ := hE'
    intro v hv
    subst hv
    cases v with
    | none => exact hs'.elim
    | some v1 =>
      obtain ⟨⟨i1, rfl, g1⟩, -⟩ := hs'
      exact k6 (x' 4) (x' 5) (x' 6) (x' 7) (x' 8) (x' 10) i1 f0 f1 f2 f4 f5 f6 f9 f10 f12 f13 f14 f15 f17 f18 e0 e1 e2 e3 e4 e5 e6 e7 e8 g1
  · obtain ⟨f0, f1, f2, -, f4, f5, f6, -, -, f9, f10, -, f12, f13, f14, f15, -, f17, f18, f19, -, f21, -, hσ⟩ := hJ
    obtain ⟨e0, e1, e2, e3, e4, e5, e6, e7, e8, e9, e10, -⟩ := hE'
    obtain ⟨t0, t1, -⟩ := hT'
    intro v hv
    subst hv
    cases v with
    | none => exact hs'.elim
    | some v1 =>
      obtain ⟨⟨i1, rfl, g1⟩, -⟩ := hs'
      exact k7 (x' 4) (x' 5) (x' 6) (x' 7) (x' 8) (x' 9) (x' 10) (x' 11) i1 f0 f1 f2 f4 f5 f6 f9 f10 f12 f13 f14 f15 f17 f18 f19 f21 e0 e1 e2 e3 e4 e5 e6 e7 e8 e9 e10 t0 t1 g1
  · obtain ⟨f0, f1, f2, -, f4, f5, f6, -, -, f9, f10, -, f12, f13, f14, f15, -, f17, f18, f19, -, f21, -, hσ⟩ := hJ
    obtain ⟨e0, e1, e2, e3, e4, e5, e6, e7, e8, e9, e10, -⟩ := hE'
    obtain ⟨t0, t1, -⟩ := hT'
    obtain ⟨p0, p1, p2, p3, -⟩ := hL'
    obtain ⟨v1, r1, rfl, rfl, hs1⟩ := sg_tc hs'
    obtain rfl := sg_tn hs1
    exact k8 (x' 4) (x' 5) (x' 6) (x' 7) (x' 8) (x' 9) (x' 10) (x' 11) L' f0 f1 f2 f4 f5 f6 f9 f10 f12 f13 f14 f15 f17 f18 f19 f21 e0 e1 e2 e3 e4 e5 e6 e7 e8 e9 e10 t0 t1 p0 p1 p2 p3
  · obtain ⟨f0, f1, f2, -, f4, f5, f6, -, -, f9, f10, -, f12, f13, f14, f15, -, f17, f18, f19, f20, -, hσ⟩ := hJ
    obtain ⟨e0, e1, e2, e3, e4, e5, e6, e7, e8, e9, -⟩ := hE'
    obtain ⟨t0, -⟩ := hT'
    intro v hv
    subst hv
    cases v with
    | none => exact hs'.elim
    | some v1 =>
      obtain ⟨⟨i1, rfl, g1⟩, -⟩ := hs'
      exact k9 (x' 4) (x' 5) (x' 6) (x' 7) (x' 8) (x' 9) (x' 10) i1 f0 f1 f2 f4 f5 f6 f9 f10 f12 f13 f14 f15 f17 f18 f19 f20 e0 e1 e2 e3 e4 e5 e6 e7 e8 e9 t0 g1
  · obtain ⟨f0, f1, f2, -, f4, f5, f6, -, -, f9, f10, -, f12, f13, f14, f15, -, f17, f18, f19, f20, -, f22, -, hσ⟩ := hJ
    obtain ⟨e0, e1, e2, e3, e4, e5, e6, e7, e8, e9, e10, -⟩ := hE'
    obtain ⟨t0, t1, -⟩ := hT'
    intro v hv
    subst hv
    cases v with
    | none => exact hs'.elim
    | some v1 =>
      obtain ⟨⟨i1, rfl, g1⟩, -⟩ := hs'
      exact k10 (x' 4) (x' 5) (x' 6) (x' 7) (x' 8) (x' 9) (x' 10) (x' 11) i1 f0 f1 f2 f4 f5 f6 f9 f10 f12 f13 f14 f15 f17 f18 f19 f20 f22 e0 e1 e2 e3 e4 e5 e6 e7 e8 e9 e10 t0 t1 g1
  · obtain ⟨f0, f1, f2, -, f4, f5, f6, -, -, f9, f10, -, f12, f13, f14, f15, -, f17, f18, f19, f20, -, f22, -, hσ⟩ := hJ
    obtain ⟨e0, e1, e2, e3, e4, e5, e6, e7, e8, e9, e10, -⟩ := hE'
    obtain ⟨t0, t1, -⟩ := hT'
    obtain ⟨p0, p1, p2, p3, -⟩ := hL'
    obtain ⟨v1, r1, rfl, rfl, hs1⟩ := sg_tc hs'
    obtain rfl := sg_tn hs1
    exact k11 (x' 4) (x' 5) (x' 6) (x' 7) (x' 8) (x' 9) (x' 10) (x' 11) L' f0 f1 f2 f4 f5 f6 f9 f10 f12 f13 f14 f15 f17 f18 f19 f20 f22 e0 e1 e2 e3 e4 e5 e6 e7 e8 e9 e10 t0 t1 p0 p1 p2 p3
  · obtain ⟨f0, f1, f2, -, f4, f5, f6, -, -, f9, f10, -, f12, f13, f14, f15, -, f17, f18, -, hσ⟩ := hJ
    obtain ⟨e0, e1, e2, e3, e4, e5, e6, e7, e8, -⟩ := hE'
    intro v hv
    subst hv
    cases v with
    | none => exact hs'.elim
    | some v1 =>
      obtain ⟨⟨i1, rfl, g1⟩, -⟩ := hs'
      exact k12 (x' 4) (x' 5) (x' 6) (x' 7) (x' 8) (x' 10) i1 f0 f1 f2 f4 f5 f6 f9 f10 f12 f13 f14 f15 f17 f18 e0 e1 e2 e3 e4 e5 e6 e7 e8 g1
  · obtain ⟨f0, f1, f2, -, f4, f5, f6, -, -, f9, f10, -, f12, f13, f14, f15, -, f17, f18, f19, -, f21, -, hσ⟩ := hJ
    obtain ⟨e0, e1, e2, e3, e4, e5, e6, e7, e8, e9, e10, -⟩ := hE'
    obtain ⟨t0, t1, -⟩ := hT'
    obtain ⟨p0, p1, p2, p3, -⟩ := hL'
    obtain ⟨v1, r1, rfl, rfl, hs1⟩ := sg_tc hs'
    obtain rfl := sg_tn hs1
    exact k13 (x' 4) (x' 5) (x' 6) (x' 7) (x' 8) (x' 9) (x' 10) (x' 11) L' f0 f1 f2 f4 f5 f6 f9 f10 f12 f13 f14 f15 f17 f18 f19 f21 e0 e1 e2 e3 e4 e5 e6 e7 e8 e9 e10 t0 t1 p0 p1 p2 p3
  · obtain ⟨f0, f1, f2, -, f4, f5, f6, -, -, f9, f10, -, f12, f13, f14, f15, -, f17, f18, f19, f20, -, hσ⟩ := hJ
    obtain ⟨e0, e1, e2, e3, e4, e5, e6, e7, e8, e9, -⟩ := hE'
    obtain ⟨t0, -⟩ := hT'
    intro v hv
    subst hv
    cases v with
    | none => exact hs'.elim
    | some v1 =>
      obtain ⟨⟨i1, rfl, g1⟩, -⟩ := hs'
      exact k14 (x' 4) (x' 5) (x' 6) (x' 7) (x' 8) (x' 9) (x' 10) i1 f0 f1 f2 f4 f5 f6 f9 f10 f12 f13 f14 f15 f17 f18 f19 f20 e0 e1 e2 e3 e4 e5 e6 e7 e8 e9 t0 g1
  · obtain ⟨f0, f1, f2, -, f4, f5, f6, -, -, f9, f10, -, f12, f13, f14, f15, -, f17, f18, f19, f20, -, f22, -, hσ⟩ := hJ
    obtain ⟨e0, e1, e2, e3, e4, e5, e6, e7, e8, e9, e10, -⟩ := hE'
    obtain ⟨t0, t1, -⟩ := hT'
    obtain ⟨p0, p1, p2, p3, -⟩ := hL'
    obtain ⟨v1, r1, rfl, rfl, hs1⟩ := sg_tc hs'
    obtain rfl := sg_tn hs1
    exact k15 (x' 4) (x' 5) (x' 6) (x' 7) (x' 8) (x' 9) (x' 10) (x' 11) L' f0 f1 f2 f4 f5 f6 f9 f10 f12 f13 f14 f15 f17 f18 f19 f20 f22 e0 e1 e2 e3 e4 e5 e6 e7 e8 e9 e10 t0 t1 p0 p1 p2 p3
def sg_gv_m1_Z : List sg_z := [(0, [], [.inl (false, (0, .ofNat 0, .ofNat 1))], [(1, 131, (1, .ofNat 1, .ofNat 0), (3, .ofNat 1, .ofNat 0), (0, .ofNat 0, .ofNat 0)), (1, 130, (1, .ofNat 1, .ofNat 0), (2, .ofNat 1, .ofNat 0), (0, .ofNat 0, .ofNat 0))], [(1, [(.ofNat 0, .ofNat 15)]), (2, [(.ofNat 0, .ofNat 7)]), (3, [(.ofNat 0, .ofNat 7)]), (4, [(.ofNat 0, .ofNat 8)])], [], [])]
set_option maxRecDepth 1000000 in
theorem sg_gv_m1_g : sg_go [] [] 3000 178 42 0 5 [(0, [(.ofNat 0, .ofNat 0)]), (1, [(.ofNat 0, .ofNat 15)]), (2, [(.ofNat 0, .ofNat 7)]), (3, [(.ofNat 0, .ofNat 7)]), (4, [(.ofNat 0, .ofNat 8)])] [(122, (0, .ofNat 0, .ofNat 0), (4, .ofNat 1, .ofNat 0))] [] [((2, .ofNat 1, .ofNat 1), (4, .ofNat 1, .ofNat 0)), ((3, .ofNat 1, .ofNat 1), (4, .ofNat 1, .ofNat 0))] [(0, .inr (.inl [122])), (1, .inl (false, (1, .ofNat 1, .ofNat 0))), (2, .inl (false, (2, .ofNat 1, .ofNat 0))), (3, .inl (false, (3, .ofNat 1, .ofNat 0)))] [] [(130, none), (131, none)] sg_gv_m1_Z = true := by decide +kernel
set_option maxRecDepth 100000 in
theorem sg_gv_m1 {Q : Option Value × am_S → Prop} {d : Nat} {S : am_S} {L : am_L} {x1 x2 x3 x4 : Int} (hd : 0 ≤ d) (hP : ax_P0 none S) (l0 : lc L 0 122) (l1 : li L 1 x1) (l2 : li L 2 x2) (l3 : li L 3 x3) (b1 : (0 ≤ x1 ∧ x1 ≤ 15)) (b2 : (0 ≤ x2 ∧ x2 ≤ 7)) (b3 : (0 ≤ x3 ∧ x3 ≤ 7)) (b4 : (0 ≤ x4 ∧ x4 ≤ 8)) (m122_0 : rd S 122 0 = x4) (c0 : x2 + 1 ≤ x4) (c1 : x3 + 1 ≤ x4)
    (k0 : ∀ (S' : am_S) (i1 : Int32), ax_P0 none S' → rd S' = sg_up (sg_up (rd S) 130 x1 x2) 131 x1 x3 → (0 ≤ x1 ∧ x1 ≤ 15) → (0 ≤ x2 ∧ x2 ≤ 7) → (0 ≤ x3 ∧ x3 ≤ 7) → (0 ≤ x4 ∧ x4 ≤ 8) → i1.toInt = 1 → Q (some (.int i1), S')) : am_V none d 178 42 L ([]) S Q := by
  refine sg_use sg_gv_m1_g hd hP (sg_xs [0, x1, x2, x3, x4]) ⟨⟨Int.le_refl 0, Int.le_refl 0⟩, b1, b2, b3, b4, trivial⟩ ⟨sg_fs hP rfl m122_0, trivial⟩ trivial ⟨c0, c1, trivial⟩ ⟨l0, l1, l2, l3, trivial⟩ trivial ?_
  intro z hz x' L' st' S' hx hP' hW hL' hs' hJ hE' hT' hD'
  have q1 : x' 1 = x1 := hx 1 (by decide)
  subst q1
  have q2 : x' 2 = x2 := hx 2 (by decide)
  subst q2
  have q3 : x' 3 = x3 := hx 3 (by decide)
  subst q3
  have q4 : x' 4 = x4 := hx 4 (by decide)
  subst q4
  simp only [sg_gv_m1_Z, List.mem_cons, List.not_mem_nil, or_false] at hz
  rcases hz with rfl
  · have hσ := hJ
    obtain ⟨e0, e1, e2, e3, -⟩ := hE'
    intro v hv
    subst hv
    cases v with
    | none => exact hs'.elim
    | some v1 =>
      obtain ⟨⟨i1, rfl, g1⟩, -⟩ := hs'
      exact k0 S' i1 hP' hσ e0 e1 e2 e3 g1
def sg_rm_x0_Z : List sg_z := [(49, [(0, .inr (.inl [71])), (1, .inr (.inl [1])), (2, .inr (.inl [6]))], [.inl (false, (4, .ofNat 1, .ofNat 0)), .inr (.inl [72])], [(3, 2, (3, .ofNat 1, .ofNat 0), (0, .ofNat 0, .ofNat 6), (4, .ofNat 1, .ofNat 0)), (0, 71, (0, .ofNat 0, .ofNat 0), (1, .ofNat 1, .ofNat 0), (0, .ofNat 0, .ofNat 0)), (0, 71, (0, .ofNat 0, .ofNat 1), (2, .ofNat 1, .ofNat 0), (0, .ofNat 0, .ofNat 0)), (2, 1, (1, .ofNat 1, .ofNat 0), (0, .ofNat 0, .ofNat 6), (0, .ofNat 0, .ofNat 0)), (0, 71, (0, .ofNat 0, .ofNat 0), (1, .ofNat 1, .ofNat 0), (0, .ofNat 0, .ofNat 0))], [(1, [(.ofNat 0, .ofNat 5)]), (2, [(.ofNat 0, .ofNat 5)]), (3, [(.ofNat 0, .ofNat 10)]), (4, [(.ofNat 0, .ofNat 5)])], [((2, .ofNat 1, .ofNat 0), (1, .ofNat 1, .ofNat 0), (3, .ofNat 1, .ofNat 0))], []),
  (49, [(0, .inr (.inl [71])), (1, .inr (.inl [1])), (2, .inr (.inl [6]))], [.inl (false, (4, .ofNat 1, .ofNat 0)), .inr (.inl [72])], [(3, 2, (3, .ofNat 1, .ofNat 5), (0, .ofNat 0, .ofNat 6), (4, .ofNat 1, .ofNat 0)), (0, 71, (0, .ofNat 0, .ofNat 0), (0, .ofNat 0, .ofNat 5), (0, .ofNat 0, .ofNat 0)), (0, 71, (0, .ofNat 0, .ofNat 1), (3, .ofNat 1, .ofNat 0), (0, .ofNat 0, .ofNat 0)), (1, 71, (0, .ofNat 0, .ofNat 0), (0, .ofNat 0, .ofNat 5), (0, .ofNat 0, .ofNat 0)), (0, 71, (0, .ofNat 0, .ofNat 0), (0, .ofNat 0, .ofNat 6), (0, .ofNat 0, .ofNat 0)), (1, 71, (0, .ofNat 0, .ofNat 1), (3, .ofNat 1, .ofNat 0), (0, .ofNat 0, .ofNat 0)), (3, 2, (2, .ofNat 1, .ofNat 1), (0, .ofNat 0, .ofNat 6), (3, .ofNat 1, .ofNat 0)), (0, 71, (0, .ofNat 0, .ofNat 1), (2, .ofNat 1, .ofNat 0), (0, .ofNat 0, .ofNat 0)), (2, 0, (1, .ofNat 1, .ofNat 0), (0, .ofNat 0, .ofNat 6), (0, .ofNat 0, .ofNat 0)), (0, 71, (0, .ofNat 0, .ofNat 0), (1, .ofNat 1, .ofNat 0), (0, .ofNat 0, .ofNat 0))], [(1, [(.ofNat 6, .ofNat 6)]), (2, [(.ofNat 0, .ofNat 5)]), (3, [(.ofNat 0, .ofNat 5)]), (4, [(.ofNat 0, .ofNat 5)])], [], [])]
set_option maxRecDepth 1000000 in
theorem sg_rm_x0_g : sg_go [] [48] 3000 2 0 0 1 [(0, [(.ofNat 0, .ofNat 0)])] [] [] [] [(0, .inr (.inl [71])), (1, .inr (.inl [1])), (2, .inr (.inl [6]))] [] [(71, some 0), (71, some 1)] sg_rm_x0_Z = true := by decide +kernel
set_option maxRecDepth 100000 in
theorem sg_rm_x0 {Q : Option Value × am_S → Prop} {d : Nat} {S : am_S} {L : am_L} (hd : 0 ≤ d) (hP : ax_P0 none S) (l0 : lc L 0 71) (l1 : lc L 1 1) (l2 : lc L 2 6)
    (k0 : ∀ (x1 x2 x3 x4 : Int) (L' : am_L) (S' : am_S) (i1 : Int32), ax_P0 none S' → rd S' = rd S → rd S 71 0 = x1 → x1 ≠ 6 → rd S 71 1 = x2 → (∃ a b : Int32, a.toInt = x3 ∧ b.toInt = 6 ∧ (a - a / b * b).toInt = x4) → (0 ≤ x1 ∧ x1 ≤ 5) → (0 ≤ x2 ∧ x2 ≤ 5) → (0 ≤ x3 ∧ x3 ≤ 10) → (0 ≤ x4 ∧ x4 ≤ 5) → x2 + x1 = x3 → lc L' 0 71 → lc L' 1 1 → lc L' 2 6 → i1.toInt = x4 → am_V none d 2 48 L' ((.int i1) :: (.ref 72) :: []) S' Q)
    (k1 : ∀ (x1 x2 x3 x4 : Int) (L' : am_L) (S' : am_S) (i1 : Int32), ax_P0 none S' → rd S' = sg_up (sg_up (rd S) 71 1 x3) 71 0 5 → rd S 71 0 = x1 → x1 = 6 → rd S 71 1 = x2 → (∃ a b : Int32, a.toInt = x2 + 1 ∧ b.toInt = 6 ∧ (a - a / b * b).toInt = x3) → (sg_up (rd S) 71 1 x3) 71 0 = 6 → (∃ a b : Int32, a.toInt = x3 + 5 ∧ b.toInt = 6 ∧ (a - a / b * b).toInt = x4) → (6 ≤ x1 ∧ x1 ≤ 6) → (0 ≤ x2 ∧ x2 ≤ 5) → (0 ≤ x3 ∧ x3 ≤ 5) → (0 ≤ x4 ∧ x4 ≤ 5) → lc L' 0 71 → lc L' 1 1 → lc L' 2 6 → i1.toInt = x4 → am_V none d 2 48 L' ((.int i1) :: (.ref 72) :: []) S' Q) : am_V none d 2 0 L ([]) S Q := by
  refine sg_use sg_rm_x0_g hd hP (sg_xs [0]) ⟨⟨Int.le_refl 0, Int.le_refl 0⟩, trivial⟩ trivial trivial trivial ⟨l0, l1, l2, trivial⟩ trivial ?_
  intro z hz x' L' st' S' hx hP' hW hL' hs' hJ hE' hT' hD'
  simp only [sg_rm_x0_Z, List.mem_cons, List.not_mem_nil, or_false] at hz
  rcases hz with rfl | rfl
  · obtain ⟨f0, f1, f2, -, f4, hσ⟩ := hJ
    obtain ⟨e0, e1, e2, e3, -⟩ := hE'
    obtain ⟨t0, -⟩ := hT'
    obtain ⟨p0, p1, p2, -⟩ := hL'
    obtain ⟨v1, r1, rfl, ⟨i1, rfl, g1⟩, hs1⟩ := sg_tc hs'
    obtain ⟨v2, r2, rfl, rfl, hs2⟩ := sg_tc hs1
    obtain rfl := sg_tn hs2
    exact k0 (x' 1) (x' 2) (x' 3) (x' 4) L' S' i1 hP' hσ f0 f1 f2 f4 e0 e1 e2 e3 t0 p0 p1 p2 g1
  · obtain ⟨f0, f1, f2, f3, f4, -, -, f7, hσ⟩ := hJ
    obtain ⟨e0, e1, e2, e3, -⟩ := hE'
    obtain ⟨p0, p1, p2, -⟩ := hL'
    obtain ⟨v1, r1, rfl, ⟨i1, rfl, g1⟩, hs1⟩ := sg_tc hs'
    obtain ⟨v2, r2, rfl, rfl, hs2⟩ := sg_tc hs1
    obtain rfl := sg_tn hs2
    exact k1 (x' 1) (x' 2) (x' 3) (x' 4) L' S' i1 hP' hσ f0 f1 f2 f3 f4 f7 e0 e1 e2 e3 p0 p1 p2 g1
def sg_rm_x1_Z : List sg_z := [(0, [], [], [(1, 71, (0, .ofNat 0, .ofNat 0), (1, .ofNat 1, .ofNat 1), (0, .ofNat 0, .ofNat 0)), (0, 71, (0, .ofNat 0, .ofNat 0), (1, .ofNat 1, .ofNat 0), (0, .ofNat 0, .ofNat 0))], [(1, [(.ofNat 0, .ofNat 5)])], [], [])]
set_option maxRecDepth 1000000 in
theorem sg_rm_x1_g : sg_go [] [] 3000 2 54 0 2 [(0, [(.ofNat 0, .ofNat 0)]), (1, [(.ofNat 0, .ofNat 5)])] [(71, (0, .ofNat 0, .ofNat 0), (1, .ofNat 1, .ofNat 0))] [] [] [(0, .inr (.inl [71]))] [] [(71, some 0)] sg_rm_x1_Z = true := by decide +kernel
set_option maxRecDepth 100000 in
theorem sg_rm_x1 {Q : Option Value × am_S → Prop} {d : Nat} {S : am_S} {L : am_L} {x1 : Int} (hd : 0 ≤ d) (hP : ax_P0 none S) (l0 : lc L 0 71) (b1 : (0 ≤ x1 ∧ x1 ≤ 5)) (m71_0 : rd S 71 0 = x1)
    (k0 : ∀ (S' : am_S), ax_P0 none S' → rd S' = sg_up (rd S) 71 0 (x1 + 1) → rd S 71 0 = x1 → (0 ≤ x1 ∧ x1 ≤ 5) → Q (none, S')) : am_V none d 2 54 L ([]) S Q := by
  refine sg_use sg_rm_x1_g hd hP (sg_xs [0, x1]) ⟨⟨Int.le_refl 0, Int.le_refl 0⟩, b1, trivial⟩ ⟨sg_fs hP rfl m71_0, trivial⟩ trivial trivial ⟨l0, trivial⟩ trivial ?_
  intro z hz x' L' st' S' hx hP' hW hL' hs' hJ hE' hT' hD'
  have q1 : x' 1 = x1 := hx 1 (by decide)
  subst q1
  simp only [sg_rm_x1_Z, List.mem_cons, List.not_mem_nil, or_false] at hz
  rcases hz with rfl
  · obtain ⟨f0, hσ⟩ := hJ
    obtain ⟨e0, -⟩ := hE'
    intro v hv
    subst hv
    cases v with
    | some _ => exact hs'.elim
    | none =>
      exact k0 S' hP' hσ f0 e0
def sg_tb_x0_Z : List sg_z := [(37, [(0, .inr (.inl [71])), (1, .inr (.inl [1])), (2, .inr (.inl [6]))], [.inl (false, (4, .ofNat 1, .ofNat 0)), .inr (.inl [72])], [(3, 2, (3, .ofNat 1, .ofNat 0), (0, .ofNat 0, .ofNat 6), (4, .ofNat 1, .ofNat 0)), (0, 71, (0, .ofNat 0, .ofNat 0), (1, .ofNat 1, .negSucc 0), (0, .ofNat 0, .ofNat 0)), (0, 71, (0, .ofNat 0, .ofNat 1), (2, .ofNat 1, .ofNat 0), (0, .ofNat 0, .ofNat 0)), (1, 71, (0, .ofNat 0, .ofNat 0), (1, .ofNat 1, .negSucc 0), (0, .ofNat 0, .ofNat 0)), (0, 71, (0, .ofNat 0, .ofNat 0), (1, .ofNat 1, .ofNat 0), (0, .ofNat 0, .ofNat 0)), (2, 1, (1, .ofNat 1, .ofNat 0), (0, .ofNat 0, .ofNat 0), (0, .ofNat 0, .ofNat 0)), (0, 71, (0, .ofNat 0, .ofNat 0), (1, .ofNat 1, .ofNat 0), (0, .ofNat 0, .ofNat 0))], [(1, [(.ofNat 1, .ofNat 6)]), (2, [(.ofNat 0, .ofNat 5)]), (3, [(.ofNat 0, .ofNat 10)]), (4, [(.ofNat 0, .ofNat 5)])], [((2, .ofNat 1, .ofNat 0), (1, .ofNat 1, .negSucc 0), (3, .ofNat 1, .ofNat 0))], []),
  (0, [], [.inl (false, (0, .ofNat 0, .negSucc 3))], [(2, 0, (1, .ofNat 1, .ofNat 0), (0, .ofNat 0, .ofNat 0), (0, .ofNat 0, .ofNat 0)), (0, 71, (0, .ofNat 0, .ofNat 0), (1, .ofNat 1, .ofNat 0), (0, .ofNat 0, .ofNat 0))], [(1, [(.ofNat 0, .ofNat 0)])], [], [])]
set_option maxRecDepth 1000000 in
theorem sg_tb_x0_g : sg_go [] [36] 3000 3 0 0 1 [(0, [(.ofNat 0, .ofNat 0)])] [] [] [] [(0, .inr (.inl [71])), (1, .inr (.inl [1])), (2, .inr (.inl [6]))] [] [(71, some 0)] sg_tb_x0_Z = true := by decide +kernel
set_option maxRecDepth 100000 in
theorem sg_tb_x0 {Q : Option Value × am_S → Prop} {d : Nat} {S : am_S} {L : am_L} (hd : 0 ≤ d) (hP : ax_P0 none S) (l0 : lc L 0 71) (l1 : lc L 1 1) (l2 : lc L 2 6)
    (k0 : ∀ (x1 x2 x3 x4 : Int) (L' : am_L) (S' : am_S) (i1 : Int32), ax_P0 none S' → rd S' = sg_up (rd S) 71 0 (x1 + (-1)) → rd S 71 0 = x1 → x1 ≠ 0 → (sg_up (rd S) 71 0 (x1 + (-1))) 71 1 = x2 → (∃ a b : Int32, a.toInt = x3 ∧ b.toInt = 6 ∧ (a - a / b * b).toInt = x4) → (1 ≤ x1 ∧ x1 ≤ 6) → (0 ≤ x2 ∧ x2 ≤ 5) → (0 ≤ x3 ∧ x3 ≤ 10) → (0 ≤ x4 ∧ x4 ≤ 5) → x2 + (x1 + (-1)) = x3 → lc L' 0 71 → lc L' 1 1 → lc L' 2 6 → i1.toInt = x4 → am_V none d 3 36 L' ((.int i1) :: (.ref 72) :: []) S' Q)
    (k1 : ∀ (x1 : Int) (S' : am_S) (i1 : Int32), ax_P0 none S' → rd S' = rd S → rd S 71 0 = x1 → x1 = 0 → (0 ≤ x1 ∧ x1 ≤ 0) → i1.toInt = (-4) → Q (some (.int i1), S')) : am_V none d 3 0 L ([]) S Q := by
  refine sg_use sg_tb_x0_g hd hP (sg_xs [0]) ⟨⟨Int.le_refl 0, Int.le_refl 0⟩, trivial⟩ trivial trivial trivial ⟨l0, l1, l2, trivial⟩ trivial ?_
  intro z hz x' L' st' S' hx hP' hW hL' hs' hJ hE' hT' hD'
  simp only [sg_tb_x0_Z, List.mem_cons, List.not_mem_nil, or_false] at hz
  rcases hz with rfl | rfl
  · obtain ⟨f0, f1, -, f3, -, f5, hσ⟩ := hJ
    obtain ⟨e0, e1, e2, e3, -⟩ := hE'
    obtain ⟨t0, -⟩ := hT'
    obtain ⟨p0, p1, p2, -⟩ := hL'
    obtain ⟨v1, r1, rfl, ⟨i1, rfl, g1⟩, hs1⟩ := sg_tc hs'
    obtain ⟨v2, r2, rfl, rfl, hs2⟩ := sg_tc hs1
    obtain rfl := sg_tn hs2
    exact k0 (x' 1) (x' 2) (x' 3) (x' 4) L' S' i1 hP' hσ f0 f1 f3 f5 e0 e1 e2 e3 t0 p0 p1 p2 g1
  · obtain ⟨f0, f1, hσ⟩ := hJ
    obtain ⟨e0, -⟩ := hE'
    intro v hv
    subst hv
    cases v with
    | none => exact hs'.elim
    | some v1 =>
      obtain ⟨⟨i1, rfl, g1⟩, -⟩ := hs'
      exact k1 (x' 1) S' i1 hP' hσ f0 f1 e0 g1
def sg_tb_x1_Z : List sg_z := [(0, [], [.inl (false, (1, .ofNat 1, .ofNat 0))], [(0, 71, (0, .ofNat 0, .ofNat 0), (1, .ofNat 1, .ofNat 0), (0, .ofNat 0, .ofNat 0))], [(1, [(.ofNat 0, .ofNat 6)])], [], [])]
set_option maxRecDepth 1000000 in
theorem sg_tb_x1_g : sg_go [] [] 3000 3 42 0 1 [(0, [(.ofNat 0, .ofNat 0)])] [] [] [] [(0, .inr (.inl [71]))] [] [] sg_tb_x1_Z = true := by decide +kernel
set_option maxRecDepth 100000 in
theorem sg_tb_x1 {Q : Option Value × am_S → Prop} {d : Nat} {S : am_S} {L : am_L} (hd : 0 ≤ d) (hP : ax_P0 none S) (l0 : lc L 0 71)
    (k0 : ∀ (x1 : Int) (i1 : Int32), rd S 71 0 = x1 → (0 ≤ x1 ∧ x1 ≤ 6) → i1.toInt = x1 → Q (some (.int i1), S)) : am_V none d 3 42 L ([]) S Q := by
  refine sg_use sg_tb_x1_g hd hP (sg_xs [0]) ⟨⟨Int.le_refl 0, Int.le_refl 0⟩, trivial⟩ trivial trivial trivial ⟨l0, trivial⟩ trivial ?_
  intro z hz x' L' st' S' hx hP' hW hL' hs' hJ hE' hT' hD'
  have eS : S' = S := hW.1 rfl
  subst eS
  simp only [sg_tb_x1_Z, List.mem_cons, List.not_mem_nil, or_false] at hz
  rcases hz with rfl
  · obtain ⟨f0, hσ⟩ := hJ
    obtain ⟨e0, -⟩ := hE'
    intro v hv
    subst hv
    cases v with
    | none => exact hs'.elim
    | some v1 =>
      obtain ⟨⟨i1, rfl, g1⟩, -⟩ := hs'
      exact k0 (x' 1) i1 f0 e0 g1
def sg_fd_x_Z : List sg_z := [(0, [], [.inl (false, (2, .ofNat 1, .ofNat 8))], [(0, 45, (0, .ofNat 0, .ofNat 0), (2, .ofNat 1, .ofNat 8), (0, .ofNat 0, .ofNat 0)), (2, 2, (0, .ofNat 0, .negSucc 7), (0, .ofNat 0, .ofNat 0), (0, .ofNat 0, .ofNat 0)), (1, 45, (0, .ofNat 0, .ofNat 0), (2, .ofNat 1, .ofNat 8), (0, .ofNat 0, .ofNat 0)), (0, 45, (0, .ofNat 0, .ofNat 0), (2, .ofNat 1, .ofNat 7), (0, .ofNat 0, .ofNat 0)), (5, 46, (2, .ofNat 1, .ofNat 7), (26, .ofNat 1, .ofNat 0), (0, .ofNat 0, .ofNat 0)), (3, 6, (25, .ofNat 1, .ofNat 0), (0, .ofNat 0, .ofNat 0), (26, .ofNat 1, .ofNat 0)), (4, 7, (24, .ofNat 1, .ofNat 0), (0, .ofNat 0, .ofNat 0), (25, .ofNat 1, .ofNat 0)), (4, 6, (1, .ofNat 1, .ofNat 0), (0, .ofNat 0, .ofNat 0), (24, .ofNat 1, .ofNat 0)), (0, 45, (0, .ofNat 0, .ofNat 0), (2, .ofNat 1, .ofNat 7), (0, .ofNat 0, .ofNat 0)), (2, 2, (2, .ofNat 1, .ofNat 7), (0, .ofNat 0, .ofNat 80), (0, .ofNat 0, .ofNat 0)), (0, 45, (0, .ofNat 0, .ofNat 0), (2, .ofNat 1, .ofNat 7), (0, .ofNat 0, .ofNat 0)), (2, 3, (0, .ofNat 0, .ofNat 0), (0, .ofNat 0, .ofNat 0), (0, .ofNat 0, .ofNat 0)), (1, 45, (0, .ofNat 0, .ofNat 0), (2, .ofNat 1, .ofNat 7), (0, .ofNat 0, .ofNat 0)), (0, 45, (0, .ofNat 0, .ofNat 0), (2, .ofNat 1, .ofNat 6), (0, .ofNat 0, .ofNat 0)), (5, 46, (2, .ofNat 1, .ofNat 6), (23, .ofNat 1, .ofNat 0), (0, .ofNat 0, .ofNat 0)), (3, 6, (22, .ofNat 1, .ofNat 0), (0, .ofNat 0, .ofNat 0), (23, .ofNat 1, .ofNat 0)), (4, 7, (21, .ofNat 1, .ofNat 0), (0, .ofNat 0, .ofNat 0), (22, .ofNat 1, .ofNat 0)), (4, 6, (1, .ofNat 1, .ofNat 0), (0, .ofNat 0, .ofNat 8), (21, .ofNat 1, .ofNat 0)), (0, 45, (0, .ofNat 0, .ofNat 0), (2, .ofNat 1, .ofNat 6), (0, .ofNat 0, .ofNat 0)), (2, 2, (2, .ofNat 1, .ofNat 6), (0, .ofNat 0, .ofNat 80), (0, .ofNat 0, .ofNat 0)), (0, 45, (0, .ofNat 0, .ofNat 0), (2, .ofNat 1, .ofNat 6), (0, .ofNat 0, .ofNat 0)), (2, 3, (0, .ofNat 0, .ofNat 8), (0, .ofNat 0, .ofNat 0), (0, .ofNat 0, .ofNat 0)), (1, 45, (0, .ofNat 0, .ofNat 0), (2, .ofNat 1, .ofNat 6), (0, .ofNat 0, .ofNat 0)), (0, 45, (0, .ofNat 0, .ofNat 0), (2, .ofNat 1, .ofNat 5), (0, .ofNat 0, .ofNat 0)), (5, 46, (2, .ofNat 1, .ofNat 5), (20, .ofNat 1, .ofNat 0), (0, .ofNat 0, .ofNat 0)), (3, 6, (19, .ofNat 1, .ofNat 0), (0, .ofNat 0, .ofNat 0), (20, .ofNat 1, .ofNat 0)), (4, 7, (18, .ofNat 1, .ofNat 0), (0, .ofNat 0, .ofNat 0), (19, .ofNat 1, .ofNat 0)), (4, 6, (1, .ofNat 1, .ofNat 0), (0, .ofNat 0, .ofNat 16), (18, .ofNat 1, .ofNat 0)), (0, 45, (0, .ofNat 0, .ofNat 0), (2, .ofNat 1, .ofNat 5), (0, .ofNat 0, .ofNat 0)), (2, 2, (2, .ofNat 1, .ofNat 5), (0, .ofNat 0, .ofNat 80), (0, .ofNat 0, .ofNat 0)), (0, 45, (0, .ofNat 0, .ofNat 0), (2, .ofNat 1, .ofNat 5), (0, .ofNat 0, .ofNat 0)), (2, 3, (0, .ofNat 0, .ofNat 16), (0, .ofNat 0, .ofNat 0), (0, .ofNat 0, .ofNat 0)), (1, 45, (0, .ofNat 0, .ofNat 0), (2, .ofNat 1, .ofNat 5), (0, .ofNat 0, .ofNat 0)), (0, 45, (0, .ofNat 0, .ofNat 0), (2, .ofNat 1, .ofNat 4), (0, .ofNat 0, .ofNat 0)), (5, 46, (2, .ofNat 1, .ofNat 4), (17, .ofNat 1, .ofNat 0), (0, .ofNat 0, .ofNat 0)), (3, 6, (16, .ofNat 1, .ofNat 0), (0, .ofNat 0, .ofNat 0), (17, .ofNat 1, .ofNat 0)), (4, 7, (15, .ofNat 1, .ofNat 0), (0, .ofNat 0, .ofNat 0), (16, .ofNat 1, .ofNat 0)), (4, 6, (1, .ofNat 1, .ofNat 0), (0, .ofNat 0, .ofNat 24), (15, .ofNat 1, .ofNat 0)), (0, 45, (0, .ofNat 0, .ofNat 0), (2, .ofNat 1, .ofNat 4), (0, .ofNat 0, .ofNat 0)), (2, 2, (2, .ofNat 1, .ofNat 4), (0, .ofNat 0, .ofNat 80), (0, .ofNat 0, .ofNat 0)), (0, 45, (0, .ofNat 0, .ofNat 0), (2, .ofNat 1, .ofNat 4), (0, .ofNat 0, .ofNat 0)), (2, 3, (0, .ofNat 0, .ofNat 24), (0, .ofNat 0, .ofNat 0), (0, .ofNat 0, .ofNat 0)), (1, 45, (0, .ofNat 0, .ofNat 0), (2, .ofNat 1, .ofNat 4), (0, .ofNat 0, .ofNat 0)), (0, 45, (0, .ofNat 0, .ofNat 0), (2, .ofNat 1, .ofNat 3), (0, .ofNat 0, .ofNat 0)), (5, 46, (2, .ofNat 1, .ofNat 3), (14, .ofNat 1, .ofNat 0), (0, .ofNat 0, .ofNat 0)), (3, 6, (13, .ofNat 1, .ofNat 0), (0, .ofNat 0, .ofNat 0), (14, .ofNat 1, .ofNat 0)), (4, 7, (12, .ofNat 1, .ofNat 0), (0, .ofNat 0, .ofNat 0), (13, .ofNat 1, .ofNat 0)), (4, 6, (1, .ofNat 1, .ofNat 0), (0, .ofNat 0, .ofNat 32), (12, .ofNat 1, .ofNat 0)), (0, 45, (0, .ofNat 0, .ofNat 0), (2, .ofNat 1, .ofNat 3), (0, .ofNat 0, .ofNat 0)), (2, 2, (2, .ofNat 1, .ofNat 3), (0, .ofNat 0, .ofNat 80), (0, .ofNat 0, .ofNat 0)), (0, 45, (0, .ofNat 0, .ofNat 0), (2, .ofNat 1, .ofNat 3), (0, .ofNat 0, .ofNat 0)), (2, 3, (0, .ofNat 0, .ofNat 32), (0, .ofNat 0, .ofNat 0), (0, .ofNat 0, .ofNat 0)), (1, 45, (0, .ofNat 0, .ofNat 0), (2, .ofNat 1, .ofNat 3), (0, .ofNat 0, .ofNat 0)), (0, 45, (0, .ofNat 0, .ofNat 0), (2, .ofNat 1, .ofNat 2), (0, .ofNat 0, .ofNat 0)), (5, 46, (2, .ofNat 1, .ofNat 2), (11, .ofNat 1, .ofNat 0), (0, .ofNat 0, .ofNat 0)), (3, 6, (10, .ofNat 1, .ofNat 0), (0, .ofNat 0, .ofNat 0), (11, .ofNat 1, .ofNat 0)), (4, 7, (9, .ofNat 1, .ofNat 0), (0, .ofNat 0, .ofNat 0), (10, .ofNat 1, .ofNat 0)), (4, 6, (1, .ofNat 1, .ofNat 0), (0, .ofNat 0, .ofNat 40), (9, .ofNat 1, .ofNat 0)), (0, 45, (0, .ofNat 0, .ofNat 0), (2, .ofNat 1, .ofNat 2), (0, .ofNat 0, .ofNat 0)), (2, 2, (2, .ofNat 1, .ofNat 2), (0, .ofNat 0, .ofNat 80), (0, .ofNat 0, .ofNat 0)), (0, 45, (0, .ofNat 0, .ofNat 0), (2, .ofNat 1, .ofNat 2), (0, .ofNat 0, .ofNat 0)), (2, 3, (0, .ofNat 0, .ofNat 40), (0, .ofNat 0, .ofNat 0), (0, .ofNat 0, .ofNat 0)), (1, 45, (0, .ofNat 0, .ofNat 0), (2, .ofNat 1, .ofNat 2), (0, .ofNat 0, .ofNat 0)), (0, 45, (0, .ofNat 0, .ofNat 0), (2, .ofNat 1, .ofNat 1), (0, .ofNat 0, .ofNat 0)), (5, 46, (2, .ofNat 1, .ofNat 1), (8, .ofNat 1, .ofNat 0), (0, .ofNat 0, .ofNat 0)), (3, 6, (7, .ofNat 1, .ofNat 0), (0, .ofNat 0, .ofNat 0), (8, .ofNat 1, .ofNat 0)), (4, 7, (6, .ofNat 1, .ofNat 0), (0, .ofNat 0, .ofNat 0), (7, .ofNat 1, .ofNat 0)), (4, 6, (1, .ofNat 1, .ofNat 0), (0, .ofNat 0, .ofNat 48), (6, .ofNat 1, .ofNat 0)), (0, 45, (0, .ofNat 0, .ofNat 0), (2, .ofNat 1, .ofNat 1), (0, .ofNat 0, .ofNat 0)), (2, 2, (2, .ofNat 1, .ofNat 1), (0, .ofNat 0, .ofNat 80), (0, .ofNat 0, .ofNat 0)), (0, 45, (0, .ofNat 0, .ofNat 0), (2, .ofNat 1, .ofNat 1), (0, .ofNat 0, .ofNat 0)), (2, 3, (0, .ofNat 0, .ofNat 48), (0, .ofNat 0, .ofNat 0), (0, .ofNat 0, .ofNat 0)), (1, 45, (0, .ofNat 0, .ofNat 0), (2, .ofNat 1, .ofNat 1), (0, .ofNat 0, .ofNat 0)), (0, 45, (0, .ofNat 0, .ofNat 0), (2, .ofNat 1, .ofNat 0), (0, .ofNat 0, .ofNat 0)), (5, 46, (2, .ofNat 1, .ofNat 0), (5, .ofNat 1, .ofNat 0), (0, .ofNat 0, .ofNat 0)), (3, 6, (4, .ofNat 1, .ofNat 0), (0, .ofNat 0, .ofNat 0), (5, .ofNat 1, .ofNat 0)), (4, 7, (3, .ofNat 1, .ofNat 0), (0, .ofNat 0, .ofNat 0), (4, .ofNat 1, .ofNat 0)), (4, 6, (1, .ofNat 1, .ofNat 0), (0, .ofNat 0, .ofNat 56), (3, .ofNat 1, .ofNat 0)), (0, 45, (0, .ofNat 0, .ofNat 0), (2, .ofNat 1, .ofNat 0), (0, .ofNat 0, .ofNat 0)), (2, 2, (2, .ofNat 1, .ofNat 0), (0, .ofNat 0, .ofNat 80), (0, .ofNat 0, .ofNat 0)), (0, 45, (0, .ofNat 0, .ofNat 0), (2, .ofNat 1, .ofNat 0), (0, .ofNat 0, .ofNat 0)), (2, 3, (0, .ofNat 0, .ofNat 56), (0, .ofNat 0, .ofNat 0), (0, .ofNat 0, .ofNat 0)), (2, 5, (2, .ofNat 1, .ofNat 8), (0, .ofNat 0, .ofNat 80), (0, .ofNat 0, .ofNat 0)), (0, 45, (0, .ofNat 0, .ofNat 0), (2, .ofNat 1, .ofNat 0), (0, .ofNat 0, .ofNat 0))], [(2, [(.ofNat 0, .ofNat 72)]), (5, [(.negSucc 127, .ofNat 127)]), (8, [(.negSucc 127, .ofNat 127)]), (11, [(.negSucc 127, .ofNat 127)]), (14, [(.negSucc 127, .ofNat 127)]), (17, [(.negSucc 127, .ofNat 127)]), (20, [(.negSucc 127, .ofNat 127)]), (23, [(.negSucc 127, .ofNat 127)]), (26, [(.negSucc 127, .ofNat 127)])], [], []),
  (0, [], [.inl (false, (0, .ofNat 0, .negSucc 2))], [(2, 4, (2, .ofNat 1, .ofNat 8), (0, .ofNat 0, .ofNat 80), (0, .ofNat 0, .ofNat 0)), (0, 45, (0, .ofNat 0, .ofNat 0), (2, .ofNat 1, .ofNat 0), (0, .ofNat 0, .ofNat 0))], [(2, [(.ofNat 73, .ofNat 80)])], [], [])]
set_option maxRecDepth 1000000 in
theorem sg_fd_x_g : sg_go [] [] 3000 117 0 1 2 [(0, [(.ofNat 0, .ofNat 0)]), (1, [(.negSucc 9223372036854775807, .ofNat 9223372036854775807)])] [] [] [] [(0, .inr (.inl [0])), (1, .inl (true, (1, .ofNat 1, .ofNat 0)))] [] [(45, some 0), (46, none)] sg_fd_x_Z = true := by decide +kernel
set_option maxRecDepth 100000 in
theorem sg_fd_x {Q : Option Value × am_S → Prop} {d : Nat} {S : am_S} {L : am_L} {x1 : Int} (hd : 1 ≤ d) (hP : ax_P0 none S) (l0 : lc L 0 0) (l1 : lj L 1 x1) (b1 : ((-9223372036854775808) ≤ x1 ∧ x1 ≤ 9223372036854775807))
    (k0 : ∀ (x2 x3 x4 x5 x6 x7 x8 x9 x10 x11 x12 x13 x14 x15 x16 x17 x18 x19 x20 x21 x22 x23 x24 x25 x26 : Int) (S' : am_S) (i1 : Int32), ax_P0 none S' → rd S' = sg_up (sg_up (sg_up (sg_up (sg_up (sg_up (sg_up (sg_up (sg_up (sg_up (sg_up (sg_up (sg_up (sg_up (sg_up (sg_up (rd S) 46 x2 ((x5).bmod 256)) 45 0 (x2 + 1)) 46 (x2 + 1) ((x8).bmod 256)) 45 0 (x2 + 2)) 46 (x2 + 2) ((x11).bmod 256)) 45 0 (x2 + 3)) 46 (x2 + 3) ((x14).bmod 256)) 45 0 (x2 + 4)) 46 (x2 + 4) ((x17).bmod 256)) 45 0 (x2 + 5)) 46 (x2 + 5) ((x20).bmod 256)) 45 0 (x2 + 6)) 46 (x2 + 6) ((x23).bmod 256)) 45 0 (x2 + 7)) 46 (x2 + 7) ((x26).bmod 256)) 45 0 (x2 + 8) → rd S 45 0 = x2 → x2 + 8 ≤ 80 → x2 < 80 → (∃ a b : Int64, a.toInt = x1 ∧ b.toInt = 56 ∧ (a >>> (b &&& 63)).toInt = x3) → (∃ a b : Int64, a.toInt = x3 ∧ b.toInt = 0 ∧ a.toInt32.toInt = x4) → (∃ a b : Int32, a.toInt = x4 ∧ b.toInt = 0 ∧ (a.toInt8.toInt32).toInt = x5) → x2 + 1 < 80 → (∃ a b : Int64, a.toInt = x1 ∧ b.toInt = 48 ∧ (a >>> (b &&& 63)).toInt = x6) → (∃ a b : Int64, a.toInt = x6 ∧ b.toInt = 0 ∧ a.toInt32.toInt = x7) → (∃ a b : Int32, a.toInt = x7 ∧ b.toInt = 0 ∧ (a.toInt8.toInt32).toInt = x8) → x2 + 2 < 80 → (∃ a b : Int64, a.toInt = x1 ∧ b.toInt = 40 ∧ (a >>> (b &&& 63)).toInt = x9) → (∃ a b : Int64, a.toInt = x9 ∧ b.toInt = 0 ∧ a.toInt32.toInt = x10) → (∃ a b : Int32, a.toInt = x10 ∧ b.toInt = 0 ∧ (a.toInt8.toInt32).toInt = x11) → x2 + 3 < 80 → (∃ a b : Int64, a.toInt = x1 ∧ b.toInt = 32 ∧ (a >>> (b &&& 63)).toInt = x12) → (∃ a b : Int64, a.toInt = x12 ∧ b.toInt = 0 ∧ a.toInt32.toInt = x13) → (∃ a b : Int32, a.toInt = x13 ∧ b.toInt = 0 ∧ (a.toInt8.toInt32).toInt = x14) → x2 + 4 < 80 → (∃ a b : Int64, a.toInt = x1 ∧ b.toInt = 24 ∧ (a >>> (b &&& 63)).toInt = x15) → (∃ a b : Int64, a.toInt = x15 ∧ b.toInt = 0 ∧ a.toInt32.toInt = x16) → (∃ a b : Int32, a.toInt = x16 ∧ b.toInt = 0 ∧ (a.toInt8.toInt32).toInt = x17) → x2 + 5 < 80 → (∃ a b : Int64, a.toInt = x1 ∧ b.toInt = 16 ∧ (a >>> (b &&& 63)).toInt = x18) → (∃ a b : Int64, a.toInt = x18 ∧ b.toInt = 0 ∧ a.toInt32.toInt = x19) → (∃ a b : Int32, a.toInt = x19 ∧ b.toInt = 0 ∧ (a.toInt8.toInt32).toInt = x20) → x2 + 6 < 80 → (∃ a b : Int64, a.toInt = x1 ∧ b.toInt = 8 ∧ (a >>> (b &&& 63)).toInt = x21) → (∃ a b : Int64, a.toInt = x21 ∧ b.toInt = 0 ∧ a.toInt32.toInt = x22) → (∃ a b : Int32, a.toInt = x22 ∧ b.toInt = 0 ∧ (a.toInt8.toInt32).toInt = x23) → x2 + 7 < 80 → (∃ a b : Int64, a.toInt = x1 ∧ b.toInt = 0 ∧ (a >>> (b &&& 63)).toInt = x24) → (∃ a b : Int64, a.toInt = x24 ∧ b.toInt = 0 ∧ a.toInt32.toInt = x25) → (∃ a b : Int32, a.toInt = x25 ∧ b.toInt = 0 ∧ (a.toInt8.toInt32).toInt = x26) → (0 ≤ x2 ∧ x2 ≤ 72) → ((-128) ≤ x5 ∧ x5 ≤ 127) → ((-128) ≤ x8 ∧ x8 ≤ 127) → ((-128) ≤ x11 ∧ x11 ≤ 127) → ((-128) ≤ x14 ∧ x14 ≤ 127) → ((-128) ≤ x17 ∧ x17 ≤ 127) → ((-128) ≤ x20 ∧ x20 ≤ 127) → ((-128) ≤ x23 ∧ x23 ≤ 127) → ((-128) ≤ x26 ∧ x26 ≤ 127) → i1.toInt = x2 + 8 → Q (some (.int i1), S'))
    (k1 : ∀ (x2 : Int) (S' : am_S) (i1 : Int32), ax_P0 none S' → rd S' = rd S → rd S 45 0 = x2 → 80 < x2 + 8 → (73 ≤ x2 ∧ x2 ≤ 80) → i1.toInt = (-3) → Q (some (.int i1), S')) : am_V none d 117 0 L ([]) S Q := by
  refine sg_use sg_fd_x_g hd hP (sg_xs [0, x1]) ⟨⟨Int.le_refl 0, Int.le_refl 0⟩, b1, trivial⟩ trivial trivial trivial ⟨l0, l1, trivial⟩ trivial ?_
  intro z hz x' L' st' S' hx hP' hW hL' hs' hJ hE' hT' hD'
  have q1 : x' 1 = x1 := hx 1 (by decide)
  subst q1
  simp only [sg_fd_x_Z, List.mem_cons, List.not_mem_nil, or_false] at hz
  rcases hz with rfl | rfl
  · obtain ⟨f0, f1, -, -, f4, -, f6, f7, f8, -, -, -, f12, -, f14, f15, f16, -, -, -, f20, -, f22, f23, f24, -, -, -, f28, -, f30, f31, f32, -, -, -, f36, -, f38, f39, f40, -, -, -, f44, -, f46, f47, f48, -, -, -, f52, -, f54, f55, f56, -, -, -, f60, -, f62, f63, f64, -, -, -, hσ⟩ := hJ
    obtain ⟨e0, e1, e2, e3, e4, e5, e6, e7, e8, -⟩ := hE'
    intro v hv
    subst hv
    cases v with
    | none => exact hs'.elim
    | some v1 =>
      obtain ⟨⟨i1, rfl, g1⟩, -⟩ := hs'
      exact k0 (x' 2) (x' 3) (x' 4) (x' 5) (x' 6) (x' 7) (x' 8) (x' 9) (x' 10) (x' 11) (x' 12) (x' 13) (x' 14) (x' 15) (x' 16) (x' 17) (x' 18) (x' 19) (x' 20) (x' 21) (x' 22) (x' 23) (x' 24) (x' 25) (x' 26) S' i1 hP' hσ f0 f1 f4 f6 f7 f8 f12 f14 f15 f16 f20 f22 f23 f24 f28 f30 f31 f32 f36 f38 f39 f40 f44 f46 f47 f48 f52 f54 f55 f56 f60 f62 f63 f64 e0 e1 e2 e3 e4 e5 e6 e7 e8 g1
  · obtain ⟨f0, f1, hσ⟩ := hJ
    obtain ⟨e0, -⟩ := hE'
    intro v hv
    subst hv
    cases v with
    | none => exact hs'.elim
    | some v1 =>
      obtain ⟨⟨i1, rfl, g1⟩, -⟩ := hs'
      exact k1 (x' 2) S' i1 hP' hσ f0 f1 e0 g1
def sg_fd_m_Z : List sg_z := [(0, [], [.inl (false, (2, .ofNat 1, .ofNat 8))], [(0, 122, (0, .ofNat 0, .ofNat 26), (2, .ofNat 1, .ofNat 8), (0, .ofNat 0, .ofNat 0)), (2, 2, (0, .ofNat 0, .negSucc 7), (0, .ofNat 0, .ofNat 0), (0, .ofNat 0, .ofNat 0)), (1, 122, (0, .ofNat 0, .ofNat 26), (2, .ofNat 1, .ofNat 8), (0, .ofNat 0, .ofNat 0)), (0, 122, (0, .ofNat 0, .ofNat 26), (2, .ofNat 1, .ofNat 7), (0, .ofNat 0, .ofNat 0)), (1, 141, (2, .ofNat 1, .ofNat 7), (26, .ofNat 1, .ofNat 0), (0, .ofNat 0, .ofNat 0)), (3, 3, (25, .ofNat 1, .ofNat 0), (0, .ofNat 0, .ofNat 255), (26, .ofNat 1, .ofNat 0)), (4, 7, (24, .ofNat 1, .ofNat 0), (0, .ofNat 0, .ofNat 0), (25, .ofNat 1, .ofNat 0)), (4, 6, (1, .ofNat 1, .ofNat 0), (0, .ofNat 0, .ofNat 0), (24, .ofNat 1, .ofNat 0)), (0, 122, (0, .ofNat 0, .ofNat 26), (2, .ofNat 1, .ofNat 7), (0, .ofNat 0, .ofNat 0)), (2, 3, (0, .ofNat 0, .ofNat 0), (0, .ofNat 0, .ofNat 0), (0, .ofNat 0, .ofNat 0)), (1, 122, (0, .ofNat 0, .ofNat 26), (2, .ofNat 1, .ofNat 7), (0, .ofNat 0, .ofNat 0)), (0, 122, (0, .ofNat 0, .ofNat 26), (2, .ofNat 1, .ofNat 6), (0, .ofNat 0, .ofNat 0)), (1, 141, (2, .ofNat 1, .ofNat 6), (23, .ofNat 1, .ofNat 0), (0, .ofNat 0, .ofNat 0)), (3, 3, (22, .ofNat 1, .ofNat 0), (0, .ofNat 0, .ofNat 255), (23, .ofNat 1, .ofNat 0)), (4, 7, (21, .ofNat 1, .ofNat 0), (0, .ofNat 0, .ofNat 0), (22, .ofNat 1, .ofNat 0)), (4, 6, (1, .ofNat 1, .ofNat 0), (0, .ofNat 0, .ofNat 8), (21, .ofNat 1, .ofNat 0)), (0, 122, (0, .ofNat 0, .ofNat 26), (2, .ofNat 1, .ofNat 6), (0, .ofNat 0, .ofNat 0)), (2, 3, (0, .ofNat 0, .ofNat 8), (0, .ofNat 0, .ofNat 0), (0, .ofNat 0, .ofNat 0)), (1, 122, (0, .ofNat 0, .ofNat 26), (2, .ofNat 1, .ofNat 6), (0, .ofNat 0, .ofNat 0)), (0, 122, (0, .ofNat 0, .ofNat 26), (2, .ofNat 1, .ofNat 5), (0, .ofNat 0, .ofNat 0)), (1, 141, (2, .ofNat 1, .ofNat 5), (20, .ofNat 1, .ofNat 0), (0, .ofNat 0, .ofNat 0)), (3, 3, (19, .ofNat 1, .ofNat 0), (0, .ofNat 0, .ofNat 255), (20, .ofNat 1, .ofNat 0)), (4, 7, (18, .ofNat 1, .ofNat 0), (0, .ofNat 0, .ofNat 0), (19, .ofNat 1, .ofNat 0)), (4, 6, (1, .ofNat 1, .ofNat 0), (0, .ofNat 0, .ofNat 16), (18, .ofNat 1, .ofNat 0)), (0, 122, (0, .ofNat 0, .ofNat 26), (2, .ofNat 1, .ofNat 5), (0, .ofNat 0, .ofNat 0)), (2, 3, (0, .ofNat 0, .ofNat 16), (0, .ofNat 0, .ofNat 0), (0, .ofNat 0, .ofNat 0)), (1, 122, (0, .ofNat 0, .ofNat 26), (2, .ofNat 1, .ofNat 5), (0, .ofNat 0, .ofNat 0)), (0, 122, (0, .ofNat 0, .ofNat 26), (2, .ofNat 1, .ofNat 4), (0, .ofNat 0, .ofNat 0)), (1, 141, (2, .ofNat 1, .ofNat 4), (17, .ofNat 1, .ofNat 0), (0, .ofNat 0, .ofNat 0)), (3, 3, (16, .ofNat 1, .ofNat 0), (0, .ofNat 0, .ofNat 255), (17, .ofNat 1, .ofNat 0)), (4, 7, (15, .ofNat 1, .ofNat 0), (0, .ofNat 0, .ofNat 0), (16, .ofNat 1, .ofNat 0)), (4, 6, (1, .ofNat 1, .ofNat 0), (0, .ofNat 0, .ofNat 24), (15, .ofNat 1, .ofNat 0)), (0, 122, (0, .ofNat 0, .ofNat 26), (2, .ofNat 1, .ofNat 4), (0, .ofNat 0, .ofNat 0)), (2, 3, (0, .ofNat 0, .ofNat 24), (0, .ofNat 0, .ofNat 0), (0, .ofNat 0, .ofNat 0)), (1, 122, (0, .ofNat 0, .ofNat 26), (2, .ofNat 1, .ofNat 4), (0, .ofNat 0, .ofNat 0)), (0, 122, (0, .ofNat 0, .ofNat 26), (2, .ofNat 1, .ofNat 3), (0, .ofNat 0, .ofNat 0)), (1, 141, (2, .ofNat 1, .ofNat 3), (14, .ofNat 1, .ofNat 0), (0, .ofNat 0, .ofNat 0)), (3, 3, (13, .ofNat 1, .ofNat 0), (0, .ofNat 0, .ofNat 255), (14, .ofNat 1, .ofNat 0)), (4, 7, (12, .ofNat 1, .ofNat 0), (0, .ofNat 0, .ofNat 0), (13, .ofNat 1, .ofNat 0)), (4, 6, (1, .ofNat 1, .ofNat 0), (0, .ofNat 0, .ofNat 32), (12, .ofNat 1, .ofNat 0)), (0, 122, (0, .ofNat 0, .ofNat 26), (2, .ofNat 1, .ofNat 3), (0, .ofNat 0, .ofNat 0)), (2, 3, (0, .ofNat 0, .ofNat 32), (0, .ofNat 0, .ofNat 0), (0, .ofNat 0, .ofNat 0)), (1, 122, (0, .ofNat 0, .ofNat 26), (2, .ofNat 1, .ofNat 3), (0, .ofNat 0, .ofNat 0)), (0, 122, (0, .ofNat 0, .ofNat 26), (2, .ofNat 1, .ofNat 2), (0, .ofNat 0, .ofNat 0)), (1, 141, (2, .ofNat 1, .ofNat 2), (11, .ofNat 1, .ofNat 0), (0, .ofNat 0, .ofNat 0)), (3, 3, (10, .ofNat 1, .ofNat 0), (0, .ofNat 0, .ofNat 255), (11, .ofNat 1, .ofNat 0)), (4, 7, (9, .ofNat 1, .ofNat 0), (0, .ofNat 0, .ofNat 0), (10, .ofNat 1, .ofNat 0)), (4, 6, (1, .ofNat 1, .ofNat 0), (0, .ofNat 0, .ofNat 40), (9, .ofNat 1, .ofNat 0)), (0, 122, (0, .ofNat 0, .ofNat 26), (2, .ofNat 1, .ofNat 2), (0, .ofNat 0, .ofNat 0)), (2, 3, (0, .ofNat 0, .ofNat 40), (0, .ofNat 0, .ofNat 0), (0, .ofNat 0, .ofNat 0)), (1, 122, (0, .ofNat 0, .ofNat 26), (2, .ofNat 1, .ofNat 2), (0, .ofNat 0, .ofNat 0)), (0, 122, (0, .ofNat 0, .ofNat 26), (2, .ofNat 1, .ofNat 1), (0, .ofNat 0, .ofNat 0)), (1, 141, (2, .ofNat 1, .ofNat 1), (8, .ofNat 1, .ofNat 0), (0, .ofNat 0, .ofNat 0)), (3, 3, (7, .ofNat 1, .ofNat 0), (0, .ofNat 0, .ofNat 255), (8, .ofNat 1, .ofNat 0)), (4, 7, (6, .ofNat 1, .ofNat 0), (0, .ofNat 0, .ofNat 0), (7, .ofNat 1, .ofNat 0)), (4, 6, (1, .ofNat 1, .ofNat 0), (0, .ofNat 0, .ofNat 48), (6, .ofNat 1, .ofNat 0)), (0, 122, (0, .ofNat 0, .ofNat 26), (2, .ofNat 1, .ofNat 1), (0, .ofNat 0, .ofNat 0)), (2, 3, (0, .ofNat 0, .ofNat 48), (0, .ofNat 0, .ofNat 0), (0, .ofNat 0, .ofNat 0)), (1, 122, (0, .ofNat 0, .ofNat 26), (2, .ofNat 1, .ofNat 1), (0, .ofNat 0, .ofNat 0)), (0, 122, (0, .ofNat 0, .ofNat 26), (2, .ofNat 1, .ofNat 0), (0, .ofNat 0, .ofNat 0)), (1, 141, (2, .ofNat 1, .ofNat 0), (5, .ofNat 1, .ofNat 0), (0, .ofNat 0, .ofNat 0)), (3, 3, (4, .ofNat 1, .ofNat 0), (0, .ofNat 0, .ofNat 255), (5, .ofNat 1, .ofNat 0)), (4, 7, (3, .ofNat 1, .ofNat 0), (0, .ofNat 0, .ofNat 0), (4, .ofNat 1, .ofNat 0)), (4, 6, (1, .ofNat 1, .ofNat 0), (0, .ofNat 0, .ofNat 56), (3, .ofNat 1, .ofNat 0)), (0, 122, (0, .ofNat 0, .ofNat 26), (2, .ofNat 1, .ofNat 0), (0, .ofNat 0, .ofNat 0)), (2, 3, (0, .ofNat 0, .ofNat 56), (0, .ofNat 0, .ofNat 0), (0, .ofNat 0, .ofNat 0)), (2, 5, (2, .ofNat 1, .ofNat 8), (0, .ofNat 0, .ofNat 80), (0, .ofNat 0, .ofNat 0)), (0, 122, (0, .ofNat 0, .ofNat 26), (2, .ofNat 1, .ofNat 0), (0, .ofNat 0, .ofNat 0))], [(2, [(.ofNat 0, .ofNat 72)]), (5, [(.ofNat 0, .ofNat 255)]), (8, [(.ofNat 0, .ofNat 255)]), (11, [(.ofNat 0, .ofNat 255)]), (14, [(.ofNat 0, .ofNat 255)]), (17, [(.ofNat 0, .ofNat 255)]), (20, [(.ofNat 0, .ofNat 255)]), (23, [(.ofNat 0, .ofNat 255)]), (26, [(.ofNat 0, .ofNat 255)])], [], []),
  (0, [], [.inl (false, (0, .ofNat 0, .negSucc 2))], [(2, 4, (2, .ofNat 1, .ofNat 8), (0, .ofNat 0, .ofNat 80), (0, .ofNat 0, .ofNat 0)), (0, 122, (0, .ofNat 0, .ofNat 26), (2, .ofNat 1, .ofNat 0), (0, .ofNat 0, .ofNat 0))], [(2, [(.ofNat 73, .ofNat 80)])], [], [])]
set_option maxRecDepth 1000000 in
theorem sg_fd_m_g : sg_go [] [] 3000 205 0 0 2 [(0, [(.ofNat 0, .ofNat 0)]), (1, [(.negSucc 9223372036854775807, .ofNat 9223372036854775807)])] [] [] [] [(0, .inr (.inl [122])), (1, .inl (true, (1, .ofNat 1, .ofNat 0)))] [] [(122, some 26), (141, none)] sg_fd_m_Z = true := by decide +kernel
set_option maxRecDepth 100000 in
theorem sg_fd_m {Q : Option Value × am_S → Prop} {d : Nat} {S : am_S} {L : am_L} {x1 : Int} (hd : 0 ≤ d) (hP : ax_P0 none S) (l0 : lc L 0 122) (l1 : lj L 1 x1) (b1 : ((-9223372036854775808) ≤ x1 ∧ x1 ≤ 9223372036854775807))
    (k0 : ∀ (x2 x3 x4 x5 x6 x7 x8 x9 x10 x11 x12 x13 x14 x15 x16 x17 x18 x19 x20 x21 x22 x23 x24 x25 x26 : Int) (S' : am_S) (i1 : Int32), ax_P0 none S' → rd S' = sg_up (sg_up (sg_up (sg_up (sg_up (sg_up (sg_up (sg_up (sg_up (sg_up (sg_up (sg_up (sg_up (sg_up (sg_up (sg_up (rd S) 141 x2 x5) 122 26 (x2 + 1)) 141 (x2 + 1) x8) 122 26 (x2 + 2)) 141 (x2 + 2) x11) 122 26 (x2 + 3)) 141 (x2 + 3) x14) 122 26 (x2 + 4)) 141 (x2 + 4) x17) 122 26 (x2 + 5)) 141 (x2 + 5) x20) 122 26 (x2 + 6)) 141 (x2 + 6) x23) 122 26 (x2 + 7)) 141 (x2 + 7) x26) 122 26 (x2 + 8) → rd S 122 26 = x2 → x2 + 8 ≤ 80 → (∃ a b : Int64, a.toInt = x1 ∧ b.toInt = 56 ∧ (a >>> (b &&& 63)).toInt = x3) → (∃ a b : Int64, a.toInt = x3 ∧ b.toInt = 0 ∧ a.toInt32.toInt = x4) → (∃ a b : Int32, a.toInt = x4 ∧ b.toInt = 255 ∧ (a &&& b).toInt = x5) → (∃ a b : Int64, a.toInt = x1 ∧ b.toInt = 48 ∧ (a >>> (b &&& 63)).toInt = x6) → (∃ a b : Int64, a.toInt = x6 ∧ b.toInt = 0 ∧ a.toInt32.toInt = x7) → (∃ a b : Int32, a.toInt = x7 ∧ b.toInt = 255 ∧ (a &&& b).toInt = x8) → (∃ a b : Int64, a.toInt = x1 ∧ b.toInt = 40 ∧ (a >>> (b &&& 63)).toInt = x9) → (∃ a b : Int64, a.toInt = x9 ∧ b.toInt = 0 ∧ a.toInt32.toInt = x10) → (∃ a b : Int32, a.toInt = x10 ∧ b.toInt = 255 ∧ (a &&& b).toInt = x11) → (∃ a b : Int64, a.toInt = x1 ∧ b.toInt = 32 ∧ (a >>> (b &&& 63)).toInt = x12) → (∃ a b : Int64, a.toInt = x12 ∧ b.toInt = 0 ∧ a.toInt32.toInt = x13) → (∃ a b : Int32, a.toInt = x13 ∧ b.toInt = 255 ∧ (a &&& b).toInt = x14) → (∃ a b : Int64, a.toInt = x1 ∧ b.toInt = 24 ∧ (a >>> (b &&& 63)).toInt = x15) → (∃ a b : Int64, a.toInt = x15 ∧ b.toInt = 0 ∧ a.toInt32.toInt = x16) → (∃ a b : Int32, a.toInt = x16 ∧ b.toInt = 255 ∧ (a &&& b).toInt = x17) → (∃ a b : Int64, a.toInt = x1 ∧ b.toInt = 16 ∧ (a >>> (b &&& 63)).toInt = x18) → (∃ a b : Int64, a.toInt = x18 ∧ b.toInt = 0 ∧ a.toInt32.toInt = x19) → (∃ a b : Int32, a.toInt = x19 ∧ b.toInt = 255 ∧ (a &&& b).toInt = x20) → (∃ a b : Int64, a.toInt = x1 ∧ b.toInt = 8 ∧ (a >>> (b &&& 63)).toInt = x21) → (∃ a b : Int64, a.toInt = x21 ∧ b.toInt = 0 ∧ a.toInt32.toInt = x22) → (∃ a b : Int32, a.toInt = x22 ∧ b.toInt = 255 ∧ (a &&& b).toInt = x23) → (∃ a b : Int64, a.toInt = x1 ∧ b.toInt = 0 ∧ (a >>> (b &&& 63)).toInt = x24) → (∃ a b : Int64, a.toInt = x24 ∧ b.toInt = 0 ∧ a.toInt32.toInt = x25) → (∃ a b : Int32, a.toInt = x25 ∧ b.toInt = 255 ∧ (a &&& b).toInt = x26) → (0 ≤ x2 ∧ x2 ≤ 72) → (0 ≤ x5 ∧ x5 ≤ 255) → (0 ≤ x8 ∧ x8 ≤ 255) → (0 ≤ x11 ∧ x11 ≤ 255) → (0 ≤ x14 ∧ x14 ≤ 255) → (0 ≤ x17 ∧ x17 ≤ 255) → (0 ≤ x20 ∧ x20 ≤ 255) → (0 ≤ x23 ∧ x23 ≤ 255) → (0 ≤ x26 ∧ x26 ≤ 255) → i1.toInt = x2 + 8 → Q (some (.int i1), S'))
    (k1 : ∀ (x2 : Int) (S' : am_S) (i1 : Int32), ax_P0 none S' → rd S' = rd S → rd S 122 26 = x2 → 80 < x2 + 8 → (73 ≤ x2 ∧ x2 ≤ 80) → i1.toInt = (-3) → Q (some (.int i1), S')) : am_V none d 205 0 L ([]) S Q := by
  refine sg_use sg_fd_m_g hd hP (sg_xs [0, x1]) ⟨⟨Int.le_refl 0, Int.le_refl 0⟩, b1, trivial⟩ trivial trivial trivial ⟨l0, l1, trivial⟩ trivial ?_
  intro z hz x' L' st' S' hx hP' hW hL' hs' hJ hE' hT' hD'
  have q1 : x' 1 = x1 := hx 1 (by decide)
  subst q1
  simp only [sg_fd_m_Z, List.mem_cons, List.not_mem_nil, or_false] at hz
  rcases hz with rfl | rfl
  · obtain ⟨f0, f1, -, -, f4, f5, f6, -, -, -, f10, f11, f12, -, -, -, f16, f17, f18, -, -, -, f22, f23, f24, -, -, -, f28, f29, f30, -, -, -, f34, f35, f36, -, -, -, f40, f41, f42, -, -, -, f46, f47, f48, -, -, -, hσ⟩ := hJ
    obtain ⟨e0, e1, e2, e3, e4, e5, e6, e7, e8, -⟩ := hE'
    intro v hv
    subst hv
    cases v with
    | none => exact hs'.elim
    | some v1 =>
      obtain ⟨⟨i1, rfl, g1⟩, -⟩ := hs'
      exact k0 (x' 2) (x' 3) (x' 4) (x' 5) (x' 6) (x' 7) (x' 8) (x' 9) (x' 10) (x' 11) (x' 12) (x' 13) (x' 14) (x' 15) (x' 16) (x' 17) (x' 18) (x' 19) (x' 20) (x' 21) (x' 22) (x' 23) (x' 24) (x' 25) (x' 26) S' i1 hP' hσ f0 f1 f4 f5 f6 f10 f11 f12 f16 f17 f18 f22 f23 f24 f28 f29 f30 f34 f35 f36 f40 f41 f42 f46 f47 f48 e0 e1 e2 e3 e4 e5 e6 e7 e8 g1
  · obtain ⟨f0, f1, hσ⟩ := hJ
    obtain ⟨e0, -⟩ := hE'
    intro v hv
    subst hv
    cases v with
    | none => exact hs'.elim
    | some v1 =>
      obtain ⟨⟨i1, rfl, g1⟩, -⟩ := hs'
      exact k1 (x' 2) S' i1 hP' hσ f0 f1 e0 g1
def sg_en_x_Z : List sg_z := [(0, [], [.inl (false, (0, .ofNat 0, .negSucc 0))], [(2, 2, (1, .ofNat 1, .ofNat 0), (0, .ofNat 0, .ofNat 0), (0, .ofNat 0, .ofNat 0))], [(1, [(.negSucc 2147483647, .negSucc 0)])], [], []),
  (0, [], [.inl (false, (2, .ofNat 1, .ofNat 0))], [(1, 45, (0, .ofNat 0, .ofNat 0), (1, .ofNat 1, .ofNat 0), (0, .ofNat 0, .ofNat 0)), (0, 45, (0, .ofNat 0, .ofNat 0), (2, .ofNat 1, .ofNat 0), (0, .ofNat 0, .ofNat 0)), (2, 5, (1, .ofNat 1, .ofNat 0), (2, .ofNat 1, .ofNat 0), (0, .ofNat 0, .ofNat 0)), (0, 45, (0, .ofNat 0, .ofNat 0), (2, .ofNat 1, .ofNat 0), (0, .ofNat 0, .ofNat 0)), (2, 3, (1, .ofNat 1, .ofNat 0), (0, .ofNat 0, .ofNat 0), (0, .ofNat 0, .ofNat 0))], [(1, [(.ofNat 0, .ofNat 80)]), (2, [(.ofNat 0, .ofNat 80)])], [], []),
  (0, [], [.inl (false, (0, .ofNat 0, .negSucc 0))], [(2, 4, (1, .ofNat 1, .ofNat 0), (2, .ofNat 1, .ofNat 0), (0, .ofNat 0, .ofNat 0)), (0, 45, (0, .ofNat 0, .ofNat 0), (2, .ofNat 1, .ofNat 0), (0, .ofNat 0, .ofNat 0)), (2, 3, (1, .ofNat 1, .ofNat 0), (0, .ofNat 0, .ofNat 0), (0, .ofNat 0, .ofNat 0))], [(1, [(.ofNat 1, .ofNat 2147483647)]), (2, [(.ofNat 0, .ofNat 80)])], [], [])]
set_option maxRecDepth 1000000 in
theorem sg_en_x_g : sg_go [] [] 3000 118 0 0 2 [(0, [(.ofNat 0, .ofNat 0)]), (1, [(.negSucc 2147483647, .ofNat 2147483647)])] [] [] [] [(0, .inr (.inl [0])), (1, .inl (false, (1, .ofNat 1, .ofNat 0)))] [] [(45, some 0)] sg_en_x_Z = true := by decide +kernel
set_option maxRecDepth 100000 in
theorem sg_en_x {Q : Option Value × am_S → Prop} {d : Nat} {S : am_S} {L : am_L} {x1 : Int} (hd : 0 ≤ d) (hP : ax_P0 none S) (l0 : lc L 0 0) (l1 : li L 1 x1) (b1 : ((-2147483648) ≤ x1 ∧ x1 ≤ 2147483647))
    (k0 : ∀ (S' : am_S) (i1 : Int32), ax_P0 none S' → rd S' = rd S → x1 < 0 → ((-2147483648) ≤ x1 ∧ x1 ≤ (-1)) → i1.toInt = (-1) → Q (some (.int i1), S'))
    (k1 : ∀ (x2 : Int) (S' : am_S) (i1 : Int32), ax_P0 none S' → rd S' = sg_up (rd S) 45 0 x1 → 0 ≤ x1 → rd S 45 0 = x2 → x1 ≤ x2 → (0 ≤ x1 ∧ x1 ≤ 80) → (0 ≤ x2 ∧ x2 ≤ 80) → i1.toInt = x2 → Q (some (.int i1), S'))
    (k2 : ∀ (x2 : Int) (S' : am_S) (i1 : Int32), ax_P0 none S' → rd S' = rd S → 0 ≤ x1 → rd S 45 0 = x2 → x2 < x1 → (1 ≤ x1 ∧ x1 ≤ 2147483647) → (0 ≤ x2 ∧ x2 ≤ 80) → i1.toInt = (-1) → Q (some (.int i1), S')) : am_V none d 118 0 L ([]) S Q := by
  refine sg_use sg_en_x_g hd hP (sg_xs [0, x1]) ⟨⟨Int.le_refl 0, Int.le_refl 0⟩, b1, trivial⟩ trivial trivial trivial ⟨l0, l1, trivial⟩ trivial ?_
  intro z hz x' L' st' S' hx hP' hW hL' hs' hJ hE' hT' hD'
  have q1 : x' 1 = x1 := hx 1 (by decide)
  subst q1
  simp only [sg_en_x_Z, List.mem_cons, List.not_mem_nil, or_false] at hz
  rcases hz with rfl | rfl | rfl
  · obtain ⟨f0, hσ⟩ := hJ
    obtain ⟨e0, -⟩ := hE'
    intro v hv
    subst hv
    cases v with
    | none => exact hs'.elim
    | some v1 =>
      obtain ⟨⟨i1, rfl, g1⟩, -⟩ := hs'
      exact k0 S' i1 hP' hσ f0 e0 g1
  · obtain ⟨f0, f1, f2, -, hσ⟩ := hJ
    obtain ⟨e0, e1, -⟩ := hE'
    intro v hv
    subst hv
    cases v with
    | none => exact hs'.elim
    | some v1 =>
      obtain ⟨⟨i1, rfl, g1⟩, -⟩ := hs'
      exact k1 (x' 2) S' i1 hP' hσ f0 f1 f2 e0 e1 g1
  · obtain ⟨f0, f1, f2, hσ⟩ := hJ
    obtain ⟨e0, e1, -⟩ := hE'
    intro v hv
    subst hv
    cases v with
    | none => exact hs'.elim
    | some v1 =>
      obtain ⟨⟨i1, rfl, g1⟩, -⟩ := hs'
      exact k2 (x' 2) S' i1 hP' hσ f0 f1 f2 e0 e1 g1
def sg_en_m_Z : List sg_z := [(0, [], [.inl (false, (0, .ofNat 0, .negSucc 0))], [(2, 0, (0, .ofNat 0, .ofNat 0), (0, .ofNat 0, .ofNat 0), (0, .ofNat 0, .ofNat 0)), (2, 2, (1, .ofNat 1, .ofNat 0), (0, .ofNat 0, .ofNat 0), (0, .ofNat 0, .ofNat 0)), (0, 122, (0, .ofNat 0, .ofNat 26), (2, .ofNat 1, .ofNat 0), (0, .ofNat 0, .ofNat 0))], [(1, [(.negSucc 2147483647, .negSucc 0)]), (2, [(.ofNat 0, .ofNat 80)])], [], []),
  (0, [], [.inl (false, (0, .ofNat 0, .negSucc 0))], [(2, 0, (0, .ofNat 0, .ofNat 0), (0, .ofNat 0, .ofNat 0), (0, .ofNat 0, .ofNat 0)), (2, 4, (1, .ofNat 1, .ofNat 0), (2, .ofNat 1, .ofNat 0), (0, .ofNat 0, .ofNat 0)), (2, 3, (1, .ofNat 1, .ofNat 0), (0, .ofNat 0, .ofNat 0), (0, .ofNat 0, .ofNat 0)), (0, 122, (0, .ofNat 0, .ofNat 26), (2, .ofNat 1, .ofNat 0), (0, .ofNat 0, .ofNat 0))], [(1, [(.ofNat 1, .ofNat 2147483647)]), (2, [(.ofNat 0, .ofNat 80)])], [], []),
  (0, [], [.inl (false, (2, .ofNat 1, .ofNat 0))], [(1, 122, (0, .ofNat 0, .ofNat 26), (1, .ofNat 1, .ofNat 0), (0, .ofNat 0, .ofNat 0)), (0, 122, (0, .ofNat 0, .ofNat 26), (2, .ofNat 1, .ofNat 0), (0, .ofNat 0, .ofNat 0)), (2, 1, (0, .ofNat 0, .ofNat 1), (0, .ofNat 0, .ofNat 0), (0, .ofNat 0, .ofNat 0)), (2, 5, (1, .ofNat 1, .ofNat 0), (2, .ofNat 1, .ofNat 0), (0, .ofNat 0, .ofNat 0)), (2, 3, (1, .ofNat 1, .ofNat 0), (0, .ofNat 0, .ofNat 0), (0, .ofNat 0, .ofNat 0)), (0, 122, (0, .ofNat 0, .ofNat 26), (2, .ofNat 1, .ofNat 0), (0, .ofNat 0, .ofNat 0))], [(1, [(.ofNat 0, .ofNat 80)]), (2, [(.ofNat 0, .ofNat 80)])], [], [])]
set_option maxRecDepth 1000000 in
theorem sg_en_m_g : sg_go [] [] 3000 206 0 1 2 [(0, [(.ofNat 0, .ofNat 0)]), (1, [(.negSucc 2147483647, .ofNat 2147483647)])] [] [] [] [(0, .inr (.inl [122])), (1, .inl (false, (1, .ofNat 1, .ofNat 0)))] [] [(122, some 26)] sg_en_m_Z = true := by decide +kernel
set_option maxRecDepth 100000 in
theorem sg_en_m {Q : Option Value × am_S → Prop} {d : Nat} {S : am_S} {L : am_L} {x1 : Int} (hd : 1 ≤ d) (hP : ax_P0 none S) (l0 : lc L 0 122) (l1 : li L 1 x1) (b1 : ((-2147483648) ≤ x1 ∧ x1 ≤ 2147483647))
    (k0 : ∀ (x2 : Int) (S' : am_S) (i1 : Int32), ax_P0 none S' → rd S' = rd S → rd S 122 26 = x2 → x1 < 0 → ((-2147483648) ≤ x1 ∧ x1 ≤ (-1)) → (0 ≤ x2 ∧ x2 ≤ 80) → i1.toInt = (-1) → Q (some (.int i1), S'))
    (k1 : ∀ (x2 : Int) (S' : am_S) (i1 : Int32), ax_P0 none S' → rd S' = rd S → rd S 122 26 = x2 → 0 ≤ x1 → x2 < x1 → (1 ≤ x1 ∧ x1 ≤ 2147483647) → (0 ≤ x2 ∧ x2 ≤ 80) → i1.toInt = (-1) → Q (some (.int i1), S'))
    (k2 : ∀ (x2 : Int) (S' : am_S) (i1 : Int32), ax_P0 none S' → rd S' = sg_up (rd S) 122 26 x1 → rd S 122 26 = x2 → 0 ≤ x1 → x1 ≤ x2 → (0 ≤ x1 ∧ x1 ≤ 80) → (0 ≤ x2 ∧ x2 ≤ 80) → i1.toInt = x2 → Q (some (.int i1), S')) : am_V none d 206 0 L ([]) S Q := by
  refine sg_use sg_en_m_g hd hP (sg_xs [0, x1]) ⟨⟨Int.le_refl 0, Int.le_refl 0⟩, b1, trivial⟩ trivial trivial trivial ⟨l0, l1, trivial⟩ trivial ?_
  intro z hz x' L' st' S' hx hP' hW hL' hs' hJ hE' hT' hD'
  have q1 : x' 1 = x1 := hx 1 (by decide)
  subst q1
  simp only [sg_en_m_Z, List.mem_cons, List.not_mem_nil, or_false] at hz
  rcases hz with rfl | rfl | rfl
  · obtain ⟨f0, f1, -, hσ⟩ := hJ
    obtain ⟨e0, e1, -⟩ := hE'
    intro v hv
    subst hv
    cases v with
    | none => exact hs'.elim
    | some v1 =>
      obtain ⟨⟨i1, rfl, g1⟩, -⟩ := hs'
      exact k0 (x' 2) S' i1 hP' hσ f0 f1 e0 e1 g1
  · obtain ⟨f0, f1, f2, -, hσ⟩ := hJ
    obtain ⟨e0, e1, -⟩ := hE'
    intro v hv
    subst hv
    cases v with
    | none => exact hs'.elim
    | some v1 =>
      obtain ⟨⟨i1, rfl, g1⟩, -⟩ := hs'
      exact k1 (x' 2) S' i1 hP' hσ f0 f1 f2 e0 e1 g1
  · obtain ⟨f0, f1, f2, -, -, hσ⟩ := hJ
    obtain ⟨e0, e1, -⟩ := hE'
    intro v hv
    subst hv
    cases v with
    | none => exact hs'.elim
    | some v1 =>
      obtain ⟨⟨i1, rfl, g1⟩, -⟩ := hs'
      exact k2 (x' 2) S' i1 hP' hσ f0 f1 f2 e0 e1 g1
