/-! ===== about, told, compare: what happens from place to place ===== -/
def sg_ab_x_Z : List sg_z := [(0, [], [.inl (false, (0, .ofNat 0, .negSucc 0))], [(2, 0, (0, .ofNat 0, .ofNat 0), (0, .ofNat 0, .ofNat 0), (0, .ofNat 0, .ofNat 0)), (2, 2, (1, .ofNat 1, .ofNat 0), (0, .ofNat 0, .ofNat 0), (0, .ofNat 0, .ofNat 0))], [(1, [(.negSucc 2147483647, .negSucc 0)])], [], []),
  (0, [], [.inl (false, (0, .ofNat 0, .negSucc 0))], [(2, 0, (0, .ofNat 0, .ofNat 0), (0, .ofNat 0, .ofNat 0), (0, .ofNat 0, .ofNat 0)), (2, 3, (1, .ofNat 1, .ofNat 0), (3, .ofNat 1, .ofNat 0), (0, .ofNat 0, .ofNat 0)), (0, 6, (0, .ofNat 0, .ofNat 0), (3, .ofNat 1, .ofNat 0), (0, .ofNat 0, .ofNat 0)), (2, 3, (1, .ofNat 1, .ofNat 0), (0, .ofNat 0, .ofNat 0), (0, .ofNat 0, .ofNat 0))], [(1, [(.ofNat 0, .ofNat 2147483647)]), (3, [(.ofNat 0, .ofNat 16)])], [], []),
  (0, [], [.inl (false, (0, .ofNat 0, .negSucc 0))], [(2, 1, (0, .ofNat 0, .ofNat 1), (0, .ofNat 0, .ofNat 0), (0, .ofNat 0, .ofNat 0)), (2, 2, (1, .ofNat 1, .ofNat 0), (3, .ofNat 1, .ofNat 0), (0, .ofNat 0, .ofNat 0)), (0, 6, (0, .ofNat 0, .ofNat 0), (3, .ofNat 1, .ofNat 0), (0, .ofNat 0, .ofNat 0)), (2, 3, (1, .ofNat 1, .ofNat 0), (0, .ofNat 0, .ofNat 0), (0, .ofNat 0, .ofNat 0))], [(1, [(.ofNat 0, .ofNat 15)]), (2, [(.negSucc 2147483647, .negSucc 0)]), (3, [(.ofNat 1, .ofNat 16)])], [], []),
  (0, [], [.inl (false, (4, .ofNat 1, .ofNat 0))], [(0, 10, (1, .ofNat 1, .ofNat 0), (4, .ofNat 1, .ofNat 0), (0, .ofNat 0, .ofNat 0)), (2, 1, (0, .ofNat 0, .ofNat 1), (0, .ofNat 0, .ofNat 0), (0, .ofNat 0, .ofNat 0)), (2, 2, (1, .ofNat 1, .ofNat 0), (3, .ofNat 1, .ofNat 0), (0, .ofNat 0, .ofNat 0)), (0, 6, (0, .ofNat 0, .ofNat 0), (3, .ofNat 1, .ofNat 0), (0, .ofNat 0, .ofNat 0)), (2, 3, (1, .ofNat 1, .ofNat 0), (0, .ofNat 0, .ofNat 0), (0, .ofNat 0, .ofNat 0))], [(1, [(.ofNat 0, .ofNat 15)]), (2, [(.ofNat 5, .ofNat 5)]), (3, [(.ofNat 1, .ofNat 16)]), (4, [(.ofNat 0, .ofNat 3)])], [], []),
  (0, [], [.inl (false, (4, .ofNat 1, .ofNat 0))], [(0, 12, (1, .ofNat 1, .ofNat 0), (4, .ofNat 1, .ofNat 0), (0, .ofNat 0, .ofNat 0)), (2, 1, (0, .ofNat 0, .ofNat 1), (0, .ofNat 0, .ofNat 0), (0, .ofNat 0, .ofNat 0)), (2, 2, (1, .ofNat 1, .ofNat 0), (3, .ofNat 1, .ofNat 0), (0, .ofNat 0, .ofNat 0)), (0, 6, (0, .ofNat 0, .ofNat 0), (3, .ofNat 1, .ofNat 0), (0, .ofNat 0, .ofNat 0)), (2, 3, (1, .ofNat 1, .ofNat 0), (0, .ofNat 0, .ofNat 0), (0, .ofNat 0, .ofNat 0))], [(1, [(.ofNat 0, .ofNat 15)]), (2, [(.ofNat 4, .ofNat 4)]), (3, [(.ofNat 1, .ofNat 16)]), (4, [(.negSucc 3, .negSucc 3), (.ofNat 0, .ofNat 7)])], [], []),
  (0, [], [.inl (false, (4, .ofNat 1, .ofNat 0))], [(0, 11, (1, .ofNat 1, .ofNat 0), (4, .ofNat 1, .ofNat 0), (0, .ofNat 0, .ofNat 0)), (2, 1, (0, .ofNat 0, .ofNat 1), (0, .ofNat 0, .ofNat 0), (0, .ofNat 0, .ofNat 0)), (2, 2, (1, .ofNat 1, .ofNat 0), (3, .ofNat 1, .ofNat 0), (0, .ofNat 0, .ofNat 0)), (0, 6, (0, .ofNat 0, .ofNat 0), (3, .ofNat 1, .ofNat 0), (0, .ofNat 0, .ofNat 0)), (2, 3, (1, .ofNat 1, .ofNat 0), (0, .ofNat 0, .ofNat 0), (0, .ofNat 0, .ofNat 0))], [(1, [(.ofNat 0, .ofNat 15)]), (2, [(.ofNat 3, .ofNat 3)]), (3, [(.ofNat 1, .ofNat 16)]), (4, [(.negSucc 3, .negSucc 3), (.ofNat 0, .ofNat 7)])], [], []),
  (0, [], [.inl (false, (4, .ofNat 1, .ofNat 0))], [(0, 9, (1, .ofNat 1, .ofNat 0), (4, .ofNat 1, .ofNat 0), (0, .ofNat 0, .ofNat 0)), (2, 1, (0, .ofNat 0, .ofNat 1), (0, .ofNat 0, .ofNat 0), (0, .ofNat 0, .ofNat 0)), (2, 2, (1, .ofNat 1, .ofNat 0), (3, .ofNat 1, .ofNat 0), (0, .ofNat 0, .ofNat 0)), (0, 6, (0, .ofNat 0, .ofNat 0), (3, .ofNat 1, .ofNat 0), (0, .ofNat 0, .ofNat 0)), (2, 3, (1, .ofNat 1, .ofNat 0), (0, .ofNat 0, .ofNat 0), (0, .ofNat 0, .ofNat 0))], [(1, [(.ofNat 0, .ofNat 15)]), (2, [(.ofNat 2, .ofNat 2)]), (3, [(.ofNat 1, .ofNat 16)]), (4, [(.ofNat 0, .ofNat 999)])], [], []),
  (0, [], [.inl (false, (4, .ofNat 1, .ofNat 0))], [(0, 8, (1, .ofNat 1, .ofNat 0), (4, .ofNat 1, .ofNat 0), (0, .ofNat 0, .ofNat 0)), (2, 1, (0, .ofNat 0, .ofNat 1), (0, .ofNat 0, .ofNat 0), (0, .ofNat 0, .ofNat 0)), (2, 2, (1, .ofNat 1, .ofNat 0), (3, .ofNat 1, .ofNat 0), (0, .ofNat 0, .ofNat 0)), (0, 6, (0, .ofNat 0, .ofNat 0), (3, .ofNat 1, .ofNat 0), (0, .ofNat 0, .ofNat 0)), (2, 3, (1, .ofNat 1, .ofNat 0), (0, .ofNat 0, .ofNat 0), (0, .ofNat 0, .ofNat 0))], [(1, [(.ofNat 0, .ofNat 15)]), (2, [(.ofNat 1, .ofNat 1)]), (3, [(.ofNat 1, .ofNat 16)]), (4, [(.ofNat 0, .ofNat 1000)])], [], []),
  (0, [], [.inl (false, (4, .ofNat 1, .ofNat 0))], [(0, 7, (1, .ofNat 1, .ofNat 0), (4, .ofNat 1, .ofNat 0), (0, .ofNat 0, .ofNat 0)), (2, 1, (0, .ofNat 0, .ofNat 1), (0, .ofNat 0, .ofNat 0), (0, .ofNat 0, .ofNat 0)), (2, 2, (1, .ofNat 1, .ofNat 0), (3, .ofNat 1, .ofNat 0), (0, .ofNat 0, .ofNat 0)), (0, 6, (0, .ofNat 0, .ofNat 0), (3, .ofNat 1, .ofNat 0), (0, .ofNat 0, .ofNat 0)), (2, 3, (1, .ofNat 1, .ofNat 0), (0, .ofNat 0, .ofNat 0), (0, .ofNat 0, .ofNat 0))], [(1, [(.ofNat 0, .ofNat 15)]), (2, [(.ofNat 0, .ofNat 0)]), (3, [(.ofNat 1, .ofNat 16)]), (4, [(.ofNat 0, .ofNat 1000000)])], [], []),
  (0, [], [.inl (false, (0, .ofNat 0, .negSucc 0))], [(2, 1, (0, .ofNat 0, .ofNat 1), (0, .ofNat 0, .ofNat 0), (0, .ofNat 0, .ofNat 0)), (2, 2, (1, .ofNat 1, .ofNat 0), (3, .ofNat 1, .ofNat 0), (0, .ofNat 0, .ofNat 0)), (0, 6, (0, .ofNat 0, .ofNat 0), (3, .ofNat 1, .ofNat 0), (0, .ofNat 0, .ofNat 0)), (2, 3, (1, .ofNat 1, .ofNat 0), (0, .ofNat 0, .ofNat 0), (0, .ofNat 0, .ofNat 0))], [(1, [(.ofNat 0, .ofNat 15)]), (2, [(.ofNat 6, .ofNat 2147483647)]), (3, [(.ofNat 1, .ofNat 16)])], [], [])]
set_option maxRecDepth 1000000 in
theorem sg_ab_x_g : sg_go [] [] 3000 100 0 1 3 [(0, [(.ofNat 0, .ofNat 0)]), (1, [(.negSucc 2147483647, .ofNat 2147483647)]), (2, [(.negSucc 2147483647, .ofNat 2147483647)])] [] [] [] [(0, .inr (.inl [0])), (1, .inl (false, (1, .ofNat 1, .ofNat 0))), (2, .inl (false, (2, .ofNat 1, .ofNat 0)))] [] [] sg_ab_x_Z = true := by decide +kernel
set_option maxRecDepth 100000 in
theorem sg_ab_x {Q : Option Value × am_S → Prop} {d : Nat} {S : am_S} {L : am_L} {x1 x2 : Int} (hd : 1 ≤ d) (hP : ax_P0 none S) (l0 : lc L 0 0) (l1 : li L 1 x1) (l2 : li L 2 x2) (b1 : ((-2147483648) ≤ x1 ∧ x1 ≤ 2147483647)) (b2 : ((-2147483648) ≤ x2 ∧ x2 ≤ 2147483647))
    (k0 : ∀ (i1 : Int32), x1 < 0 → ((-2147483648) ≤ x1 ∧ x1 ≤ (-1)) → i1.toInt = (-1) → Q (some (.int i1), S))
    (k1 : ∀ (x3 : Int) (i1 : Int32), 0 ≤ x1 → rd S 6 0 = x3 → x3 ≤ x1 → (0 ≤ x1 ∧ x1 ≤ 2147483647) → (0 ≤ x3 ∧ x3 ≤ 16) → i1.toInt = (-1) → Q (some (.int i1), S))
    (k2 : ∀ (x3 : Int) (i1 : Int32), 0 ≤ x1 → rd S 6 0 = x3 → x1 < x3 → (0 ≤ x1 ∧ x1 ≤ 15) → ((-2147483648) ≤ x2 ∧ x2 ≤ (-1)) → (1 ≤ x3 ∧ x3 ≤ 16) → i1.toInt = (-1) → Q (some (.int i1), S))
    (k3 : ∀ (x3 x4 : Int) (i1 : Int32), 0 ≤ x1 → rd S 6 0 = x3 → x1 < x3 → rd S 10 x1 = x4 → (0 ≤ x1 ∧ x1 ≤ 15) → (5 ≤ x2 ∧ x2 ≤ 5) → (1 ≤ x3 ∧ x3 ≤ 16) → (0 ≤ x4 ∧ x4 ≤ 3) → i1.toInt = x4 → Q (some (.int i1), S))
    (k4 : ∀ (x3 x4 : Int) (i1 : Int32), 0 ≤ x1 → rd S 6 0 = x3 → x1 < x3 → rd S 12 x1 = x4 → (0 ≤ x1 ∧ x1 ≤ 15) → (4 ≤ x2 ∧ x2 ≤ 4) → (1 ≤ x3 ∧ x3 ≤ 16) → ((-4) ≤ x4 ∧ x4 ≤ (-4)) ∨ (0 ≤ x4 ∧ x4 ≤ 7) → i1.toInt = x4 → Q (some (.int i1), S))
    (k5 : ∀ (x3 x4 : Int) (i1 : Int32), 0 ≤ x1 → rd S 6 0 = x3 → x1 < x3 → rd S 11 x1 = x4 → (0 ≤ x1 ∧ x1 ≤ 15) → (3 ≤ x2 ∧ x2 ≤ 3) → (1 ≤ x3 ∧ x3 ≤ 16) → ((-4) ≤ x4 ∧ x4 ≤ (-4)) ∨ (0 ≤ x4 ∧ x4 ≤ 7) → i1.toInt = x4 → Q (some (.int i1), S))
    (k6 : ∀ (x3 x4 : Int) (i1 : Int32), 0 ≤ x1 → rd S 6 0 = x3 → x1 < x3 → rd S 9 x1 = x4 → (0 ≤ x1 ∧ x1 ≤ 15) → (2 ≤ x2 ∧ x2 ≤ 2) → (1 ≤ x3 ∧ x3 ≤ 16) → (0 ≤ x4 ∧ x4 ≤ 999) → i1.toInt = x4 → Q (some (.int i1), S))
    (k7 : ∀ (x3 x4 : Int) (i1 : Int32), 0 ≤ x1 → rd S 6 0 = x3 → x1 < x3 → rd S 8 x1 = x4 → (0 ≤ x1 ∧ x1 ≤ 15) → (1 ≤ x2 ∧ x2 ≤ 1) → (1 ≤ x3 ∧ x3 ≤ 16) → (0 ≤ x4 ∧ x4 ≤ 1000) → i1.toInt = x4 → Q (some (.int i1), S))
    (k8 : ∀ (x3 x4 : Int) (i1 : Int32), 0 ≤ x1 → rd S 6 0 = x3 → x1 < x3 → rd S 7 x1 = x4 → (0 ≤ x1 ∧ x1 ≤ 15) → (0 ≤ x2 ∧ x2 ≤ 0) → (1 ≤ x3 ∧ x3 ≤ 16) → (0 ≤ x4 ∧ x4 ≤ 1000000) → i1.toInt = x4 → Q (some (.int i1), S))
    (k9 : ∀ (x3 : Int) (i1 : Int32), 0 ≤ x1 → rd S 6 0 = x3 → x1 < x3 → (0 ≤ x1 ∧ x1 ≤ 15) → (6 ≤ x2 ∧ x2 ≤ 2147483647) → (1 ≤ x3 ∧ x3 ≤ 16) → i1.toInt = (-1) → Q (some (.int i1), S)) : am_V none d 100 0 L ([]) S Q := by
  refine sg_use sg_ab_x_g hd hP (sg_xs [0, x1, x2]) ⟨⟨Int.le_refl 0, Int.le_refl 0⟩, b1, b2, trivial⟩ trivial trivial trivial ⟨l0, l1, l2, trivial⟩ trivial ?_
  intro z hz x' L' st' S' hx hP' hW hL' hs' hJ hE' hT' hD'
  have q1 : x' 1 = x1 := hx 1 (by decide)
  subst q1
  have q2 : x' 2 = x2 := hx 2 (by decide)
  subst q2
  have eS : S' = S := hW.1 rfl
  subst eS
  simp only [sg_ab_x_Z, List.mem_cons, List.not_mem_nil, or_false] at hz
  rcases hz with rfl | rfl | rfl | rfl | rfl | rfl | rfl | rfl | rfl | rfl
  · obtain ⟨f0, -, hσ⟩ := hJ
    obtain ⟨e0, -⟩ := hE'
    intro v hv
    subst hv
    cases v with
    | none => exact hs'.elim
    | some v1 =>
      obtain ⟨⟨i1, rfl, g1⟩, -⟩ := hs'
      exact k0 i1 f0 e0 g1
  · obtain ⟨f0, f1, f2, -, hσ⟩ := hJ
    obtain ⟨e0, e1, -⟩ := hE'
    intro v hv
    subst hv
    cases v with
    | none => exact hs'.elim
    | some v1 =>
      obtain ⟨⟨i1, rfl, g1⟩, -⟩ := hs'
      exact k1 (x' 3) i1 f0 f1 f2 e0 e1 g1
  · obtain ⟨f0, f1, f2, -, hσ⟩ := hJ
    obtain ⟨e0, e1, e2, -⟩ := hE'
    intro v hv
    subst hv
    cases v with
    | none => exact hs'.elim
    | some v1 =>
      obtain ⟨⟨i1, rfl, g1⟩, -⟩ := hs'
      exact k2 (x' 3) i1 f0 f1 f2 e0 e1 e2 g1
  · obtain ⟨f0, f1, f2, -, f4, hσ⟩ := hJ
    obtain ⟨e0, e1, e2, e3, -⟩ := hE'
    intro v hv
    subst hv
    cases v with
    | none => exact hs'.elim
    | some v1 =>
      obtain ⟨⟨i1, rfl, g1⟩, -⟩ := hs'
      exact k3 (x' 3) (x' 4) i1 f0 f1 f2 f4 e0 e1 e2 e3 g1
  · obtain ⟨f0, f1, f2, -, f4, hσ⟩ := hJ
    obtain ⟨e0, e1, e2, e3, -⟩ := hE'
    intro v hv
    subst hv
    cases v with
    | none => exact hs'.elim
    | some v1 =>
      obtain ⟨⟨i1, rfl, g1⟩, -⟩ := hs'
      exact k4 (x' 3) (x' 4) i1 f0 f1 f2 f4 e0 e1 e2 e3 g1
  · obtain ⟨f0, f1, f2, -, f4, hσ⟩ := hJ
    obtain ⟨e0, e1, e2, e3, -⟩ := hE'
    intro v hv
    subst hv
    cases v with
    | none => exact hs'.elim
    | some v1 =>
      obtain ⟨⟨i1, rfl, g1⟩, -⟩ := hs'
      exact k5 (x' 3) (x' 4) i1 f0 f1 f2 f4 e0 e1 e2 e3 g1
  · obtain ⟨f0, f1, f2, -, f4, hσ⟩ := hJ
    obtain ⟨e0, e1, e2, e3, -⟩ := hE'
    intro v hv
    subst hv
    cases v with
    | none => exact hs'.elim
    | some v1 =>
      obtain ⟨⟨i1, rfl, g1⟩, -⟩ := hs'
      exact k6 (x' 3) (x' 4) i1 f0 f1 f2 f4 e0 e1 e2 e3 g1
  · obtain ⟨f0, f1, f2, -, f4, hσ⟩ := hJ
    obtain ⟨e0, e1, e2, e3, -⟩ := hE'
    intro v hv
    subst hv
    cases v with
    | none => exact hs'.elim
    | some v1 =>
      obtain ⟨⟨i1, rfl, g1⟩, -⟩ := hs'
      exact k7 (x' 3) (x' 4) i1 f0 f1 f2 f4 e0 e1 e2 e3 g1
  · obtain ⟨f0, f1, f2, -, f4, hσ⟩ := hJ
    obtain ⟨e0, e1, e2, e3, -⟩ := hE'
    intro v hv
    subst hv
    cases v with
    | none => exact hs'.elim
    | some v1 =>
      obtain ⟨⟨i1, rfl, g1⟩, -⟩ := hs'
      exact k8 (x' 3) (x' 4) i1 f0 f1 f2 f4 e0 e1 e2 e3 g1
  · obtain ⟨f0, f1, f2, -, hσ⟩ := hJ
    obtain ⟨e0, e1, e2, -⟩ := hE'
    intro v hv
    subst hv
    cases v with
    | none => exact hs'.elim
    | some v1 =>
      obtain ⟨⟨i1, rfl, g1⟩, -⟩ := hs'
      exact k9 (x' 3) i1 f0 f1 f2 e0 e1 e2 g1
def sg_ab_m_Z : List sg_z := [(0, [], [.inl (false, (0, .ofNat 0, .negSucc 0))], [(2, 0, (0, .ofNat 0, .ofNat 0), (0, .ofNat 0, .ofNat 0), (0, .ofNat 0, .ofNat 0)), (2, 2, (1, .ofNat 1, .ofNat 0), (0, .ofNat 0, .ofNat 0), (0, .ofNat 0, .ofNat 0)), (0, 122, (0, .ofNat 0, .ofNat 5), (3, .ofNat 1, .ofNat 0), (0, .ofNat 0, .ofNat 0))], [(1, [(.negSucc 2147483647, .negSucc 0)]), (3, [(.ofNat 0, .ofNat 16)])], [], []),
  (0, [], [.inl (false, (0, .ofNat 0, .negSucc 0))], [(2, 0, (0, .ofNat 0, .ofNat 0), (0, .ofNat 0, .ofNat 0), (0, .ofNat 0, .ofNat 0)), (2, 4, (1, .ofNat 1, .ofNat 0), (3, .ofNat 1, .negSucc 0), (0, .ofNat 0, .ofNat 0)), (2, 3, (1, .ofNat 1, .ofNat 0), (0, .ofNat 0, .ofNat 0), (0, .ofNat 0, .ofNat 0)), (0, 122, (0, .ofNat 0, .ofNat 5), (3, .ofNat 1, .ofNat 0), (0, .ofNat 0, .ofNat 0))], [(1, [(.ofNat 0, .ofNat 2147483647)]), (3, [(.ofNat 0, .ofNat 16)])], [], []),
  (0, [], [.inl (false, (0, .ofNat 0, .negSucc 0))], [(2, 0, (0, .ofNat 0, .ofNat 0), (0, .ofNat 0, .ofNat 0), (0, .ofNat 0, .ofNat 0)), (2, 2, (2, .ofNat 1, .ofNat 0), (0, .ofNat 0, .ofNat 0), (0, .ofNat 0, .ofNat 0)), (2, 1, (0, .ofNat 0, .ofNat 1), (0, .ofNat 0, .ofNat 0), (0, .ofNat 0, .ofNat 0)), (2, 5, (1, .ofNat 1, .ofNat 0), (3, .ofNat 1, .negSucc 0), (0, .ofNat 0, .ofNat 0)), (2, 3, (1, .ofNat 1, .ofNat 0), (0, .ofNat 0, .ofNat 0), (0, .ofNat 0, .ofNat 0)), (0, 122, (0, .ofNat 0, .ofNat 5), (3, .ofNat 1, .ofNat 0), (0, .ofNat 0, .ofNat 0))], [(1, [(.ofNat 0, .ofNat 15)]), (2, [(.negSucc 2147483647, .negSucc 0)]), (3, [(.ofNat 1, .ofNat 16)])], [], []),
  (0, [], [.inl (false, (0, .ofNat 0, .negSucc 0))], [(2, 0, (0, .ofNat 0, .ofNat 0), (0, .ofNat 0, .ofNat 0), (0, .ofNat 0, .ofNat 0)), (2, 4, (2, .ofNat 1, .ofNat 0), (0, .ofNat 0, .ofNat 5), (0, .ofNat 0, .ofNat 0)), (2, 3, (2, .ofNat 1, .ofNat 0), (0, .ofNat 0, .ofNat 0), (0, .ofNat 0, .ofNat 0)), (2, 1, (0, .ofNat 0, .ofNat 1), (0, .ofNat 0, .ofNat 0), (0, .ofNat 0, .ofNat 0)), (2, 5, (1, .ofNat 1, .ofNat 0), (3, .ofNat 1, .negSucc 0), (0, .ofNat 0, .ofNat 0)), (2, 3, (1, .ofNat 1, .ofNat 0), (0, .ofNat 0, .ofNat 0), (0, .ofNat 0, .ofNat 0)), (0, 122, (0, .ofNat 0, .ofNat 5), (3, .ofNat 1, .ofNat 0), (0, .ofNat 0, .ofNat 0))], [(1, [(.ofNat 0, .ofNat 15)]), (2, [(.ofNat 6, .ofNat 2147483647)]), (3, [(.ofNat 1, .ofNat 16)])], [], []),
  (0, [], [.inl (false, (4, .ofNat 1, .ofNat 0))], [(0, 132, (1, .ofNat 1, .ofNat 0), (4, .ofNat 1, .ofNat 0), (0, .ofNat 0, .ofNat 0)), (2, 1, (2, .ofNat 1, .ofNat 0), (0, .ofNat 0, .ofNat 4), (0, .ofNat 0, .ofNat 0)), (2, 1, (2, .ofNat 1, .ofNat 0), (0, .ofNat 0, .ofNat 3), (0, .ofNat 0, .ofNat 0)), (2, 1, (2, .ofNat 1, .ofNat 0), (0, .ofNat 0, .ofNat 2), (0, .ofNat 0, .ofNat 0)), (2, 1, (2, .ofNat 1, .ofNat 0), (0, .ofNat 0, .ofNat 1), (0, .ofNat 0, .ofNat 0)), (2, 1, (2, .ofNat 1, .ofNat 0), (0, .ofNat 0, .ofNat 0), (0, .ofNat 0, .ofNat 0)), (2, 1, (0, .ofNat 0, .ofNat 1), (0, .ofNat 0, .ofNat 0), (0, .ofNat 0, .ofNat 0)), (2, 5, (2, .ofNat 1, .ofNat 0), (0, .ofNat 0, .ofNat 5), (0, .ofNat 0, .ofNat 0)), (2, 3, (2, .ofNat 1, .ofNat 0), (0, .ofNat 0, .ofNat 0), (0, .ofNat 0, .ofNat 0)), (2, 1, (0, .ofNat 0, .ofNat 1), (0, .ofNat 0, .ofNat 0), (0, .ofNat 0, .ofNat 0)), (2, 5, (1, .ofNat 1, .ofNat 0), (3, .ofNat 1, .negSucc 0), (0, .ofNat 0, .ofNat 0)), (2, 3, (1, .ofNat 1, .ofNat 0), (0, .ofNat 0, .ofNat 0), (0, .ofNat 0, .ofNat 0)), (0, 122, (0, .ofNat 0, .ofNat 5), (3, .ofNat 1, .ofNat 0), (0, .ofNat 0, .ofNat 0))], [(1, [(.ofNat 0, .ofNat 15)]), (2, [(.ofNat 5, .ofNat 5)]), (3, [(.ofNat 1, .ofNat 16)]), (4, [(.ofNat 0, .ofNat 3)])], [], []),
  (0, [], [.inl (false, (4, .ofNat 1, .ofNat 0))], [(0, 131, (1, .ofNat 1, .ofNat 0), (4, .ofNat 1, .ofNat 0), (0, .ofNat 0, .ofNat 0)), (2, 0, (2, .ofNat 1, .ofNat 0), (0, .ofNat 0, .ofNat 4), (0, .ofNat 0, .ofNat 0)), (2, 1, (2, .ofNat 1, .ofNat 0), (0, .ofNat 0, .ofNat 3), (0, .ofNat 0, .ofNat 0)), (2, 1, (2, .ofNat 1, .ofNat 0), (0, .ofNat 0, .ofNat 2), (0, .ofNat 0, .ofNat 0)), (2, 1, (2, .ofNat 1, .ofNat 0), (0, .ofNat 0, .ofNat 1), (0, .ofNat 0, .ofNat 0)), (2, 1, (2, .ofNat 1, .ofNat 0), (0, .ofNat 0, .ofNat 0), (0, .ofNat 0, .ofNat 0)), (2, 1, (0, .ofNat 0, .ofNat 1), (0, .ofNat 0, .ofNat 0), (0, .ofNat 0, .ofNat 0)), (2, 5, (2, .ofNat 1, .ofNat 0), (0, .ofNat 0, .ofNat 5), (0, .ofNat 0, .ofNat 0)), (2, 3, (2, .ofNat 1, .ofNat 0), (0, .ofNat 0, .ofNat 0), (0, .ofNat 0, .ofNat 0)), (2, 1, (0, .ofNat 0, .ofNat 1), (0, .ofNat 0, .ofNat 0), (0, .ofNat 0, .ofNat 0)), (2, 5, (1, .ofNat 1, .ofNat 0), (3, .ofNat 1, .negSucc 0), (0, .ofNat 0, .ofNat 0)), (2, 3, (1, .ofNat 1, .ofNat 0), (0, .ofNat 0, .ofNat 0), (0, .ofNat 0, .ofNat 0)), (0, 122, (0, .ofNat 0, .ofNat 5), (3, .ofNat 1, .ofNat 0), (0, .ofNat 0, .ofNat 0))], [(1, [(.ofNat 0, .ofNat 15)]), (2, [(.ofNat 4, .ofNat 4)]), (3, [(.ofNat 1, .ofNat 16)]), (4, [(.negSucc 3, .negSucc 3), (.ofNat 0, .ofNat 7)])], [], []),
  (0, [], [.inl (false, (4, .ofNat 1, .ofNat 0))], [(0, 130, (1, .ofNat 1, .ofNat 0), (4, .ofNat 1, .ofNat 0), (0, .ofNat 0, .ofNat 0)), (2, 0, (2, .ofNat 1, .ofNat 0), (0, .ofNat 0, .ofNat 3), (0, .ofNat 0, .ofNat 0)), (2, 1, (2, .ofNat 1, .ofNat 0), (0, .ofNat 0, .ofNat 2), (0, .ofNat 0, .ofNat 0)), (2, 1, (2, .ofNat 1, .ofNat 0), (0, .ofNat 0, .ofNat 1), (0, .ofNat 0, .ofNat 0)), (2, 1, (2, .ofNat 1, .ofNat 0), (0, .ofNat 0, .ofNat 0), (0, .ofNat 0, .ofNat 0)), (2, 1, (0, .ofNat 0, .ofNat 1), (0, .ofNat 0, .ofNat 0), (0, .ofNat 0, .ofNat 0)), (2, 5, (2, .ofNat 1, .ofNat 0), (0, .ofNat 0, .ofNat 5), (0, .ofNat 0, .ofNat 0)), (2, 3, (2, .ofNat 1, .ofNat 0), (0, .ofNat 0, .ofNat 0), (0, .ofNat 0, .ofNat 0)), (2, 1, (0, .ofNat 0, .ofNat 1), (0, .ofNat 0, .ofNat 0), (0, .ofNat 0, .ofNat 0)), (2, 5, (1, .ofNat 1, .ofNat 0), (3, .ofNat 1, .negSucc 0), (0, .ofNat 0, .ofNat 0)), (2, 3, (1, .ofNat 1, .ofNat 0), (0, .ofNat 0, .ofNat 0), (0, .ofNat 0, .ofNat 0)), (0, 122, (0, .ofNat 0, .ofNat 5), (3, .ofNat 1, .ofNat 0), (0, .ofNat 0, .ofNat 0))], [(1, [(.ofNat 0, .ofNat 15)]), (2, [(.ofNat 3, .ofNat 3)]), (3, [(.ofNat 1, .ofNat 16)]), (4, [(.negSucc 3, .negSucc 3), (.ofNat 0, .ofNat 7)])], [], []),
  (0, [], [.inl (false, (4, .ofNat 1, .ofNat 0))], [(0, 129, (1, .ofNat 1, .ofNat 0), (4, .ofNat 1, .ofNat 0), (0, .ofNat 0, .ofNat 0)), (2, 0, (2, .ofNat 1, .ofNat 0), (0, .ofNat 0, .ofNat 2), (0, .ofNat 0, .ofNat 0)), (2, 1, (2, .ofNat 1, .ofNat 0), (0, .ofNat 0, .ofNat 1), (0, .ofNat 0, .ofNat 0)), (2, 1, (2, .ofNat 1, .ofNat 0), (0, .ofNat 0, .ofNat 0), (0, .ofNat 0, .ofNat 0)), (2, 1, (0, .ofNat 0, .ofNat 1), (0, .ofNat 0, .ofNat 0), (0, .ofNat 0, .ofNat 0)), (2, 5, (2, .ofNat 1, .ofNat 0), (0, .ofNat 0, .ofNat 5), (0, .ofNat 0, .ofNat 0)), (2, 3, (2, .ofNat 1, .ofNat 0), (0, .ofNat 0, .ofNat 0), (0, .ofNat 0, .ofNat 0)), (2, 1, (0, .ofNat 0, .ofNat 1), (0, .ofNat 0, .ofNat 0), (0, .ofNat 0, .ofNat 0)), (2, 5, (1, .ofNat 1, .ofNat 0), (3, .ofNat 1, .negSucc 0), (0, .ofNat 0, .ofNat 0)), (2, 3, (1, .ofNat 1, .ofNat 0), (0, .ofNat 0, .ofNat 0), (0, .ofNat 0, .ofNat 0)), (0, 122, (0, .ofNat 0, .ofNat 5), (3, .ofNat 1, .ofNat 0), (0, .ofNat 0, .ofNat 0))], [(1, [(.ofNat 0, .ofNat 15)]), (2, [(.ofNat 2, .ofNat 2)]), (3, [(.ofNat 1, .ofNat 16)]), (4, [(.ofNat 0, .ofNat 999)])], [], []),
  (0, [], [.inl (false, (4, .ofNat 1, .ofNat 0))], [(0, 128, (1, .ofNat 1, .ofNat 0), (4, .ofNat 1, .ofNat 0), (0, .ofNat 0, .ofNat 0)), (2, 0, (2, .ofNat 1, .ofNat 0), (0, .ofNat 0, .ofNat 1), (0, .ofNat 0, .ofNat 0)), (2, 1, (2, .ofNat 1, .ofNat 0), (0, .ofNat 0, .ofNat 0), (0, .ofNat 0, .ofNat 0)), (2, 1, (0, .ofNat 0, .ofNat 1), (0, .ofNat 0, .ofNat 0), (0, .ofNat 0, .ofNat 0)), (2, 5, (2, .ofNat 1, .ofNat 0), (0, .ofNat 0, .ofNat 5), (0, .ofNat 0, .ofNat 0)), (2, 3, (2, .ofNat 1, .ofNat 0), (0, .ofNat 0, .ofNat 0), (0, .ofNat 0, .ofNat 0)), (2, 1, (0, .ofNat 0, .ofNat 1), (0, .ofNat 0, .ofNat 0), (0, .ofNat 0, .ofNat 0)), (2, 5, (1, .ofNat 1, .ofNat 0), (3, .ofNat 1, .negSucc 0), (0, .ofNat 0, .ofNat 0)), (2, 3, (1, .ofNat 1, .ofNat 0), (0, .ofNat 0, .ofNat 0), (0, .ofNat 0, .ofNat 0)), (0, 122, (0, .ofNat 0, .ofNat 5), (3, .ofNat 1, .ofNat 0), (0, .ofNat 0, .ofNat 0))], [(1, [(.ofNat 0, .ofNat 15)]), (2, [(.ofNat 1, .ofNat 1)]), (3, [(.ofNat 1, .ofNat 16)]), (4, [(.ofNat 0, .ofNat 1000)])], [], []),
  (0, [], [.inl (false, (4, .ofNat 1, .ofNat 0))], [(0, 127, (1, .ofNat 1, .ofNat 0), (4, .ofNat 1, .ofNat 0), (0, .ofNat 0, .ofNat 0)), (2, 0, (2, .ofNat 1, .ofNat 0), (0, .ofNat 0, .ofNat 0), (0, .ofNat 0, .ofNat 0)), (2, 1, (0, .ofNat 0, .ofNat 1), (0, .ofNat 0, .ofNat 0), (0, .ofNat 0, .ofNat 0)), (2, 5, (2, .ofNat 1, .ofNat 0), (0, .ofNat 0, .ofNat 5), (0, .ofNat 0, .ofNat 0)), (2, 3, (2, .ofNat 1, .ofNat 0), (0, .ofNat 0, .ofNat 0), (0, .ofNat 0, .ofNat 0)), (2, 1, (0, .ofNat 0, .ofNat 1), (0, .ofNat 0, .ofNat 0), (0, .ofNat 0, .ofNat 0)), (2, 5, (1, .ofNat 1, .ofNat 0), (3, .ofNat 1, .negSucc 0), (0, .ofNat 0, .ofNat 0)), (2, 3, (1, .ofNat 1, .ofNat 0), (0, .ofNat 0, .ofNat 0), (0, .ofNat 0, .ofNat 0)), (0, 122, (0, .ofNat 0, .ofNat 5), (3, .ofNat 1, .ofNat 0), (0, .ofNat 0, .ofNat 0))], [(1, [(.ofNat 0, .ofNat 15)]), (2, [(.ofNat 0, .ofNat 0)]), (3, [(.ofNat 1, .ofNat 16)]), (4, [(.ofNat 0, .ofNat 1000000)])], [], [])]
set_option maxRecDepth 1000000 in
theorem sg_ab_m_g : sg_go [] [] 3000 169 0 2 3 [(0, [(.ofNat 0, .ofNat 0)]), (1, [(.negSucc 2147483647, .ofNat 2147483647)]), (2, [(.negSucc 2147483647, .ofNat 2147483647)])] [] [] [] [(0, .inr (.inl [122])), (1, .inl (false, (1, .ofNat 1, .ofNat 0))), (2, .inl (false, (2, .ofNat 1, .ofNat 0)))] [] [] sg_ab_m_Z = true := by decide +kernel
set_option maxRecDepth 100000 in
theorem sg_ab_m {Q : Option Value × am_S → Prop} {d : Nat} {S : am_S} {L : am_L} {x1 x2 : Int} (hd : 2 ≤ d) (hP : ax_P0 none S) (l0 : lc L 0 122) (l1 : li L 1 x1) (l2 : li L 2 x2) (b1 : ((-2147483648) ≤ x1 ∧ x1 ≤ 2147483647)) (b2 : ((-2147483648) ≤ x2 ∧ x2 ≤ 2147483647))
    (k0 : ∀ (x3 : Int) (i1 : Int32), rd S 122 5 = x3 → x1 < 0 → ((-2147483648) ≤ x1 ∧ x1 ≤ (-1)) → (0 ≤ x3 ∧ x3 ≤ 16) → i1.toInt = (-1) → Q (some (.int i1), S))
    (k1 : ∀ (x3 : Int) (i1 : Int32), rd S 122 5 = x3 → 0 ≤ x1 → x3 + (-1) < x1 → (0 ≤ x1 ∧ x1 ≤ 2147483647) → (0 ≤ x3 ∧ x3 ≤ 16) → i1.toInt = (-1) → Q (some (.int i1), S))
    (k2 : ∀ (x3 : Int) (i1 : Int32), rd S 122 5 = x3 → 0 ≤ x1 → x1 ≤ x3 + (-1) → x2 < 0 → (0 ≤ x1 ∧ x1 ≤ 15) → ((-2147483648) ≤ x2 ∧ x2 ≤ (-1)) → (1 ≤ x3 ∧ x3 ≤ 16) → i1.toInt = (-1) → Q (some (.int i1), S))
    (k3 : ∀ (x3 : Int) (i1 : Int32), rd S 122 5 = x3 → 0 ≤ x1 → x1 ≤ x3 + (-1) → 0 ≤ x2 → 5 < x2 → (0 ≤ x1 ∧ x1 ≤ 15) → (6 ≤ x2 ∧ x2 ≤ 2147483647) → (1 ≤ x3 ∧ x3 ≤ 16) → i1.toInt = (-1) → Q (some (.int i1), S))
    (k4 : ∀ (x3 x4 : Int) (i1 : Int32), rd S 122 5 = x3 → 0 ≤ x1 → x1 ≤ x3 + (-1) → 0 ≤ x2 → x2 ≤ 5 → x2 ≠ 0 → x2 ≠ 1 → x2 ≠ 2 → x2 ≠ 3 → x2 ≠ 4 → rd S 132 x1 = x4 → (0 ≤ x1 ∧ x1 ≤ 15) → (5 ≤ x2 ∧ x2 ≤ 5) → (1 ≤ x3 ∧ x3 ≤ 16) → (0 ≤ x4 ∧ x4 ≤ 3) → i1.toInt = x4 → Q (some (.int i1), S))
    (k5 : ∀ (x3 x4 : Int) (i1 : Int32), rd S 122 5 = x3 → 0 ≤ x1 → x1 ≤ x3 + (-1) → 0 ≤ x2 → x2 ≤ 5 → x2 ≠ 0 → x2 ≠ 1 → x2 ≠ 2 → x2 ≠ 3 → x2 = 4 → rd S 131 x1 = x4 → (0 ≤ x1 ∧ x1 ≤ 15) → (4 ≤ x2 ∧ x2 ≤ 4) → (1 ≤ x3 ∧ x3 ≤ 16) → ((-4) ≤ x4 ∧ x4 ≤ (-4)) ∨ (0 ≤ x4 ∧ x4 ≤ 7) → i1.toInt = x4 → Q (some (.int i1), S))
    (k6 : ∀ (x3 x4 : Int) (i1 : Int32), rd S 122 5 = x3 → 0 ≤ x1 → x1 ≤ x3 + (-1) → 0 ≤ x2 → x2 ≤ 5 → x2 ≠ 0 → x2 ≠ 1 → x2 ≠ 2 → x2 = 3 → rd S 130 x1 = x4 → (0 ≤ x1 ∧ x1 ≤ 15) → (3 ≤ x2 ∧ x2 ≤ 3) → (1 ≤ x3 ∧ x3 ≤ 16) → ((-4) ≤ x4 ∧ x4 ≤ (-4)) ∨ (0 ≤ x4 ∧ x4 ≤ 7) → i1.toInt = x4 → Q (some (.int i1), S))
    (k7 : ∀ (x3 x4 : Int) (i1 : Int32), rd S 122 5 = x3 → 0 ≤ x1 → x1 ≤ x3 + (-1) → 0 ≤ x2 → x2 ≤ 5 → x2 ≠ 0 → x2 ≠ 1 → x2 = 2 → rd S 129 x1 = x4 → (0 ≤ x1 ∧ x1 ≤ 15) → (2 ≤ x2 ∧ x2 ≤ 2) → (1 ≤ x3 ∧ x3 ≤ 16) → (0 ≤ x4 ∧ x4 ≤ 999) → i1.toInt = x4 → Q (some (.int i1), S))
    (k8 : ∀ (x3 x4 : Int) (i1 : Int32), rd S 122 5 = x3 → 0 ≤ x1 → x1 ≤ x3 + (-1) → 0 ≤ x2 → x2 ≤ 5 → x2 ≠ 0 → x2 = 1 → rd S 128 x1 = x4 → (0 ≤ x1 ∧ x1 ≤ 15) → (1 ≤ x2 ∧ x2 ≤ 1) → (1 ≤ x3 ∧ x3 ≤ 16) → (0 ≤ x4 ∧ x4 ≤ 1000) → i1.toInt = x4 → Q (some (.int i1), S))
    (k9 : ∀ (x3 x4 : Int) (i1 : Int32), rd S 122 5 = x3 → 0 ≤ x1 → x1 ≤ x3 + (-1) → 0 ≤ x2 → x2 ≤ 5 → x2 = 0 → rd S 127 x1 = x4 → (0 ≤ x1 ∧ x1 ≤ 15) → (0 ≤ x2 ∧ x2 ≤ 0) → (1 ≤ x3 ∧ x3 ≤ 16) → (0 ≤ x4 ∧ x4 ≤ 1000000) → i1.toInt = x4 → Q (some (.int i1), S)) : am_V none d 169 0 L ([]) S Q := by
  refine sg_use sg_ab_m_g hd hP (sg_xs [0, x1, x2]) ⟨⟨Int.le_refl 0, Int.le_refl 0⟩, b1, b2, trivial⟩ trivial trivial trivial ⟨l0, l1, l2, trivial⟩ trivial ?_
  intro z hz x' L' st' S' hx hP' hW hL' hs' hJ hE' hT' hD'
  have q1 : x' 1 = x1 := hx 1 (by decide)
  subst q1
  have q2 : x' 2 = x2 := hx 2 (by decide)
  subst q2
  have eS : S' = S := hW.1 rfl
  subst eS
  simp only [sg_ab_m_Z, List.mem_cons, List.not_mem_nil, or_false] at hz
  rcases hz with rfl | rfl | rfl | rfl | rfl | rfl | rfl | rfl | rfl | rfl
  · obtain ⟨f0, f1, -, hσ⟩ := hJ
    obtain ⟨e0, e1, -⟩ := hE'
    intro v hv
    subst hv
    cases v with
    | none => exact hs'.elim
    | some v1 =>
      obtain ⟨⟨i1, rfl, g1⟩, -⟩ := hs'
      exact k0 (x' 3) i1 f0 f1 e0 e1 g1
  · obtain ⟨f0, f1, f2, -, hσ⟩ := hJ
    obtain ⟨e0, e1, -⟩ := hE'
    intro v hv
    subst hv
    cases v with
    | none => exact hs'.elim
    | some v1 =>
      obtain ⟨⟨i1, rfl, g1⟩, -⟩ := hs'
      exact k1 (x' 3) i1 f0 f1 f2 e0 e1 g1
  · obtain ⟨f0, f1, f2, -, f4, -, hσ⟩ := hJ
    obtain ⟨e0, e1, e2, -⟩ := hE'
    intro v hv
    subst hv
    cases v with
    | none => exact hs'.elim
    | some v1 =>
      obtain ⟨⟨i1, rfl, g1⟩, -⟩ := hs'
      exact k2 (x' 3) i1 f0 f1 f2 f4 e0 e1 e2 g1
  · obtain ⟨f0, f1, f2, -, f4, f5, -, hσ⟩ := hJ
    obtain ⟨e0, e1, e2, -⟩ := hE'
    intro v hv
    subst hv
    cases v with
    | none => exact hs'.elim
    | some v1 =>
      obtain ⟨⟨i1, rfl, g1⟩, -⟩ := hs'
      exact k3 (x' 3) i1 f0 f1 f2 f4 f5 e0 e1 e2 g1
  · obtain ⟨f0, f1, f2, -, f4, f5, -, f7, f8, f9, f10, f11, f12, hσ⟩ := hJ
    obtain ⟨e0, e1, e2, e3, -⟩ := hE'
    intro v hv
    subst hv
    cases v with
    | none => exact hs'.elim
    | some v1 =>
      obtain ⟨⟨i1, rfl, g1⟩, -⟩ := hs'
      exact k4 (x' 3) (x' 4) i1 f0 f1 f2 f4 f5 f7 f8 f9 f10 f11 f12 e0 e1 e2 e3 g1
  · obtain ⟨f0, f1, f2, -, f4, f5, -, f7, f8, f9, f10, f11, f12, hσ⟩ := hJ
    obtain ⟨e0, e1, e2, e3, -⟩ := hE'
    intro v hv
    subst hv
    cases v with
    | none => exact hs'.elim
    | some v1 =>
      obtain ⟨⟨i1, rfl, g1⟩, -⟩ := hs'
      exact k5 (x' 3) (x' 4) i1 f0 f1 f2 f4 f5 f7 f8 f9 f10 f11 f12 e0 e1 e2 e3 g1
  · obtain ⟨f0, f1, f2, -, f4, f5, -, f7, f8, f9, f10, f11, hσ⟩ := hJ
    obtain ⟨e0, e1, e2, e3, -⟩ := hE'
    intro v hv
    subst hv
    cases v with
    | none => exact hs'.elim
    | some v1 =>
      obtain ⟨⟨i1, rfl, g1⟩, -⟩ := hs'
      exact k6 (x' 3) (x' 4) i1 f0 f1 f2 f4 f5 f7 f8 f9 f10 f11 e0 e1 e2 e3 g1
  · obtain ⟨f0, f1, f2, -, f4, f5, -, f7, f8, f9, f10, hσ⟩ := hJ
    obtain ⟨e0, e1, e2, e3, -⟩ := hE'
    intro v hv
    subst hv
    cases v with
    | none => exact hs'.elim
    | some v1 =>
      obtain ⟨⟨i1, rfl, g1⟩, -⟩ := hs'
      exact k7 (x' 3) (x' 4) i1 f0 f1 f2 f4 f5 f7 f8 f9 f10 e0 e1 e2 e3 g1
  · obtain ⟨f0, f1, f2, -, f4, f5, -, f7, f8, f9, hσ⟩ := hJ
    obtain ⟨e0, e1, e2, e3, -⟩ := hE'
    intro v hv
    subst hv
    cases v with
    | none => exact hs'.elim
    | some v1 =>
      obtain ⟨⟨i1, rfl, g1⟩, -⟩ := hs'
      exact k8 (x' 3) (x' 4) i1 f0 f1 f2 f4 f5 f7 f8 f9 e0 e1 e2 e3 g1
  · obtain ⟨f0, f1, f2, -, f4, f5, -, f7, f8, hσ⟩ := hJ
    obtain ⟨e0, e1, e2, e3, -⟩ := hE'
    intro v hv
    subst hv
    cases v with
    | none => exact hs'.elim
    | some v1 =>
      obtain ⟨⟨i1, rfl, g1⟩, -⟩ := hs'
      exact k9 (x' 3) (x' 4) i1 f0 f1 f2 f4 f5 f7 f8 e0 e1 e2 e3 g1
def sg_fi_x_Z : List sg_z := [(0, [], [.inl (false, (0, .ofNat 0, .negSucc 0))], [(2, 0, (0, .ofNat 0, .ofNat 0), (0, .ofNat 0, .ofNat 0), (0, .ofNat 0, .ofNat 0)), (2, 2, (1, .ofNat 1, .ofNat 0), (0, .ofNat 0, .ofNat 0), (0, .ofNat 0, .ofNat 0))], [(1, [(.negSucc 2147483647, .negSucc 0)])], [], []),
  (0, [], [.inl (false, (0, .ofNat 0, .negSucc 0))], [(2, 0, (0, .ofNat 0, .ofNat 0), (0, .ofNat 0, .ofNat 0), (0, .ofNat 0, .ofNat 0)), (2, 3, (1, .ofNat 1, .ofNat 0), (2, .ofNat 1, .ofNat 0), (0, .ofNat 0, .ofNat 0)), (0, 6, (0, .ofNat 0, .ofNat 0), (2, .ofNat 1, .ofNat 0), (0, .ofNat 0, .ofNat 0)), (2, 3, (1, .ofNat 1, .ofNat 0), (0, .ofNat 0, .ofNat 0), (0, .ofNat 0, .ofNat 0))], [(1, [(.ofNat 0, .ofNat 2147483647)]), (2, [(.ofNat 0, .ofNat 16)])], [], []),
  (14, [(0, .inr (.inl [0])), (1, .inl (false, (1, .ofNat 1, .ofNat 0)))], [.inl (false, (1, .ofNat 1, .ofNat 0)), .inr (.inl [0])], [(2, 1, (0, .ofNat 0, .ofNat 1), (0, .ofNat 0, .ofNat 0), (0, .ofNat 0, .ofNat 0)), (2, 2, (1, .ofNat 1, .ofNat 0), (2, .ofNat 1, .ofNat 0), (0, .ofNat 0, .ofNat 0)), (0, 6, (0, .ofNat 0, .ofNat 0), (2, .ofNat 1, .ofNat 0), (0, .ofNat 0, .ofNat 0)), (2, 3, (1, .ofNat 1, .ofNat 0), (0, .ofNat 0, .ofNat 0), (0, .ofNat 0, .ofNat 0))], [(1, [(.ofNat 0, .ofNat 15)]), (2, [(.ofNat 1, .ofNat 16)])], [], [])]
set_option maxRecDepth 1000000 in
theorem sg_fi_x_g : sg_go [] [13] 3000 102 0 1 2 [(0, [(.ofNat 0, .ofNat 0)]), (1, [(.negSucc 2147483647, .ofNat 2147483647)])] [] [] [] [(0, .inr (.inl [0])), (1, .inl (false, (1, .ofNat 1, .ofNat 0)))] [] [] sg_fi_x_Z = true := by decide +kernel
set_option maxRecDepth 100000 in
theorem sg_fi_x {Q : Option Value × am_S → Prop} {d : Nat} {S : am_S} {L : am_L} {x1 : Int} (hd : 1 ≤ d) (hP : ax_P0 none S) (l0 : lc L 0 0) (l1 : li L 1 x1) (b1 : ((-2147483648) ≤ x1 ∧ x1 ≤ 2147483647))
    (k0 : ∀ (i1 : Int32), x1 < 0 → ((-2147483648) ≤ x1 ∧ x1 ≤ (-1)) → i1.toInt = (-1) → Q (some (.int i1), S))
    (k1 : ∀ (x2 : Int) (i1 : Int32), 0 ≤ x1 → rd S 6 0 = x2 → x2 ≤ x1 → (0 ≤ x1 ∧ x1 ≤ 2147483647) → (0 ≤ x2 ∧ x2 ≤ 16) → i1.toInt = (-1) → Q (some (.int i1), S))
    (k2 : ∀ (x2 : Int) (L' : am_L) (i1 : Int32), 0 ≤ x1 → rd S 6 0 = x2 → x1 < x2 → (0 ≤ x1 ∧ x1 ≤ 15) → (1 ≤ x2 ∧ x2 ≤ 16) → lc L' 0 0 → li L' 1 x1 → i1.toInt = x1 → am_V none d 102 13 L' ((.int i1) :: (.ref 0) :: []) S Q) : am_V none d 102 0 L ([]) S Q := by
  refine sg_use sg_fi_x_g hd hP (sg_xs [0, x1]) ⟨⟨Int.le_refl 0, Int.le_refl 0⟩, b1, trivial⟩ trivial trivial trivial ⟨l0, l1, trivial⟩ trivial ?_
  intro z hz x' L' st' S' hx hP' hW hL' hs' hJ hE' hT' hD'
  have q1 : x' 1 = x1 := hx 1 (by decide)
  subst q1
  have eS : S' = S := hW.1 rfl
  subst eS
  simp only [sg_fi_x_Z, List.mem_cons, List.not_mem_nil, or_false] at hz
  rcases hz with rfl | rfl | rfl
  · obtain ⟨f0, -, hσ⟩ := hJ
    obtain ⟨e0, -⟩ := hE'
    intro v hv
    subst hv
    cases v with
    | none => exact hs'.elim
    | some v1 =>
      obtain ⟨⟨i1, rfl, g1⟩, -⟩ := hs'
      exact k0 i1 f0 e0 g1
  · obtain ⟨f0, f1, f2, -, hσ⟩ := hJ
    obtain ⟨e0, e1, -⟩ := hE'
    intro v hv
    subst hv
    cases v with
    | none => exact hs'.elim
    | some v1 =>
      obtain ⟨⟨i1, rfl, g1⟩, -⟩ := hs'
      exact k1 (x' 2) i1 f0 f1 f2 e0 e1 g1
  · obtain ⟨f0, f1, f2, -, hσ⟩ := hJ
    obtain ⟨e0, e1, -⟩ := hE'
    obtain ⟨p0, p1, -⟩ := hL'
    obtain ⟨v1, r1, rfl, ⟨i1, rfl, g1⟩, hs1⟩ := sg_tc hs'
    obtain ⟨v2, r2, rfl, rfl, hs2⟩ := sg_tc hs1
    obtain rfl := sg_tn hs2
    exact k2 (x' 2) L' i1 f0 f1 f2 e0 e1 p0 p1 g1
def sg_fi_m_Z : List sg_z := [(0, [], [.inl (false, (0, .ofNat 0, .negSucc 0))], [(2, 0, (0, .ofNat 0, .ofNat 0), (0, .ofNat 0, .ofNat 0), (0, .ofNat 0, .ofNat 0)), (2, 2, (1, .ofNat 1, .ofNat 0), (0, .ofNat 0, .ofNat 0), (0, .ofNat 0, .ofNat 0)), (0, 122, (0, .ofNat 0, .ofNat 5), (2, .ofNat 1, .ofNat 0), (0, .ofNat 0, .ofNat 0))], [(1, [(.negSucc 2147483647, .negSucc 0)]), (2, [(.ofNat 0, .ofNat 16)])], [], []),
  (0, [], [.inl (false, (0, .ofNat 0, .negSucc 0))], [(2, 0, (0, .ofNat 0, .ofNat 0), (0, .ofNat 0, .ofNat 0), (0, .ofNat 0, .ofNat 0)), (2, 4, (1, .ofNat 1, .ofNat 0), (2, .ofNat 1, .negSucc 0), (0, .ofNat 0, .ofNat 0)), (2, 3, (1, .ofNat 1, .ofNat 0), (0, .ofNat 0, .ofNat 0), (0, .ofNat 0, .ofNat 0)), (0, 122, (0, .ofNat 0, .ofNat 5), (2, .ofNat 1, .ofNat 0), (0, .ofNat 0, .ofNat 0))], [(1, [(.ofNat 0, .ofNat 2147483647)]), (2, [(.ofNat 0, .ofNat 16)])], [], []),
  (15, [(0, .inr (.inl [122])), (1, .inl (false, (1, .ofNat 1, .ofNat 0))), (2, .inl (false, (0, .ofNat 0, .ofNat 0))), (3, .inl (false, (0, .ofNat 0, .ofNat 0)))], [], [(2, 1, (0, .ofNat 0, .ofNat 1), (0, .ofNat 0, .ofNat 0), (0, .ofNat 0, .ofNat 0)), (2, 5, (1, .ofNat 1, .ofNat 0), (2, .ofNat 1, .negSucc 0), (0, .ofNat 0, .ofNat 0)), (2, 3, (1, .ofNat 1, .ofNat 0), (0, .ofNat 0, .ofNat 0), (0, .ofNat 0, .ofNat 0)), (0, 122, (0, .ofNat 0, .ofNat 5), (2, .ofNat 1, .ofNat 0), (0, .ofNat 0, .ofNat 0))], [(1, [(.ofNat 0, .ofNat 15)]), (2, [(.ofNat 1, .ofNat 16)])], [], [])]
set_option maxRecDepth 1000000 in
theorem sg_fi_m_g : sg_go [] [14] 3000 175 0 2 2 [(0, [(.ofNat 0, .ofNat 0)]), (1, [(.negSucc 2147483647, .ofNat 2147483647)])] [] [] [] [(0, .inr (.inl [122])), (1, .inl (false, (1, .ofNat 1, .ofNat 0)))] [] [] sg_fi_m_Z = true := by decide +kernel
set_option maxRecDepth 100000 in
theorem sg_fi_m {Q : Option Value × am_S → Prop} {d : Nat} {S : am_S} {L : am_L} {x1 : Int} (hd : 2 ≤ d) (hP : ax_P0 none S) (l0 : lc L 0 122) (l1 : li L 1 x1) (b1 : ((-2147483648) ≤ x1 ∧ x1 ≤ 2147483647))
    (k0 : ∀ (x2 : Int) (i1 : Int32), rd S 122 5 = x2 → x1 < 0 → ((-2147483648) ≤ x1 ∧ x1 ≤ (-1)) → (0 ≤ x2 ∧ x2 ≤ 16) → i1.toInt = (-1) → Q (some (.int i1), S))
    (k1 : ∀ (x2 : Int) (i1 : Int32), rd S 122 5 = x2 → 0 ≤ x1 → x2 + (-1) < x1 → (0 ≤ x1 ∧ x1 ≤ 2147483647) → (0 ≤ x2 ∧ x2 ≤ 16) → i1.toInt = (-1) → Q (some (.int i1), S))
    (k2 : ∀ (x2 : Int) (L' : am_L), rd S 122 5 = x2 → 0 ≤ x1 → x1 ≤ x2 + (-1) → (0 ≤ x1 ∧ x1 ≤ 15) → (1 ≤ x2 ∧ x2 ≤ 16) → lc L' 0 122 → li L' 1 x1 → li L' 2 0 → li L' 3 0 → am_V none d 175 14 L' ([]) S Q) : am_V none d 175 0 L ([]) S Q := by
  refine sg_use sg_fi_m_g hd hP (sg_xs [0, x1]) ⟨⟨Int.le_refl 0, Int.le_refl 0⟩, b1, trivial⟩ trivial trivial trivial ⟨l0, l1, trivial⟩ trivial ?_
  intro z hz x' L' st' S' hx hP' hW hL' hs' hJ hE' hT' hD'
  have q1 : x' 1 = x1 := hx 1 (by decide)
  subst q1
  have eS : S' = S := hW.1 rfl
  subst eS
  simp only [sg_fi_m_Z, List.mem_cons, List.not_mem_nil, or_false] at hz
  rcases hz with rfl | rfl | rfl
  · obtain ⟨f0, f1, -, hσ⟩ := hJ
    obtain ⟨e0, e1, -⟩ := hE'
    intro v hv
    subst hv
    cases v with
    | none => exact hs'.elim
    | some v1 =>
      obtain ⟨⟨i1, rfl, g1⟩, -⟩ := hs'
      exact k0 (x' 2) i1 f0 f1 e0 e1 g1
  · obtain ⟨f0, f1, f2, -, hσ⟩ := hJ
    obtain ⟨e0, e1, -⟩ := hE'
    intro v hv
    subst hv
    cases v with
    | none => exact hs'.elim
    | some v1 =>
      obtain ⟨⟨i1, rfl, g1⟩, -⟩ := hs'
      exact k1 (x' 2) i1 f0 f1 f2 e0 e1 g1
  · obtain ⟨f0, f1, f2, -, hσ⟩ := hJ
    obtain ⟨e0, e1, -⟩ := hE'
    obtain ⟨p0, p1, p2, p3, -⟩ := hL'
    obtain rfl := sg_tn hs'
    exact k2 (x' 2) L' f0 f1 f2 e0 e1 p0 p1 p2 p3
def sg_ft_x_Z : List sg_z := [(0, [], [.inl (false, (0, .ofNat 0, .negSucc 0))], [(2, 0, (0, .ofNat 0, .ofNat 0), (0, .ofNat 0, .ofNat 0), (0, .ofNat 0, .ofNat 0)), (2, 2, (1, .ofNat 1, .ofNat 0), (0, .ofNat 0, .ofNat 0), (0, .ofNat 0, .ofNat 0))], [(1, [(.negSucc 2147483647, .negSucc 0)])], [], []),
  (0, [], [.inl (false, (0, .ofNat 0, .negSucc 0))], [(2, 0, (0, .ofNat 0, .ofNat 0), (0, .ofNat 0, .ofNat 0), (0, .ofNat 0, .ofNat 0)), (2, 3, (1, .ofNat 1, .ofNat 0), (3, .ofNat 1, .ofNat 0), (0, .ofNat 0, .ofNat 0)), (0, 6, (0, .ofNat 0, .ofNat 0), (3, .ofNat 1, .ofNat 0), (0, .ofNat 0, .ofNat 0)), (2, 3, (1, .ofNat 1, .ofNat 0), (0, .ofNat 0, .ofNat 0), (0, .ofNat 0, .ofNat 0))], [(1, [(.ofNat 0, .ofNat 2147483647)]), (3, [(.ofNat 0, .ofNat 16)])], [], []),
  (21, [(0, .inr (.inl [0])), (1, .inl (false, (1, .ofNat 1, .ofNat 0))), (2, .inl (false, (2, .ofNat 1, .ofNat 0)))], [.inl (false, (2, .ofNat 1, .ofNat 0)), .inl (false, (1, .ofNat 1, .ofNat 0)), .inr (.inl [0])], [(2, 3, (2, .ofNat 1, .ofNat 0), (0, .ofNat 0, .ofNat 0), (0, .ofNat 0, .ofNat 0)), (2, 1, (0, .ofNat 0, .ofNat 1), (0, .ofNat 0, .ofNat 0), (0, .ofNat 0, .ofNat 0)), (2, 2, (1, .ofNat 1, .ofNat 0), (3, .ofNat 1, .ofNat 0), (0, .ofNat 0, .ofNat 0)), (0, 6, (0, .ofNat 0, .ofNat 0), (3, .ofNat 1, .ofNat 0), (0, .ofNat 0, .ofNat 0)), (2, 3, (1, .ofNat 1, .ofNat 0), (0, .ofNat 0, .ofNat 0), (0, .ofNat 0, .ofNat 0))], [(1, [(.ofNat 0, .ofNat 15)]), (2, [(.ofNat 0, .ofNat 2147483647)]), (3, [(.ofNat 1, .ofNat 16)])], [], []),
  (0, [], [.inl (false, (0, .ofNat 0, .negSucc 0))], [(2, 2, (2, .ofNat 1, .ofNat 0), (0, .ofNat 0, .ofNat 0), (0, .ofNat 0, .ofNat 0)), (2, 1, (0, .ofNat 0, .ofNat 1), (0, .ofNat 0, .ofNat 0), (0, .ofNat 0, .ofNat 0)), (2, 2, (1, .ofNat 1, .ofNat 0), (3, .ofNat 1, .ofNat 0), (0, .ofNat 0, .ofNat 0)), (0, 6, (0, .ofNat 0, .ofNat 0), (3, .ofNat 1, .ofNat 0), (0, .ofNat 0, .ofNat 0)), (2, 3, (1, .ofNat 1, .ofNat 0), (0, .ofNat 0, .ofNat 0), (0, .ofNat 0, .ofNat 0))], [(1, [(.ofNat 0, .ofNat 15)]), (2, [(.negSucc 2147483647, .negSucc 0)]), (3, [(.ofNat 1, .ofNat 16)])], [], [])]
set_option maxRecDepth 1000000 in
theorem sg_ft_x_g : sg_go [] [20] 3000 103 0 1 3 [(0, [(.ofNat 0, .ofNat 0)]), (1, [(.negSucc 2147483647, .ofNat 2147483647)]), (2, [(.negSucc 2147483647, .ofNat 2147483647)])] [] [] [] [(0, .inr (.inl [0])), (1, .inl (false, (1, .ofNat 1, .ofNat 0))), (2, .inl (false, (2, .ofNat 1, .ofNat 0)))] [] [] sg_ft_x_Z = true := by decide +kernel
set_option maxRecDepth 100000 in
theorem sg_ft_x {Q : Option Value × am_S → Prop} {d : Nat} {S : am_S} {L : am_L} {x1 x2 : Int} (hd : 1 ≤ d) (hP : ax_P0 none S) (l0 : lc L 0 0) (l1 : li L 1 x1) (l2 : li L 2 x2) (b1 : ((-2147483648) ≤ x1 ∧ x1 ≤ 2147483647)) (b2 : ((-2147483648) ≤ x2 ∧ x2 ≤ 2147483647))
    (k0 : ∀ (i1 : Int32), x1 < 0 → ((-2147483648) ≤ x1 ∧ x1 ≤ (-1)) → i1.toInt = (-1) → Q (some (.int i1), S))
    (k1 : ∀ (x3 : Int) (i1 : Int32), 0 ≤ x1 → rd S 6 0 = x3 → x3 ≤ x1 → (0 ≤ x1 ∧ x1 ≤ 2147483647) → (0 ≤ x3 ∧ x3 ≤ 16) → i1.toInt = (-1) → Q (some (.int i1), S))
    (k2 : ∀ (x3 : Int) (L' : am_L) (i1 : Int32) (i2 : Int32), 0 ≤ x1 → rd S 6 0 = x3 → x1 < x3 → 0 ≤ x2 → (0 ≤ x1 ∧ x1 ≤ 15) → (0 ≤ x2 ∧ x2 ≤ 2147483647) → (1 ≤ x3 ∧ x3 ≤ 16) → lc L' 0 0 → li L' 1 x1 → li L' 2 x2 → i1.toInt = x2 → i2.toInt = x1 → am_V none d 103 20 L' ((.int i1) :: (.int i2) :: (.ref 0) :: []) S Q)
    (k3 : ∀ (x3 : Int) (i1 : Int32), 0 ≤ x1 → rd S 6 0 = x3 → x1 < x3 → x2 < 0 → (0 ≤ x1 ∧ x1 ≤ 15) → ((-2147483648) ≤ x2 ∧ x2 ≤ (-1)) → (1 ≤ x3 ∧ x3 ≤ 16) → i1.toInt = (-1) → Q (some (.int i1), S)) : am_V none d 103 0 L ([]) S Q := by
  refine sg_use sg_ft_x_g hd hP (sg_xs [0, x1, x2]) ⟨⟨Int.le_refl 0, Int.le_refl 0⟩, b1, b2, trivial⟩ trivial trivial trivial ⟨l0, l1, l2, trivial⟩ trivial ?_
  intro z hz x' L' st' S' hx hP' hW hL' hs' hJ hE' hT' hD'
  have q1 : x' 1 = x1 := hx 1 (by decide)
  subst q1
  have q2 : x' 2 = x2 := hx 2 (by decide)
  subst q2
  have eS : S' = S := hW.1 rfl
  subst eS
  simp only [sg_ft_x_Z, List.mem_cons, List.not_mem_nil, or_false] at hz
  rcases hz with rfl | rfl | rfl | rfl
  · obtain ⟨f0, -, hσ⟩ := hJ
    obtain ⟨e0, -⟩ := hE'
    intro v hv
    subst hv
    cases v with
    | none => exact hs'.elim
    | some v1 =>
      obtain ⟨⟨i1, rfl, g1⟩, -⟩ := hs'
      exact k0 i1 f0 e0 g1
  · obtain ⟨f0, f1, f2, -, hσ⟩ := hJ
    obtain ⟨e0, e1, -⟩ := hE'
    intro v hv
    subst hv
    cases v with
    | none => exact hs'.elim
    | some v1 =>
      obtain ⟨⟨i1, rfl, g1⟩, -⟩ := hs'
      exact k1 (x' 3) i1 f0 f1 f2 e0 e1 g1
  · obtain ⟨f0, f1, f2, -, f4, hσ⟩ := hJ
    obtain ⟨e0, e1, e2, -⟩ := hE'
    obtain ⟨p0, p1, p2, -⟩ := hL'
    obtain ⟨v1, r1, rfl, ⟨i1, rfl, g1⟩, hs1⟩ := sg_tc hs'
    obtain ⟨v2, r2, rfl, ⟨i2, rfl, g2⟩, hs2⟩ := sg_tc hs1
    obtain ⟨v3, r3, rfl, rfl, hs3⟩ := sg_tc hs2
    obtain rfl := sg_tn hs3
    exact k2 (x' 3) L' i1 i2 f0 f1 f2 f4 e0 e1 e2 p0 p1 p2 g1 g2
  · obtain ⟨f0, f1, f2, -, f4, hσ⟩ := hJ
    obtain ⟨e0, e1, e2, -⟩ := hE'
    intro v hv
    subst hv
    cases v with
    | none => exact hs'.elim
    | some v1 =>
      obtain ⟨⟨i1, rfl, g1⟩, -⟩ := hs'
      exact k3 (x' 3) i1 f0 f1 f2 f4 e0 e1 e2 g1
def sg_ft_m_Z : List sg_z := [(0, [], [.inl (false, (0, .ofNat 0, .negSucc 0))], [(2, 0, (0, .ofNat 0, .ofNat 0), (0, .ofNat 0, .ofNat 0), (0, .ofNat 0, .ofNat 0)), (2, 2, (1, .ofNat 1, .ofNat 0), (0, .ofNat 0, .ofNat 0), (0, .ofNat 0, .ofNat 0)), (0, 122, (0, .ofNat 0, .ofNat 5), (3, .ofNat 1, .ofNat 0), (0, .ofNat 0, .ofNat 0))], [(1, [(.negSucc 2147483647, .negSucc 0)]), (3, [(.ofNat 0, .ofNat 16)])], [], []),
  (0, [], [.inl (false, (0, .ofNat 0, .negSucc 0))], [(2, 0, (0, .ofNat 0, .ofNat 0), (0, .ofNat 0, .ofNat 0), (0, .ofNat 0, .ofNat 0)), (2, 4, (1, .ofNat 1, .ofNat 0), (3, .ofNat 1, .negSucc 0), (0, .ofNat 0, .ofNat 0)), (2, 3, (1, .ofNat 1, .ofNat 0), (0, .ofNat 0, .ofNat 0), (0, .ofNat 0, .ofNat 0)), (0, 122, (0, .ofNat 0, .ofNat 5), (3, .ofNat 1, .ofNat 0), (0, .ofNat 0, .ofNat 0))], [(1, [(.ofNat 0, .ofNat 2147483647)]), (3, [(.ofNat 0, .ofNat 16)])], [], []),
  (0, [], [.inl (false, (0, .ofNat 0, .negSucc 0))], [(2, 2, (2, .ofNat 1, .ofNat 0), (0, .ofNat 0, .ofNat 0), (0, .ofNat 0, .ofNat 0)), (2, 1, (0, .ofNat 0, .ofNat 1), (0, .ofNat 0, .ofNat 0), (0, .ofNat 0, .ofNat 0)), (2, 5, (1, .ofNat 1, .ofNat 0), (3, .ofNat 1, .negSucc 0), (0, .ofNat 0, .ofNat 0)), (2, 3, (1, .ofNat 1, .ofNat 0), (0, .ofNat 0, .ofNat 0), (0, .ofNat 0, .ofNat 0)), (0, 122, (0, .ofNat 0, .ofNat 5), (3, .ofNat 1, .ofNat 0), (0, .ofNat 0, .ofNat 0))], [(1, [(.ofNat 0, .ofNat 15)]), (2, [(.negSucc 2147483647, .negSucc 0)]), (3, [(.ofNat 1, .ofNat 16)])], [], []),
  (16, [(0, .inr (.inl [122])), (1, .inl (false, (1, .ofNat 1, .ofNat 0))), (2, .inl (false, (2, .ofNat 1, .ofNat 0)))], [.inl (false, (2, .ofNat 1, .ofNat 0)), .inl (false, (1, .ofNat 1, .ofNat 0)), .inr (.inl [122])], [(2, 3, (2, .ofNat 1, .ofNat 0), (0, .ofNat 0, .ofNat 0), (0, .ofNat 0, .ofNat 0)), (2, 1, (0, .ofNat 0, .ofNat 1), (0, .ofNat 0, .ofNat 0), (0, .ofNat 0, .ofNat 0)), (2, 5, (1, .ofNat 1, .ofNat 0), (3, .ofNat 1, .negSucc 0), (0, .ofNat 0, .ofNat 0)), (2, 3, (1, .ofNat 1, .ofNat 0), (0, .ofNat 0, .ofNat 0), (0, .ofNat 0, .ofNat 0)), (0, 122, (0, .ofNat 0, .ofNat 5), (3, .ofNat 1, .ofNat 0), (0, .ofNat 0, .ofNat 0))], [(1, [(.ofNat 0, .ofNat 15)]), (2, [(.ofNat 0, .ofNat 2147483647)]), (3, [(.ofNat 1, .ofNat 16)])], [], [])]
set_option maxRecDepth 1000000 in
theorem sg_ft_m_g : sg_go [] [15] 3000 177 0 2 3 [(0, [(.ofNat 0, .ofNat 0)]), (1, [(.negSucc 2147483647, .ofNat 2147483647)]), (2, [(.negSucc 2147483647, .ofNat 2147483647)])] [] [] [] [(0, .inr (.inl [122])), (1, .inl (false, (1, .ofNat 1, .ofNat 0))), (2, .inl (false, (2, .ofNat 1, .ofNat 0)))] [] [] sg_ft_m_Z = true := by decide +kernel
set_option maxRecDepth 100000 in
theorem sg_ft_m {Q : Option Value × am_S → Prop} {d : Nat} {S : am_S} {L : am_L} {x1 x2 : Int} (hd : 2 ≤ d) (hP : ax_P0 none S) (l0 : lc L 0 122) (l1 : li L 1 x1) (l2 : li L 2 x2) (b1 : ((-2147483648) ≤ x1 ∧ x1 ≤ 2147483647)) (b2 : ((-2147483648) ≤ x2 ∧ x2 ≤ 2147483647))
    (k0 : ∀ (x3 : Int) (i1 : Int32), rd S 122 5 = x3 → x1 < 0 → ((-2147483648) ≤ x1 ∧ x1 ≤ (-1)) → (0 ≤ x3 ∧ x3 ≤ 16) → i1.toInt = (-1) → Q (some (.int i1), S))
    (k1 : ∀ (x3 : Int) (i1 : Int32), rd S 122 5 = x3 → 0 ≤ x1 → x3 + (-1) < x1 → (0 ≤ x1 ∧ x1 ≤ 2147483647) → (0 ≤ x3 ∧ x3 ≤ 16) → i1.toInt = (-1) → Q (some (.int i1), S))
    (k2 : ∀ (x3 : Int) (i1 : Int32), rd S 122 5 = x3 → 0 ≤ x1 → x1 ≤ x3 + (-1) → x2 < 0 → (0 ≤ x1 ∧ x1 ≤ 15) → ((-2147483648) ≤ x2 ∧ x2 ≤ (-1)) → (1 ≤ x3 ∧ x3 ≤ 16) → i1.toInt = (-1) → Q (some (.int i1), S))
    (k3 : ∀ (x3 : Int) (L' : am_L) (i1 : Int32) (i2 : Int32), rd S 122 5 = x3 → 0 ≤ x1 → x1 ≤ x3 + (-1) → 0 ≤ x2 → (0 ≤ x1 ∧ x1 ≤ 15) → (0 ≤ x2 ∧ x2 ≤ 2147483647) → (1 ≤ x3 ∧ x3 ≤ 16) → lc L' 0 122 → li L' 1 x1 → li L' 2 x2 → i1.toInt = x2 → i2.toInt = x1 → am_V none d 177 15 L' ((.int i1) :: (.int i2) :: (.ref 122) :: []) S Q) : am_V none d 177 0 L ([]) S Q := by
  refine sg_use sg_ft_m_g hd hP (sg_xs [0, x1, x2]) ⟨⟨Int.le_refl 0, Int.le_refl 0⟩, b1, b2, trivial⟩ trivial trivial trivial ⟨l0, l1, l2, trivial⟩ trivial ?_
  intro z hz x' L' st' S' hx hP' hW hL' hs' hJ hE' hT' hD'
  have q1 : x' 1 = x1 := hx 1 (by decide)
  subst q1
  have q2 : x' 2 = x2 := hx 2 (by decide)
  subst q2
  have eS : S' = S := hW.1 rfl
  subst eS
  simp only [sg_ft_m_Z, List.mem_cons, List.not_mem_nil, or_false] at hz
  rcases hz with rfl | rfl | rfl | rfl
  · obtain ⟨f0, f1, -, hσ⟩ := hJ
    obtain ⟨e0, e1, -⟩ := hE'
    intro v hv
    subst hv
    cases v with
    | none => exact hs'.elim
    | some v1 =>
      obtain ⟨⟨i1, rfl, g1⟩, -⟩ := hs'
      exact k0 (x' 3) i1 f0 f1 e0 e1 g1
  · obtain ⟨f0, f1, f2, -, hσ⟩ := hJ
    obtain ⟨e0, e1, -⟩ := hE'
    intro v hv
    subst hv
    cases v with
    | none => exact hs'.elim
    | some v1 =>
      obtain ⟨⟨i1, rfl, g1⟩, -⟩ := hs'
      exact k1 (x' 3) i1 f0 f1 f2 e0 e1 g1
  · obtain ⟨f0, f1, f2, -, f4, hσ⟩ := hJ
    obtain ⟨e0, e1, e2, -⟩ := hE'
    intro v hv
    subst hv
    cases v with
    | none => exact hs'.elim
    | some v1 =>
      obtain ⟨⟨i1, rfl, g1⟩, -⟩ := hs'
      exact k2 (x' 3) i1 f0 f1 f2 f4 e0 e1 e2 g1
  · obtain ⟨f0, f1, f2, -, f4, hσ⟩ := hJ
    obtain ⟨e0, e1, e2, -⟩ := hE'
    obtain ⟨p0, p1, p2, -⟩ := hL'
    obtain ⟨v1, r1, rfl, ⟨i1, rfl, g1⟩, hs1⟩ := sg_tc hs'
    obtain ⟨v2, r2, rfl, ⟨i2, rfl, g2⟩, hs2⟩ := sg_tc hs1
    obtain ⟨v3, r3, rfl, rfl, hs3⟩ := sg_tc hs2
    obtain rfl := sg_tn hs3
    exact k3 (x' 3) L' i1 i2 f0 f1 f2 f4 e0 e1 e2 p0 p1 p2 g1 g2
def sg_cm_x0_Z : List sg_z := [(0, [], [.inl (false, (0, .ofNat 0, .negSucc 0))], [(2, 0, (0, .ofNat 0, .ofNat 0), (0, .ofNat 0, .ofNat 0), (0, .ofNat 0, .ofNat 0)), (2, 2, (1, .ofNat 1, .ofNat 0), (0, .ofNat 0, .ofNat 0), (0, .ofNat 0, .ofNat 0))], [(1, [(.negSucc 2147483647, .negSucc 0)])], [], []),
  (0, [], [.inl (false, (0, .ofNat 0, .negSucc 0))], [(2, 0, (0, .ofNat 0, .ofNat 0), (0, .ofNat 0, .ofNat 0), (0, .ofNat 0, .ofNat 0)), (2, 3, (1, .ofNat 1, .ofNat 0), (3, .ofNat 1, .ofNat 0), (0, .ofNat 0, .ofNat 0)), (0, 0, (0, .ofNat 0, .ofNat 12), (3, .ofNat 1, .ofNat 0), (0, .ofNat 0, .ofNat 0)), (2, 3, (1, .ofNat 1, .ofNat 0), (0, .ofNat 0, .ofNat 0), (0, .ofNat 0, .ofNat 0))], [(1, [(.ofNat 0, .ofNat 2147483647)]), (3, [(.ofNat 0, .ofNat 4)])], [], []),
  (0, [], [.inl (false, (0, .ofNat 0, .negSucc 0))], [(2, 1, (0, .ofNat 0, .ofNat 1), (0, .ofNat 0, .ofNat 0), (0, .ofNat 0, .ofNat 0)), (2, 2, (1, .ofNat 1, .ofNat 0), (3, .ofNat 1, .ofNat 0), (0, .ofNat 0, .ofNat 0)), (0, 0, (0, .ofNat 0, .ofNat 12), (3, .ofNat 1, .ofNat 0), (0, .ofNat 0, .ofNat 0)), (2, 3, (1, .ofNat 1, .ofNat 0), (0, .ofNat 0, .ofNat 0), (0, .ofNat 0, .ofNat 0))], [(1, [(.ofNat 3, .ofNat 3)]), (2, [(.negSucc 2147483647, .negSucc 0)]), (3, [(.ofNat 1, .ofNat 4)])], [], []),
  (108, [(0, .inr (.inl [0])), (1, .inl (false, (0, .ofNat 0, .ofNat 3))), (2, .inl (false, (0, .ofNat 0, .ofNat 4))), (3, .inr (.inl [110]))], [.inr (.inl [1]), .inr (.inl [110])], [(2, 1, (0, .ofNat 0, .ofNat 1), (0, .ofNat 0, .ofNat 0), (0, .ofNat 0, .ofNat 0)), (2, 2, (1, .ofNat 1, .ofNat 0), (3, .ofNat 1, .ofNat 0), (0, .ofNat 0, .ofNat 0)), (0, 0, (0, .ofNat 0, .ofNat 12), (3, .ofNat 1, .ofNat 0), (0, .ofNat 0, .ofNat 0)), (2, 3, (1, .ofNat 1, .ofNat 0), (0, .ofNat 0, .ofNat 0), (0, .ofNat 0, .ofNat 0))], [(1, [(.ofNat 3, .ofNat 3)]), (2, [(.ofNat 4, .ofNat 4)]), (3, [(.ofNat 1, .ofNat 4)])], [], []),
  (0, [], [.inl (false, (6, .ofNat 1, .ofNat 0))], [(2, 3, (6, .ofNat 1, .ofNat 0), (0, .ofNat 0, .ofNat 0), (0, .ofNat 0, .ofNat 0)), (0, 110, (0, .ofNat 0, .ofNat 1), (5, .ofNat 1, .ofNat 0), (0, .ofNat 0, .ofNat 0)), (0, 6, (0, .ofNat 0, .ofNat 0), (4, .ofNat 1, .ofNat 0), (0, .ofNat 0, .ofNat 0)), (2, 1, (0, .ofNat 0, .ofNat 1), (0, .ofNat 0, .ofNat 0), (0, .ofNat 0, .ofNat 0)), (2, 2, (1, .ofNat 1, .ofNat 0), (3, .ofNat 1, .ofNat 0), (0, .ofNat 0, .ofNat 0)), (0, 0, (0, .ofNat 0, .ofNat 12), (3, .ofNat 1, .ofNat 0), (0, .ofNat 0, .ofNat 0)), (2, 3, (1, .ofNat 1, .ofNat 0), (0, .ofNat 0, .ofNat 0), (0, .ofNat 0, .ofNat 0))], [(1, [(.ofNat 3, .ofNat 3)]), (2, [(.ofNat 3, .ofNat 3)]), (3, [(.ofNat 1, .ofNat 4)]), (4, [(.ofNat 0, .ofNat 16)]), (5, [(.ofNat 0, .ofNat 16)]), (6, [(.ofNat 0, .ofNat 16)])], [((4, .ofNat 1, .ofNat 0), (5, .negSucc 0, .ofNat 0), (6, .ofNat 1, .ofNat 0))], []),
  (0, [], [.inl (false, (6, .negSucc 0, .ofNat 0))], [(2, 2, (6, .ofNat 1, .ofNat 0), (0, .ofNat 0, .ofNat 0), (0, .ofNat 0, .ofNat 0)), (0, 110, (0, .ofNat 0, .ofNat 1), (5, .ofNat 1, .ofNat 0), (0, .ofNat 0, .ofNat 0)), (0, 6, (0, .ofNat 0, .ofNat 0), (4, .ofNat 1, .ofNat 0), (0, .ofNat 0, .ofNat 0)), (2, 1, (0, .ofNat 0, .ofNat 1), (0, .ofNat 0, .ofNat 0), (0, .ofNat 0, .ofNat 0)), (2, 2, (1, .ofNat 1, .ofNat 0), (3, .ofNat 1, .ofNat 0), (0, .ofNat 0, .ofNat 0)), (0, 0, (0, .ofNat 0, .ofNat 12), (3, .ofNat 1, .ofNat 0), (0, .ofNat 0, .ofNat 0)), (2, 3, (1, .ofNat 1, .ofNat 0), (0, .ofNat 0, .ofNat 0), (0, .ofNat 0, .ofNat 0))], [(1, [(.ofNat 3, .ofNat 3)]), (2, [(.ofNat 3, .ofNat 3)]), (3, [(.ofNat 1, .ofNat 4)]), (4, [(.ofNat 0, .ofNat 16)]), (5, [(.ofNat 0, .ofNat 16)]), (6, [(.negSucc 15, .negSucc 0)])], [((4, .ofNat 1, .ofNat 0), (5, .negSucc 0, .ofNat 0), (6, .ofNat 1, .ofNat 0))], []),
  (0, [], [.inl (false, (6, .ofNat 1, .ofNat 0))], [(2, 3, (6, .ofNat 1, .ofNat 0), (0, .ofNat 0, .ofNat 0), (0, .ofNat 0, .ofNat 0)), (0, 110, (0, .ofNat 0, .ofNat 0), (5, .ofNat 1, .ofNat 0), (0, .ofNat 0, .ofNat 0)), (0, 1, (0, .ofNat 0, .ofNat 0), (4, .ofNat 1, .ofNat 0), (0, .ofNat 0, .ofNat 0)), (2, 1, (0, .ofNat 0, .ofNat 1), (0, .ofNat 0, .ofNat 0), (0, .ofNat 0, .ofNat 0)), (2, 2, (1, .ofNat 1, .ofNat 0), (3, .ofNat 1, .ofNat 0), (0, .ofNat 0, .ofNat 0)), (0, 0, (0, .ofNat 0, .ofNat 12), (3, .ofNat 1, .ofNat 0), (0, .ofNat 0, .ofNat 0)), (2, 3, (1, .ofNat 1, .ofNat 0), (0, .ofNat 0, .ofNat 0), (0, .ofNat 0, .ofNat 0))], [(1, [(.ofNat 3, .ofNat 3)]), (2, [(.ofNat 2, .ofNat 2)]), (3, [(.ofNat 1, .ofNat 4)]), (4, [(.ofNat 0, .ofNat 8)]), (5, [(.ofNat 0, .ofNat 8)]), (6, [(.ofNat 0, .ofNat 8)])], [((4, .ofNat 1, .ofNat 0), (5, .negSucc 0, .ofNat 0), (6, .ofNat 1, .ofNat 0))], []),
  (0, [], [.inl (false, (6, .negSucc 0, .ofNat 0))], [(2, 2, (6, .ofNat 1, .ofNat 0), (0, .ofNat 0, .ofNat 0), (0, .ofNat 0, .ofNat 0)), (0, 110, (0, .ofNat 0, .ofNat 0), (5, .ofNat 1, .ofNat 0), (0, .ofNat 0, .ofNat 0)), (0, 1, (0, .ofNat 0, .ofNat 0), (4, .ofNat 1, .ofNat 0), (0, .ofNat 0, .ofNat 0)), (2, 1, (0, .ofNat 0, .ofNat 1), (0, .ofNat 0, .ofNat 0), (0, .ofNat 0, .ofNat 0)), (2, 2, (1, .ofNat 1, .ofNat 0), (3, .ofNat 1, .ofNat 0), (0, .ofNat 0, .ofNat 0)), (0, 0, (0, .ofNat 0, .ofNat 12), (3, .ofNat 1, .ofNat 0), (0, .ofNat 0, .ofNat 0)), (2, 3, (1, .ofNat 1, .ofNat 0), (0, .ofNat 0, .ofNat 0), (0, .ofNat 0, .ofNat 0))], [(1, [(.ofNat 3, .ofNat 3)]), (2, [(.ofNat 2, .ofNat 2)]), (3, [(.ofNat 1, .ofNat 4)]), (4, [(.ofNat 0, .ofNat 8)]), (5, [(.ofNat 0, .ofNat 8)]), (6, [(.negSucc 7, .negSucc 0)])], [((4, .ofNat 1, .ofNat 0), (5, .negSucc 0, .ofNat 0), (6, .ofNat 1, .ofNat 0))], []),
  (67, [(0, .inr (.inl [0])), (1, .inl (false, (0, .ofNat 0, .ofNat 3))), (2, .inl (false, (0, .ofNat 0, .ofNat 1))), (3, .inr (.inl [110]))], [.inr (.inl [6]), .inr (.inl [110])], [(2, 1, (0, .ofNat 0, .ofNat 1), (0, .ofNat 0, .ofNat 0), (0, .ofNat 0, .ofNat 0)), (2, 2, (1, .ofNat 1, .ofNat 0), (3, .ofNat 1, .ofNat 0), (0, .ofNat 0, .ofNat 0)), (0, 0, (0, .ofNat 0, .ofNat 12), (3, .ofNat 1, .ofNat 0), (0, .ofNat 0, .ofNat 0)), (2, 3, (1, .ofNat 1, .ofNat 0), (0, .ofNat 0, .ofNat 0), (0, .ofNat 0, .ofNat 0))], [(1, [(.ofNat 3, .ofNat 3)]), (2, [(.ofNat 1, .ofNat 1)]), (3, [(.ofNat 1, .ofNat 4)])], [], []),
  (58, [(0, .inr (.inl [0])), (1, .inl (false, (0, .ofNat 0, .ofNat 3))), (2, .inl (false, (0, .ofNat 0, .ofNat 0))), (3, .inr (.inl [110]))], [.inr (.inl [1]), .inr (.inl [110])], [(2, 1, (0, .ofNat 0, .ofNat 1), (0, .ofNat 0, .ofNat 0), (0, .ofNat 0, .ofNat 0)), (2, 2, (1, .ofNat 1, .ofNat 0), (3, .ofNat 1, .ofNat 0), (0, .ofNat 0, .ofNat 0)), (0, 0, (0, .ofNat 0, .ofNat 12), (3, .ofNat 1, .ofNat 0), (0, .ofNat 0, .ofNat 0)), (2, 3, (1, .ofNat 1, .ofNat 0), (0, .ofNat 0, .ofNat 0), (0, .ofNat 0, .ofNat 0))], [(1, [(.ofNat 3, .ofNat 3)]), (2, [(.ofNat 0, .ofNat 0)]), (3, [(.ofNat 1, .ofNat 4)])], [], []),
  (0, [], [.inl (false, (0, .ofNat 0, .negSucc 0))], [(2, 1, (0, .ofNat 0, .ofNat 1), (0, .ofNat 0, .ofNat 0), (0, .ofNat 0, .ofNat 0)), (2, 2, (1, .ofNat 1, .ofNat 0), (3, .ofNat 1, .ofNat 0), (0, .ofNat 0, .ofNat 0)), (0, 0, (0, .ofNat 0, .ofNat 12), (3, .ofNat 1, .ofNat 0), (0, .ofNat 0, .ofNat 0)), (2, 3, (1, .ofNat 1, .ofNat 0), (0, .ofNat 0, .ofNat 0), (0, .ofNat 0, .ofNat 0))], [(1, [(.ofNat 3, .ofNat 3)]), (2, [(.ofNat 5, .ofNat 2147483647)]), (3, [(.ofNat 1, .ofNat 4)])], [], []),
  (0, [], [.inl (false, (0, .ofNat 0, .negSucc 0))], [(2, 1, (0, .ofNat 0, .ofNat 1), (0, .ofNat 0, .ofNat 0), (0, .ofNat 0, .ofNat 0)), (2, 2, (1, .ofNat 1, .ofNat 0), (3, .ofNat 1, .ofNat 0), (0, .ofNat 0, .ofNat 0)), (0, 0, (0, .ofNat 0, .ofNat 12), (3, .ofNat 1, .ofNat 0), (0, .ofNat 0, .ofNat 0)), (2, 3, (1, .ofNat 1, .ofNat 0), (0, .ofNat 0, .ofNat 0), (0, .ofNat 0, .ofNat 0))], [(1, [(.ofNat 2, .ofNat 2)]), (2, [(.negSucc 2147483647, .negSucc 0)]), (3, [(.ofNat 1, .ofNat 4)])], [], []),
  (108, [(0, .inr (.inl [0])), (1, .inl (false, (0, .ofNat 0, .ofNat 2))), (2, .inl (false, (0, .ofNat 0, .ofNat 4))), (3, .inr (.inl [106]))], [.inr (.inl [1]), .inr (.inl [106])], [(2, 1, (0, .ofNat 0, .ofNat 1), (0, .ofNat 0, .ofNat 0), (0, .ofNat 0, .ofNat 0)), (2, 2, (1, .ofNat 1, .ofNat 0), (3, .ofNat 1, .ofNat 0), (0, .ofNat 0, .ofNat 0)), (0, 0, (0, .ofNat 0, .ofNat 12), (3, .ofNat 1, .ofNat 0), (0, .ofNat 0, .ofNat 0)), (2, 3, (1, .ofNat 1, .ofNat 0), (0, .ofNat 0, .ofNat 0), (0, .ofNat 0, .ofNat 0))], [(1, [(.ofNat 2, .ofNat 2)]), (2, [(.ofNat 4, .ofNat 4)]), (3, [(.ofNat 1, .ofNat 4)])], [], []),
  (0, [], [.inl (false, (6, .ofNat 1, .ofNat 0))], [(2, 3, (6, .ofNat 1, .ofNat 0), (0, .ofNat 0, .ofNat 0), (0, .ofNat 0, .ofNat 0)), (0, 106, (0, .ofNat 0, .ofNat 1), (5, .ofNat 1, .ofNat 0), (0, .ofNat 0, .ofNat 0)), (0, 6, (0, .ofNat 0, .ofNat 0), (4, .ofNat 1, .ofNat 0), (0, .ofNat 0, .ofNat 0)), (2, 1, (0, .ofNat 0, .ofNat 1), (0, .ofNat 0, .ofNat 0), (0, .ofNat 0, .ofNat 0)), (2, 2, (1, .ofNat 1, .ofNat 0), (3, .ofNat 1, .ofNat 0), (0, .ofNat 0, .ofNat 0)), (0, 0, (0, .ofNat 0, .ofNat 12), (3, .ofNat 1, .ofNat 0), (0, .ofNat 0, .ofNat 0)), (2, 3, (1, .ofNat 1, .ofNat 0), (0, .ofNat 0, .ofNat 0), (0, .ofNat 0, .ofNat 0))], [(1, [(.ofNat 2, .ofNat 2)]), (2, [(.ofNat 3, .ofNat 3)]), (3, [(.ofNat 1, .ofNat 4)]), (4, [(.ofNat 0, .ofNat 16)]), (5, [(.ofNat 0, .ofNat 16)]), (6, [(.ofNat 0, .ofNat 16)])], [((4, .ofNat 1, .ofNat 0), (5, .negSucc 0, .ofNat 0), (6, .ofNat 1, .ofNat 0))], []),
  (0, [], [.inl (false, (6, .negSucc 0, .ofNat 0))], [(2, 2, (6, .ofNat 1, .ofNat 0), (0, .ofNat 0, .ofNat 0), (0, .ofNat 0, .ofNat 0)), (0, 106, (0, .ofNat 0, .ofNat 1), (5, .ofNat 1, .ofNat 0), (0, .ofNat 0, .ofNat 0)), (0, 6, (0, .ofNat 0, .ofNat 0), (4, .ofNat 1, .ofNat 0), (0, .ofNat 0, .ofNat 0)), (2, 1, (0, .ofNat 0, .ofNat 1), (0, .ofNat 0, .ofNat 0), (0, .ofNat 0, .ofNat 0)), (2, 2, (1, .ofNat 1, .ofNat 0), (3, .ofNat 1, .ofNat 0), (0, .ofNat 0, .ofNat 0)), (0, 0, (0, .ofNat 0, .ofNat 12), (3, .ofNat 1, .ofNat 0), (0, .ofNat 0, .ofNat 0)), (2, 3, (1, .ofNat 1, .ofNat 0), (0, .ofNat 0, .ofNat 0), (0, .ofNat 0, .ofNat 0))], [(1, [(.ofNat 2, .ofNat 2)]), (2, [(.ofNat 3, .ofNat 3)]), (3, [(.ofNat 1, .ofNat 4)]), (4, [(.ofNat 0, .ofNat 16)]), (5, [(.ofNat 0, .ofNat 16)]), (6, [(.negSucc 15, .negSucc 0)])], [((4, .ofNat 1, .ofNat 0), (5, .negSucc 0, .ofNat 0), (6, .ofNat 1, .ofNat 0))], []),
  (0, [], [.inl (false, (6, .ofNat 1, .ofNat 0))], [(2, 3, (6, .ofNat 1, .ofNat 0), (0, .ofNat 0, .ofNat 0), (0, .ofNat 0, .ofNat 0)), (0, 106, (0, .ofNat 0, .ofNat 0), (5, .ofNat 1, .ofNat 0), (0, .ofNat 0, .ofNat 0)), (0, 1, (0, .ofNat 0, .ofNat 0), (4, .ofNat 1, .ofNat 0), (0, .ofNat 0, .ofNat 0)), (2, 1, (0, .ofNat 0, .ofNat 1), (0, .ofNat 0, .ofNat 0), (0, .ofNat 0, .ofNat 0)), (2, 2, (1, .ofNat 1, .ofNat 0), (3, .ofNat 1, .ofNat 0), (0, .ofNat 0, .ofNat 0)), (0, 0, (0, .ofNat 0, .ofNat 12), (3, .ofNat 1, .ofNat 0), (0, .ofNat 0, .ofNat 0)), (2, 3, (1, .ofNat 1, .ofNat 0), (0, .ofNat 0, .ofNat 0), (0, .ofNat 0, .ofNat 0))], [(1, [(.ofNat 2, .ofNat 2)]), (2, [(.ofNat 2, .ofNat 2)]), (3, [(.ofNat 1, .ofNat 4)]), (4, [(.ofNat 0, .ofNat 8)]), (5, [(.ofNat 0, .ofNat 8)]), (6, [(.ofNat 0, .ofNat 8)])], [((4, .ofNat 1, .ofNat 0), (5, .negSucc 0, .ofNat 0), (6, .ofNat 1, .ofNat 0))], []),
  (0, [], [.inl (false, (6, .negSucc 0, .ofNat 0))], [(2, 2, (6, .ofNat 1, .ofNat 0), (0, .ofNat 0, .ofNat 0), (0, .ofNat 0, .ofNat 0)), (0, 106, (0, .ofNat 0, .ofNat 0), (5, .ofNat 1, .ofNat 0), (0, .ofNat 0, .ofNat 0)), (0, 1, (0, .ofNat 0, .ofNat 0), (4, .ofNat 1, .ofNat 0), (0, .ofNat 0, .ofNat 0)), (2, 1, (0, .ofNat 0, .ofNat 1), (0, .ofNat 0, .ofNat 0), (0, .ofNat 0, .ofNat 0)), (2, 2, (1, .ofNat 1, .ofNat 0), (3, .ofNat 1, .ofNat 0), (0, .ofNat 0, .ofNat 0)), (0, 0, (0, .ofNat 0, .ofNat 12), (3, .ofNat 1, .ofNat 0), (0, .ofNat 0, .ofNat 0)), (2, 3, (1, .ofNat 1, .ofNat 0), (0, .ofNat 0, .ofNat 0), (0, .ofNat 0, .ofNat 0))], [(1, [(.ofNat 2, .ofNat 2)]), (2, [(.ofNat 2, .ofNat 2)]), (3, [(.ofNat 1, .ofNat 4)]), (4, [(.ofNat 0, .ofNat 8)]), (5, [(.ofNat 0, .ofNat 8)]), (6, [(.negSucc 7, .negSucc 0)])], [((4, .ofNat 1, .ofNat 0), (5, .negSucc 0, .ofNat 0), (6, .ofNat 1, .ofNat 0))], []),
  (67, [(0, .inr (.inl [0])), (1, .inl (false, (0, .ofNat 0, .ofNat 2))), (2, .inl (false, (0, .ofNat 0, .ofNat 1))), (3, .inr (.inl [106]))], [.inr (.inl [6]), .inr (.inl [106])], [(2, 1, (0, .ofNat 0, .ofNat 1), (0, .ofNat 0, .ofNat 0), (0, .ofNat 0, .ofNat 0)), (2, 2, (1, .ofNat 1, .ofNat 0), (3, .ofNat 1, .ofNat 0), (0, .ofNat 0, .ofNat 0)), (0, 0, (0, .ofNat 0, .ofNat 12), (3, .ofNat 1, .ofNat 0), (0, .ofNat 0, .ofNat 0)), (2, 3, (1, .ofNat 1, .ofNat 0), (0, .ofNat 0, .ofNat 0), (0, .ofNat 0, .ofNat 0))], [(1, [(.ofNat 2, .ofNat 2)]), (2, [(.ofNat 1, .ofNat 1)]), (3, [(.ofNat 1, .ofNat 4)])], [], []),
  (58, [(0, .inr (.inl [0])), (1, .inl (false, (0, .ofNat 0, .ofNat 2))), (2, .inl (false, (0, .ofNat 0, .ofNat 0))), (3, .inr (.inl [106]))], [.inr (.inl [1]), .inr (.inl [106])], [(2, 1, (0, .ofNat 0, .ofNat 1), (0, .ofNat 0, .ofNat 0), (0, .ofNat 0, .ofNat 0)), (2, 2, (1, .ofNat 1, .ofNat 0), (3, .ofNat 1, .ofNat 0), (0, .ofNat 0, .ofNat 0)), (0, 0, (0, .ofNat 0, .ofNat 12), (3, .ofNat 1, .ofNat 0), (0, .ofNat 0, .ofNat 0)), (2, 3, (1, .ofNat 1, .ofNat 0), (0, .ofNat 0, .ofNat 0), (0, .ofNat 0, .ofNat 0))], [(1, [(.ofNat 2, .ofNat 2)]), (2, [(.ofNat 0, .ofNat 0)]), (3, [(.ofNat 1, .ofNat 4)])], [], []),
  (0, [], [.inl (false, (0, .ofNat 0, .negSucc 0))], [(2, 1, (0, .ofNat 0, .ofNat 1), (0, .ofNat 0, .ofNat 0), (0, .ofNat 0, .ofNat 0)), (2, 2, (1, .ofNat 1, .ofNat 0), (3, .ofNat 1, .ofNat 0), (0, .ofNat 0, .ofNat 0)), (0, 0, (0, .ofNat 0, .ofNat 12), (3, .ofNat 1, .ofNat 0), (0, .ofNat 0, .ofNat 0)), (2, 3, (1, .ofNat 1, .ofNat 0), (0, .ofNat 0, .ofNat 0), (0, .ofNat 0, .ofNat 0))], [(1, [(.ofNat 2, .ofNat 2)]), (2, [(.ofNat 5, .ofNat 2147483647)]), (3, [(.ofNat 1, .ofNat 4)])], [], []),
  (0, [], [.inl (false, (0, .ofNat 0, .negSucc 0))], [(2, 1, (0, .ofNat 0, .ofNat 1), (0, .ofNat 0, .ofNat 0), (0, .ofNat 0, .ofNat 0)), (2, 2, (1, .ofNat 1, .ofNat 0), (3, .ofNat 1, .ofNat 0), (0, .ofNat 0, .ofNat 0)), (0, 0, (0, .ofNat 0, .ofNat 12), (3, .ofNat 1, .ofNat 0), (0, .ofNat 0, .ofNat 0)), (2, 3, (1, .ofNat 1, .ofNat 0), (0, .ofNat 0, .ofNat 0), (0, .ofNat 0, .ofNat 0))], [(1, [(.ofNat 1, .ofNat 1)]), (2, [(.negSucc 2147483647, .negSucc 0)]), (3, [(.ofNat 1, .ofNat 4)])], [], []),
  (108, [(0, .inr (.inl [0])), (1, .inl (false, (0, .ofNat 0, .ofNat 1))), (2, .inl (false, (0, .ofNat 0, .ofNat 4))), (3, .inr (.inl [102]))], [.inr (.inl [1]), .inr (.inl [102])], [(2, 1, (0, .ofNat 0, .ofNat 1), (0, .ofNat 0, .ofNat 0), (0, .ofNat 0, .ofNat 0)), (2, 2, (1, .ofNat 1, .ofNat 0), (3, .ofNat 1, .ofNat 0), (0, .ofNat 0, .ofNat 0)), (0, 0, (0, .ofNat 0, .ofNat 12), (3, .ofNat 1, .ofNat 0), (0, .ofNat 0, .ofNat 0)), (2, 3, (1, .ofNat 1, .ofNat 0), (0, .ofNat 0, .ofNat 0), (0, .ofNat 0, .ofNat 0))], [(1, [(.ofNat 1, .ofNat 1)]), (2, [(.ofNat 4, .ofNat 4)]), (3, [(.ofNat 1, .ofNat 4)])], [], []),
  (0, [], [.inl (false, (6, .ofNat 1, .ofNat 0))], [(2, 3, (6, .ofNat 1, .ofNat 0), (0, .ofNat 0, .ofNat 0), (0, .ofNat 0, .ofNat 0)), (0, 102, (0, .ofNat 0, .ofNat 1), (5, .ofNat 1, .ofNat 0), (0, .ofNat 0, .ofNat 0)), (0, 6, (0, .ofNat 0, .ofNat 0), (4, .ofNat 1, .ofNat 0), (0, .ofNat 0, .ofNat 0)), (2, 1, (0, .ofNat 0, .ofNat 1), (0, .ofNat 0, .ofNat 0), (0, .ofNat 0, .ofNat 0)), (2, 2, (1, .ofNat 1, .ofNat 0), (3, .ofNat 1, .ofNat 0), (0, .ofNat 0, .ofNat 0)), (0, 0, (0, .ofNat 0, .ofNat 12), (3, .ofNat 1, .ofNat 0), (0, .ofNat 0, .ofNat 0)), (2, 3, (1, .ofNat 1, .ofNat 0), (0, .ofNat 0, .ofNat 0), (0, .ofNat 0, .ofNat 0))], [(1, [(.ofNat 1, .ofNat 1)]), (2, [(.ofNat 3, .ofNat 3)]), (3, [(.ofNat 1, .ofNat 4)]), (4, [(.ofNat 0, .ofNat 16)]), (5, [(.ofNat 0, .ofNat 16)]), (6, [(.ofNat 0, .ofNat 16)])], [((4, .ofNat 1, .ofNat 0), (5, .negSucc 0, .ofNat 0), (6, .ofNat 1, .ofNat 0))], []),
  (0, [], [.inl (false, (6, .negSucc 0, .ofNat 0))], [(2, 2, (6, .ofNat 1, .ofNat 0), (0, .ofNat 0, .ofNat 0), (0, .ofNat 0, .ofNat 0)), (0, 102, (0, .ofNat 0, .ofNat 1), (5, .ofNat 1, .ofNat 0), (0, .ofNat 0, .ofNat 0)), (0, 6, (0, .ofNat 0, .ofNat 0), (4, .ofNat 1, .ofNat 0), (0, .ofNat 0, .ofNat 0)), (2, 1, (0, .ofNat 0, .ofNat 1), (0, .ofNat 0, .ofNat 0), (0, .ofNat 0, .ofNat 0)), (2, 2, (1, .ofNat 1, .ofNat 0), (3, .ofNat 1, .ofNat 0), (0, .ofNat 0, .ofNat 0)), (0, 0, (0, .ofNat 0, .ofNat 12), (3, .ofNat 1, .ofNat 0), (0, .ofNat 0, .ofNat 0)), (2, 3, (1, .ofNat 1, .ofNat 0), (0, .ofNat 0, .ofNat 0), (0, .ofNat 0, .ofNat 0))], [(1, [(.ofNat 1, .ofNat 1)]), (2, [(.ofNat 3, .ofNat 3)]), (3, [(.ofNat 1, .ofNat 4)]), (4, [(.ofNat 0, .ofNat 16)]), (5, [(.ofNat 0, .ofNat 16)]), (6, [(.negSucc 15, .negSucc 0)])], [((4, .ofNat 1, .ofNat 0), (5, .negSucc 0, .ofNat 0), (6, .ofNat 1, .ofNat 0))], []),
  (0, [], [.inl (false, (6, .ofNat 1, .ofNat 0))], [(2, 3, (6, .ofNat 1, .ofNat 0), (0, .ofNat 0, .ofNat 0), (0, .ofNat 0, .ofNat 0)), (0, 102, (0, .ofNat 0, .ofNat 0), (5, .ofNat 1, .ofNat 0), (0, .ofNat 0, .ofNat 0)), (0, 1, (0, .ofNat 0, .ofNat 0), (4, .ofNat 1, .ofNat 0), (0, .ofNat 0, .ofNat 0)), (2, 1, (0, .ofNat 0, .ofNat 1), (0, .ofNat 0, .ofNat 0), (0, .ofNat 0, .ofNat 0)), (2, 2, (1, .ofNat 1, .ofNat 0), (3, .ofNat 1, .ofNat 0), (0, .ofNat 0, .ofNat 0)), (0, 0, (0, .ofNat 0, .ofNat 12), (3, .ofNat 1, .ofNat 0), (0, .ofNat 0, .ofNat 0)), (2, 3, (1, .ofNat 1, .ofNat 0), (0, .ofNat 0, .ofNat 0), (0, .ofNat 0, .ofNat 0))], [(1, [(.ofNat 1, .ofNat 1)]), (2, [(.ofNat 2, .ofNat 2)]), (3, [(.ofNat 1, .ofNat 4)]), (4, [(.ofNat 0, .ofNat 8)]), (5, [(.ofNat 0, .ofNat 8)]), (6, [(.ofNat 0, .ofNat 8)])], [((4, .ofNat 1, .ofNat 0), (5, .negSucc 0, .ofNat 0), (6, .ofNat 1, .ofNat 0))], []),
  (0, [], [.inl (false, (6, .negSucc 0, .ofNat 0))], [(2, 2, (6, .ofNat 1, .ofNat 0), (0, .ofNat 0, .ofNat 0), (0, .ofNat 0, .ofNat 0)), (0, 102, (0, .ofNat 0, .ofNat 0), (5, .ofNat 1, .ofNat 0), (0, .ofNat 0, .ofNat 0)), (0, 1, (0, .ofNat 0, .ofNat 0), (4, .ofNat 1, .ofNat 0), (0, .ofNat 0, .ofNat 0)), (2, 1, (0, .ofNat 0, .ofNat 1), (0, .ofNat 0, .ofNat 0), (0, .ofNat 0, .ofNat 0)), (2, 2, (1, .ofNat 1, .ofNat 0), (3, .ofNat 1, .ofNat 0), (0, .ofNat 0, .ofNat 0)), (0, 0, (0, .ofNat 0, .ofNat 12), (3, .ofNat 1, .ofNat 0), (0, .ofNat 0, .ofNat 0)), (2, 3, (1, .ofNat 1, .ofNat 0), (0, .ofNat 0, .ofNat 0), (0, .ofNat 0, .ofNat 0))], [(1, [(.ofNat 1, .ofNat 1)]), (2, [(.ofNat 2, .ofNat 2)]), (3, [(.ofNat 1, .ofNat 4)]), (4, [(.ofNat 0, .ofNat 8)]), (5, [(.ofNat 0, .ofNat 8)]), (6, [(.negSucc 7, .negSucc 0)])], [((4, .ofNat 1, .ofNat 0), (5, .negSucc 0, .ofNat 0), (6, .ofNat 1, .ofNat 0))], []),
  (67, [(0, .inr (.inl [0])), (1, .inl (false, (0, .ofNat 0, .ofNat 1))), (2, .inl (false, (0, .ofNat 0, .ofNat 1))), (3, .inr (.inl [102]))], [.inr (.inl [6]), .inr (.inl [102])], [(2, 1, (0, .ofNat 0, .ofNat 1), (0, .ofNat 0, .ofNat 0), (0, .ofNat 0, .ofNat 0)), (2, 2, (1, .ofNat 1, .ofNat 0), (3, .ofNat 1, .ofNat 0), (0, .ofNat 0, .ofNat 0)), (0, 0, (0, .ofNat 0, .ofNat 12), (3, .ofNat 1, .ofNat 0), (0, .ofNat 0, .ofNat 0)), (2, 3, (1, .ofNat 1, .ofNat 0), (0, .ofNat 0, .ofNat 0), (0, .ofNat 0, .ofNat 0))], [(1, [(.ofNat 1, .ofNat 1)]), (2, [(.ofNat 1, .ofNat 1)]), (3, [(.ofNat 1, .ofNat 4)])], [], []),
  (58, [(0, .inr (.inl [0])), (1, .inl (false, (0, .ofNat 0, .ofNat 1))), (2, .inl (false, (0, .ofNat 0, .ofNat 0))), (3, .inr (.inl [102]))], [.inr (.inl [1]), .inr (.inl [102])], [(2, 1, (0, .ofNat 0, .ofNat 1), (0, .ofNat 0, .ofNat 0), (0, .ofNat 0, .ofNat 0)), (2, 2, (1, .ofNat 1, .ofNat 0), (3, .ofNat 1, .ofNat 0), (0, .ofNat 0, .ofNat 0)), (0, 0, (0, .ofNat 0, .ofNat 12), (3, .ofNat 1, .ofNat 0), (0, .ofNat 0, .ofNat 0)), (2, 3, (1, .ofNat 1, .ofNat 0), (0, .ofNat 0, .ofNat 0), (0, .ofNat 0, .ofNat 0))], [(1, [(.ofNat 1, .ofNat 1)]), (2, [(.ofNat 0, .ofNat 0)]), (3, [(.ofNat 1, .ofNat 4)])], [], []),
  (0, [], [.inl (false, (0, .ofNat 0, .negSucc 0))], [(2, 1, (0, .ofNat 0, .ofNat 1), (0, .ofNat 0, .ofNat 0), (0, .ofNat 0, .ofNat 0)), (2, 2, (1, .ofNat 1, .ofNat 0), (3, .ofNat 1, .ofNat 0), (0, .ofNat 0, .ofNat 0)), (0, 0, (0, .ofNat 0, .ofNat 12), (3, .ofNat 1, .ofNat 0), (0, .ofNat 0, .ofNat 0)), (2, 3, (1, .ofNat 1, .ofNat 0), (0, .ofNat 0, .ofNat 0), (0, .ofNat 0, .ofNat 0))], [(1, [(.ofNat 1, .ofNat 1)]), (2, [(.ofNat 5, .ofNat 2147483647)]), (3, [(.ofNat 1, .ofNat 4)])], [], []),
  (0, [], [.inl (false, (0, .ofNat 0, .negSucc 0))], [(2, 1, (0, .ofNat 0, .ofNat 1), (0, .ofNat 0, .ofNat 0), (0, .ofNat 0, .ofNat 0)), (2, 2, (1, .ofNat 1, .ofNat 0), (3, .ofNat 1, .ofNat 0), (0, .ofNat 0, .ofNat 0)), (0, 0, (0, .ofNat 0, .ofNat 12), (3, .ofNat 1, .ofNat 0), (0, .ofNat 0, .ofNat 0)), (2, 3, (1, .ofNat 1, .ofNat 0), (0, .ofNat 0, .ofNat 0), (0, .ofNat 0, .ofNat 0))], [(1, [(.ofNat 0, .ofNat 0)]), (2, [(.negSucc 2147483647, .negSucc 0)]), (3, [(.ofNat 1, .ofNat 4)])], [], []),
  (108, [(0, .inr (.inl [0])), (1, .inl (false, (0, .ofNat 0, .ofNat 0))), (2, .inl (false, (0, .ofNat 0, .ofNat 4))), (3, .inr (.inl [98]))], [.inr (.inl [1]), .inr (.inl [98])], [(2, 1, (0, .ofNat 0, .ofNat 1), (0, .ofNat 0, .ofNat 0), (0, .ofNat 0, .ofNat 0)), (2, 2, (1, .ofNat 1, .ofNat 0), (3, .ofNat 1, .ofNat 0), (0, .ofNat 0, .ofNat 0)), (0, 0, (0, .ofNat 0, .ofNat 12), (3, .ofNat 1, .ofNat 0), (0, .ofNat 0, .ofNat 0)), (2, 3, (1, .ofNat 1, .ofNat 0), (0, .ofNat 0, .ofNat 0), (0, .ofNat 0, .ofNat 0))], [(1, [(.ofNat 0, .ofNat 0)]), (2, [(.ofNat 4, .ofNat 4)]), (3, [(.ofNat 1, .ofNat 4)])], [], []),
  (0, [], [.inl (false, (6, .ofNat 1, .ofNat 0))], [(2, 3, (6, .ofNat 1, .ofNat 0), (0, .ofNat 0, .ofNat 0), (0, .ofNat 0, .ofNat 0)), (0, 98, (0, .ofNat 0, .ofNat 1), (5, .ofNat 1, .ofNat 0), (0, .ofNat 0, .ofNat 0)), (0, 6, (0, .ofNat 0, .ofNat 0), (4, .ofNat 1, .ofNat 0), (0, .ofNat 0, .ofNat 0)), (2, 1, (0, .ofNat 0, .ofNat 1), (0, .ofNat 0, .ofNat 0), (0, .ofNat 0, .ofNat 0)), (2, 2, (1, .ofNat 1, .ofNat 0), (3, .ofNat 1, .ofNat 0), (0, .ofNat 0, .ofNat 0)), (0, 0, (0, .ofNat 0, .ofNat 12), (3, .ofNat 1, .ofNat 0), (0, .ofNat 0, .ofNat 0)), (2, 3, (1, .ofNat 1, .ofNat 0), (0, .ofNat 0, .ofNat 0), (0, .ofNat 0, .ofNat 0))], [(1, [(.ofNat 0, .ofNat 0)]), (2, [(.ofNat 3, .ofNat 3)]), (3, [(.ofNat 1, .ofNat 4)]), (4, [(.ofNat 0, .ofNat 16)]), (5, [(.ofNat 0, .ofNat 16)]), (6, [(.ofNat 0, .ofNat 16)])], [((4, .ofNat 1, .ofNat 0), (5, .negSucc 0, .ofNat 0), (6, .ofNat 1, .ofNat 0))], []),
  (0, [], [.inl (false, (6, .negSucc 0, .ofNat 0))], [(2, 2, (6, .ofNat 1, .ofNat 0), (0, .ofNat 0, .ofNat 0), (0, .ofNat 0, .ofNat 0)), (0, 98, (0, .ofNat 0, .ofNat 1), (5, .ofNat 1, .ofNat 0), (0, .ofNat 0, .ofNat 0)), (0, 6, (0, .ofNat 0, .ofNat 0), (4, .ofNat 1, .ofNat 0), (0, .ofNat 0, .ofNat 0)), (2, 1, (0, .ofNat 0, .ofNat 1), (0, .ofNat 0, .ofNat 0), (0, .ofNat 0, .ofNat 0)), (2, 2, (1, .ofNat 1, .ofNat 0), (3, .ofNat 1, .ofNat 0), (0, .ofNat 0, .ofNat 0)), (0, 0, (0, .ofNat 0, .ofNat 12), (3, .ofNat 1, .ofNat 0), (0, .ofNat 0, .ofNat 0)), (2, 3, (1, .ofNat 1, .ofNat 0), (0, .ofNat 0, .ofNat 0), (0, .ofNat 0, .ofNat 0))], [(1, [(.ofNat 0, .ofNat 0)]), (2, [(.ofNat 3, .ofNat 3)]), (3, [(.ofNat 1, .ofNat 4)]), (4, [(.ofNat 0, .ofNat 16)]), (5, [(.ofNat 0, .ofNat 16)]), (6, [(.negSucc 15, .negSucc 0)])], [((4, .ofNat 1, .ofNat 0), (5, .negSucc 0, .ofNat 0), (6, .ofNat 1, .ofNat 0))], []),
  (0, [], [.inl (false, (6, .ofNat 1, .ofNat 0))], [(2, 3, (6, .ofNat 1, .ofNat 0), (0, .ofNat 0, .ofNat 0), (0, .ofNat 0, .ofNat 0)), (0, 98, (0, .ofNat 0, .ofNat 0), (5, .ofNat 1, .ofNat 0), (0, .ofNat 0, .ofNat 0)), (0, 1, (0, .ofNat 0, .ofNat 0), (4, .ofNat 1, .ofNat 0), (0, .ofNat 0, .ofNat 0)), (2, 1, (0, .ofNat 0, .ofNat 1), (0, .ofNat 0, .ofNat 0), (0, .ofNat 0, .ofNat 0)), (2, 2, (1, .ofNat 1, .ofNat 0), (3, .ofNat 1, .ofNat 0), (0, .ofNat 0, .ofNat 0)), (0, 0, (0, .ofNat 0, .ofNat 12), (3, .ofNat 1, .ofNat 0), (0, .ofNat 0, .ofNat 0)), (2, 3, (1, .ofNat 1, .ofNat 0), (0, .ofNat 0, .ofNat 0), (0, .ofNat 0, .ofNat 0))], [(1, [(.ofNat 0, .ofNat 0)]), (2, [(.ofNat 2, .ofNat 2)]), (3, [(.ofNat 1, .ofNat 4)]), (4, [(.ofNat 0, .ofNat 8)]), (5, [(.ofNat 0, .ofNat 8)]), (6, [(.ofNat 0, .ofNat 8)])], [((4, .ofNat 1, .ofNat 0), (5, .negSucc 0, .ofNat 0), (6, .ofNat 1, .ofNat 0))], []),
  (0, [], [.inl (false, (6, .negSucc 0, .ofNat 0))], [(2, 2, (6, .ofNat 1, .ofNat 0), (0, .ofNat 0, .ofNat 0), (0, .ofNat 0, .ofNat 0)), (0, 98, (0, .ofNat 0, .ofNat 0), (5, .ofNat 1, .ofNat 0), (0, .ofNat 0, .ofNat 0)), (0, 1, (0, .ofNat 0, .ofNat 0), (4, .ofNat 1, .ofNat 0), (0, .ofNat 0, .ofNat 0)), (2, 1, (0, .ofNat 0, .ofNat 1), (0, .ofNat 0, .ofNat 0), (0, .ofNat 0, .ofNat 0)), (2, 2, (1, .ofNat 1, .ofNat 0), (3, .ofNat 1, .ofNat 0), (0, .ofNat 0, .ofNat 0)), (0, 0, (0, .ofNat 0, .ofNat 12), (3, .ofNat 1, .ofNat 0), (0, .ofNat 0, .ofNat 0)), (2, 3, (1, .ofNat 1, .ofNat 0), (0, .ofNat 0, .ofNat 0), (0, .ofNat 0, .ofNat 0))], [(1, [(.ofNat 0, .ofNat 0)]), (2, [(.ofNat 2, .ofNat 2)]), (3, [(.ofNat 1, .ofNat 4)]), (4, [(.ofNat 0, .ofNat 8)]), (5, [(.ofNat 0, .ofNat 8)]), (6, [(.negSucc 7, .negSucc 0)])], [((4, .ofNat 1, .ofNat 0), (5, .negSucc 0, .ofNat 0), (6, .ofNat 1, .ofNat 0))], []),
  (67, [(0, .inr (.inl [0])), (1, .inl (false, (0, .ofNat 0, .ofNat 0))), (2, .inl (false, (0, .ofNat 0, .ofNat 1))), (3, .inr (.inl [98]))], [.inr (.inl [6]), .inr (.inl [98])], [(2, 1, (0, .ofNat 0, .ofNat 1), (0, .ofNat 0, .ofNat 0), (0, .ofNat 0, .ofNat 0)), (2, 2, (1, .ofNat 1, .ofNat 0), (3, .ofNat 1, .ofNat 0), (0, .ofNat 0, .ofNat 0)), (0, 0, (0, .ofNat 0, .ofNat 12), (3, .ofNat 1, .ofNat 0), (0, .ofNat 0, .ofNat 0)), (2, 3, (1, .ofNat 1, .ofNat 0), (0, .ofNat 0, .ofNat 0), (0, .ofNat 0, .ofNat 0))], [(1, [(.ofNat 0, .ofNat 0)]), (2, [(.ofNat 1, .ofNat 1)]), (3, [(.ofNat 1, .ofNat 4)])], [], []),
  (58, [(0, .inr (.inl [0])), (1, .inl (false, (0, .ofNat 0, .ofNat 0))), (2, .inl (false, (0, .ofNat 0, .ofNat 0))), (3, .inr (.inl [98]))], [.inr (.inl [1]), .inr (.inl [98])], [(2, 1, (0, .ofNat 0, .ofNat 1), (0, .ofNat 0, .ofNat 0), (0, .ofNat 0, .ofNat 0)), (2, 2, (1, .ofNat 1, .ofNat 0), (3, .ofNat 1, .ofNat 0), (0, .ofNat 0, .ofNat 0)), (0, 0, (0, .ofNat 0, .ofNat 12), (3, .ofNat 1, .ofNat 0), (0, .ofNat 0, .ofNat 0)), (2, 3, (1, .ofNat 1, .ofNat 0), (0, .ofNat 0, .ofNat 0), (0, .ofNat 0, .ofNat 0))], [(1, [(.ofNat 0, .ofNat 0)]), (2, [(.ofNat 0, .ofNat 0)]), (3, [(.ofNat 1, .ofNat 4)])], [], []),
  (0, [], [.inl (false, (0, .ofNat 0, .negSucc 0))], [(2, 1, (0, .ofNat 0, .ofNat 1), (0, .ofNat 0, .ofNat 0), (0, .ofNat 0, .ofNat 0)), (2, 2, (1, .ofNat 1, .ofNat 0), (3, .ofNat 1, .ofNat 0), (0, .ofNat 0, .ofNat 0)), (0, 0, (0, .ofNat 0, .ofNat 12), (3, .ofNat 1, .ofNat 0), (0, .ofNat 0, .ofNat 0)), (2, 3, (1, .ofNat 1, .ofNat 0), (0, .ofNat 0, .ofNat 0), (0, .ofNat 0, .ofNat 0))], [(1, [(.ofNat 0, .ofNat 0)]), (2, [(.ofNat 5, .ofNat 2147483647)]), (3, [(.ofNat 1, .ofNat 4)])], [], [])]
set_option maxRecDepth 1000000 in
theorem sg_cm_x0_g : sg_go [(8847370, .inr 1)] [57, 66, 107] 3000 135 0 1 3 [(0, [(.ofNat 0, .ofNat 0)]), (1, [(.negSucc 2147483647, .ofNat 2147483647)]), (2, [(.negSucc 2147483647, .ofNat 2147483647)])] [] [] [] [(0, .inr (.inl [0])), (1, .inl (false, (1, .ofNat 1, .ofNat 0))), (2, .inl (false, (2, .ofNat 1, .ofNat 0)))] [] [] sg_cm_x0_Z = true := by decide +kernel
set_option maxRecDepth 100000 in
theorem sg_cm_x0 {Q : Option Value × am_S → Prop} {d : Nat} {S : am_S} {L : am_L} {x1 x2 : Int} (hd : 1 ≤ d) (hP : ax_P0 none S) (l0 : lc L 0 0) (l1 : li L 1 x1) (l2 : li L 2 x2) (b1 : ((-2147483648) ≤ x1 ∧ x1 ≤ 2147483647)) (b2 : ((-2147483648) ≤ x2 ∧ x2 ≤ 2147483647))
    (k0 : ∀ (i1 : Int32), x1 < 0 → ((-2147483648) ≤ x1 ∧ x1 ≤ (-1)) → i1.toInt = (-1) → Q (some (.int i1), S))
    (k1 : ∀ (x3 : Int) (i1 : Int32), 0 ≤ x1 → rd S 0 12 = x3 → x3 ≤ x1 → (0 ≤ x1 ∧ x1 ≤ 2147483647) → (0 ≤ x3 ∧ x3 ≤ 4) → i1.toInt = (-1) → Q (some (.int i1), S))
    (k2 : ∀ (x3 : Int) (i1 : Int32), 0 ≤ x1 → rd S 0 12 = x3 → x1 < x3 → (3 ≤ x1 ∧ x1 ≤ 3) → ((-2147483648) ≤ x2 ∧ x2 ≤ (-1)) → (1 ≤ x3 ∧ x3 ≤ 4) → i1.toInt = (-1) → Q (some (.int i1), S))
    (k3 : ∀ (x3 : Int) (L' : am_L), 0 ≤ x1 → rd S 0 12 = x3 → x1 < x3 → (3 ≤ x1 ∧ x1 ≤ 3) → (4 ≤ x2 ∧ x2 ≤ 4) → (1 ≤ x3 ∧ x3 ≤ 4) → lc L' 0 0 → li L' 1 3 → li L' 2 4 → lc L' 3 110 → am_V none d 135 107 L' ((.ref 1) :: (.ref 110) :: []) S Q)
    (k4 : ∀ (x3 x4 x5 x6 : Int) (i1 : Int32), 0 ≤ x1 → rd S 0 12 = x3 → x1 < x3 → rd S 6 0 = x4 → rd S 110 1 = x5 → 0 ≤ x6 → (3 ≤ x1 ∧ x1 ≤ 3) → (3 ≤ x2 ∧ x2 ≤ 3) → (1 ≤ x3 ∧ x3 ≤ 4) → (0 ≤ x4 ∧ x4 ≤ 16) → (0 ≤ x5 ∧ x5 ≤ 16) → (0 ≤ x6 ∧ x6 ≤ 16) → x4 + ((-1) * x5 + 0) = x6 → i1.toInt = x6 → Q (some (.int i1), S))
    (k5 : ∀ (x3 x4 x5 x6 : Int) (i1 : Int32), 0 ≤ x1 → rd S 0 12 = x3 → x1 < x3 → rd S 6 0 = x4 → rd S 110 1 = x5 → x6 < 0 → (3 ≤ x1 ∧ x1 ≤ 3) → (3 ≤ x2 ∧ x2 ≤ 3) → (1 ≤ x3 ∧ x3 ≤ 4) → (0 ≤ x4 ∧ x4 ≤ 16) → (0 ≤ x5 ∧ x5 ≤ 16) → ((-16) ≤ x6 ∧ x6 ≤ (-1)) → x4 + ((-1) * x5 + 0) = x6 → i1.toInt = (-1) * x6 + 0 → Q (some (.int i1), S))
    (k6 : ∀ (x3 x4 x5 x6 : Int) (i1 : Int32), 0 ≤ x1 → rd S 0 12 = x3 → x1 < x3 → rd S 1 0 = x4 → rd S 110 0 = x5 → 0 ≤ x6 → (3 ≤ x1 ∧ x1 ≤ 3) → (2 ≤ x2 ∧ x2 ≤ 2) → (1 ≤ x3 ∧ x3 ≤ 4) → (0 ≤ x4 ∧ x4 ≤ 8) → (0 ≤ x5 ∧ x5 ≤ 8) → (0 ≤ x6 ∧ x6 ≤ 8) → x4 + ((-1) * x5 + 0) = x6 → i1.toInt = x6 → Q (some (.int i1), S))
    (k7 : ∀ (x3 x4 x5 x6 : Int) (i1 : Int32), 0 ≤ x1 → rd S 0 12 = x3 → x1 < x3 → rd S 1 0 = x4 → rd S 110 0 = x5 → x6 < 0 → (3 ≤ x1 ∧ x1 ≤ 3) → (2 ≤ x2 ∧ x2 ≤ 2) → (1 ≤ x3 ∧ x3 ≤ 4) → (0 ≤ x4 ∧ x4 ≤ 8) → (0 ≤ x5 ∧ x5 ≤ 8) → ((-8) ≤ x6 ∧ x6 ≤ (-1)) → x4 + ((-1) * x5 + 0) = x6 → i1.toInt = (-1) * x6 + 0 → Q (some (.int i1), S))
    (k8 : ∀ (x3 : Int) (L' : am_L), 0 ≤ x1 → rd S 0 12 = x3 → x1 < x3 → (3 ≤ x1 ∧ x1 ≤ 3) → (1 ≤ x2 ∧ x2 ≤ 1) → (1 ≤ x3 ∧ x3 ≤ 4) → lc L' 0 0 → li L' 1 3 → li L' 2 1 → lc L' 3 110 → am_V none d 135 66 L' ((.ref 6) :: (.ref 110) :: []) S Q)
    (k9 : ∀ (x3 : Int) (L' : am_L), 0 ≤ x1 → rd S 0 12 = x3 → x1 < x3 → (3 ≤ x1 ∧ x1 ≤ 3) → (0 ≤ x2 ∧ x2 ≤ 0) → (1 ≤ x3 ∧ x3 ≤ 4) → lc L' 0 0 → li L' 1 3 → li L' 2 0 → lc L' 3 110 → am_V none d 135 57 L' ((.ref 1) :: (.ref 110) :: []) S Q)
    (k10 : ∀ (x3 : Int) (i1 : Int32), 0 ≤ x1 → rd S 0 12 = x3 → x1 < x3 → (3 ≤ x1 ∧ x1 ≤ 3) → (5 ≤ x2 ∧ x2 ≤ 2147483647) → (1 ≤ x3 ∧ x3 ≤ 4) → i1.toInt = (-1) → Q (some (.int i1), S))
    (k11 : ∀ (x3 : Int) (i1 : Int32), 0 ≤ x1 → rd S 0 12 = x3 → x1 < x3 → (2 ≤ x1 ∧ x1 ≤ 2) → ((-2147483648) ≤ x2 ∧ x2 ≤ (-1)) → (1 ≤ x3 ∧ x3 ≤ 4) → i1.toInt = (-1) → Q (some (.int i1), S))
    (k12 : ∀ (x3 : Int) (L' : am_L), 0 ≤ x1 → rd S 0 12 = x3 → x1 < x3 → (2 ≤ x1 ∧ x1 ≤ 2) → (4 ≤ x2 ∧ x2 ≤ 4) → (1 ≤ x3 ∧ x3 ≤ 4) → lc L' 0 0 → li L' 1 2 → li L' 2 4 → lc L' 3 106 → am_V none d 135 107 L' ((.ref 1) :: (.ref 106) :: []) S Q)
    (k13 : ∀ (x3 x4 x5 x6 : Int) (i1 : Int32), 0 ≤ x1 → rd S 0 12 = x3 → x1 < x3 → rd S 6 0 = x4 → rd S 106 1 = x5 → 0 ≤ x6 → (2 ≤ x1 ∧ x1 ≤ 2) → (3 ≤ x2 ∧ x2 ≤ 3) → (1 ≤ x3 ∧ x3 ≤ 4) → (0 ≤ x4 ∧ x4 ≤ 16) → (0 ≤ x5 ∧ x5 ≤ 16) → (0 ≤ x6 ∧ x6 ≤ 16) → x4 + ((-1) * x5 + 0) = x6 → i1.toInt = x6 → Q (some (.int i1), S))
    (k14 : ∀ (x3 x4 x5 x6 : Int) (i1 : Int32), 0 ≤ x1 → rd S 0 12 = x3 → x1 < x3 → rd S 6 0 = x4 → rd S 106 1 = x5 → x6 < 0 → (2 ≤ x1 ∧ x1 ≤ 2) → (3 ≤ x2 ∧ x2 ≤ 3) → (1 ≤ x3 ∧ x3 ≤ 4) → (0 ≤ x4 ∧ x4 ≤ 16) → (0 ≤ x5 ∧ x5 ≤ 16) → ((-16) ≤ x6 ∧ x6 ≤ (-1)) → x4 + ((-1) * x5 + 0) = x6 → i1.toInt = (-1) * x6 + 0 → Q (some (.int i1), S))
    (k15 : ∀ (x3 x4 x5 x6 : Int) (i1 : Int32), 0 ≤ x1 → rd S 0 12 = x3 → x1 < x3 → rd S 1 0 = x4 → rd S 106 0 = x5 → 0 ≤ x6 → (2 ≤ x1 ∧ x1 ≤ 2) → (2 ≤ x2 ∧ x2 ≤ 2) → (1 ≤ x3 ∧ x3 ≤ 4) → (0 ≤ x4 ∧ x4 ≤ 8) → (0 ≤ x5 ∧ x5 ≤ 8) → (0 ≤ x6 ∧ x6 ≤ 8) → x4 + ((-1) * x5 + 0) = x6 → i1.toInt = x6 → Q (some (.int i1), S))
    (k16 : ∀ (x3 x4 x5 x6 : Int) (i1 : Int32), 0 ≤ x1 → rd S 0 12 = x3 → x1 < x3 → rd S 1 0 = x4 → rd S 106 0 = x5 → x6 < 0 → (2 ≤ x1 ∧ x1 ≤ 2) → (2 ≤ x2 ∧ x2 ≤ 2) → (1 ≤ x3 ∧ x3 ≤ 4) → (0 ≤ x4 ∧ x4 ≤ 8) → (0 ≤ x5 ∧ x5 ≤ 8) → ((-8) ≤ x6 ∧ x6 ≤ (-1)) → x4 + ((-1) * x5 + 0) = x6 → i1.toInt = (-1) * x6 + 0 → Q (some (.int i1), S))
    (k17 : ∀ (x3 : Int) (L' : am_L), 0 ≤ x1 → rd S 0 12 = x3 → x1 < x3 → (2 ≤ x1 ∧ x1 ≤ 2) → (1 ≤ x2 ∧ x2 ≤ 1) → (1 ≤ x3 ∧ x3 ≤ 4) → lc L' 0 0 → li L' 1 2 → li L' 2 1 → lc L' 3 106 → am_V none d 135 66 L' ((.ref 6) :: (.ref 106) :: []) S Q)
    (k18 : ∀ (x3 : Int) (L' : am_L), 0 ≤ x1 → rd S 0 12 = x3 → x1 < x3 → (2 ≤ x1 ∧ x1 ≤ 2) → (0 ≤ x2 ∧ x2 ≤ 0) → (1 ≤ x3 ∧ x3 ≤ 4) → lc L' 0 0 → li L' 1 2 → li L' 2 0 → lc L' 3 106 → am_V none d 135 57 L' ((.ref 1) :: (.ref 106) :: []) S Q)
    (k19 : ∀ (x3 : Int) (i1 : Int32), 0 ≤ x1 → rd S 0 12 = x3 → x1 < x3 → (2 ≤ x1 ∧ x1 ≤ 2) → (5 ≤ x2 ∧ x2 ≤ 2147483647) → (1 ≤ x3 ∧ x3 ≤ 4) → i1.toInt = (-1) → Q (some (.int i1), S))
    (k20 : ∀ (x3 : Int) (i1 : Int32), 0 ≤ x1 → rd S 0 12 = x3 → x1 < x3 → (1 ≤ x1 ∧ x1 ≤ 1) → ((-2147483648) ≤ x2 ∧ x2 ≤ (-1)) → (1 ≤ x3 ∧ x3 ≤ 4) → i1.toInt = (-1) → Q (some (.int i1), S))
    (k21 : ∀ (x3 : Int) (L' : am_L), 0 ≤ x1 → rd S 0 12 = x3 → x1 < x3 → (1 ≤ x1 ∧ x1 ≤ 1) → (4 ≤ x2 ∧ x2 ≤ 4) → (1 ≤ x3 ∧ x3 ≤ 4) → lc L' 0 0 → li L' 1 1 → li L' 2 4 → lc L' 3 102 → am_V none d 135 107 L' ((.ref 1) :: (.ref 102) :: []) S Q)
    (k22 : ∀ (x3 x4 x5 x6 : Int) (i1 : Int32), 0 ≤ x1 → rd S 0 12 = x3 → x1 < x3 → rd S 6 0 = x4 → rd S 102 1 = x5 → 0 ≤ x6 → (1 ≤ x1 ∧ x1 ≤ 1) → (3 ≤ x2 ∧ x2 ≤ 3) → (1 ≤ x3 ∧ x3 ≤ 4) → (0 ≤ x4 ∧ x4 ≤ 16) → (0 ≤ x5 ∧ x5 ≤ 16) → (0 ≤ x6 ∧ x6 ≤ 16) → x4 + ((-1) * x5 + 0) = x6 → i1.toInt = x6 → Q (some (.int i1), S))
    (k23 : ∀ (x3 x4 x5 x6 : Int) (i1 : Int32), 0 ≤ x1 → rd S 0 12 = x3 → x1 < x3 → rd S 6 0 = x4 → rd S 102 1 = x5 → x6 < 0 → (1 ≤ x1 ∧ x1 ≤ 1) → (3 ≤ x2 ∧ x2 ≤ 3) → (1 ≤ x3 ∧ x3 ≤ 4) → (0 ≤ x4 ∧ x4 ≤ 16) → (0 ≤ x5 ∧ x5 ≤ 16) → ((-16) ≤ x6 ∧ x6 ≤ (-1)) → x4 + ((-1) * x5 + 0) = x6 → i1.toInt = (-1) * x6 + 0 → Q (some (.int i1), S))
    (k24 : ∀ (x3 x4 x5 x6 : Int) (i1 : Int32), 0 ≤ x1 → rd S 0 12 = x3 → x1 < x3 → rd S 1 0 = x4 → rd S 102 0 = x5 → 0 ≤ x6 → (1 ≤ x1 ∧ x1 ≤ 1) → (2 ≤ x2 ∧ x2 ≤ 2) → (1 ≤ x3 ∧ x3 ≤ 4) → (0 ≤ x4 ∧ x4 ≤ 8) → (0 ≤ x5 ∧ x5 ≤ 8) → (0 ≤ x6 ∧ x6 ≤ 8) → x4 + ((-1) * x5 + 0) = x6 → i1.toInt = x6 → Q (some (.int i1), S))
    (k25 : ∀ (x3 x4 x5 x6 : Int) (i1 : Int32), 0 ≤ x1 → rd S 0 12 = x3 → x1 < x3 → rd S 1 0 = x4 → rd S 102 0 = x5 → x6 < 0 → (1 ≤ x1 ∧ x1 ≤ 1) → (2 ≤ x2 ∧ x2 ≤ 2) → (1 ≤ x3 ∧ x3 ≤ 4) → (0 ≤ x4 ∧ x4 ≤ 8) → (0 ≤ x5 ∧ x5 ≤ 8) → ((-8) ≤ x6 ∧ x6 ≤ (-1)) → x4 + ((-1) * x5 + 0) = x6 → i1.toInt = (-1) * x6 + 0 → Q (some (.int i1), S))
    (k26 : ∀ (x3 : Int) (L' : am_L), 0 ≤ x1 → rd S 0 12 = x3 → x1 < x3 → (1 ≤ x1 ∧ x1 ≤ 1) → (1 ≤ x2 ∧ x2 ≤ 1) → (1 ≤ x3 ∧ x3 ≤ 4) → lc L' 0 0 → li L' 1 1 → li L' 2 1 → lc L' 3 102 → am_V none d 135 66 L' ((.ref 6) :: (.ref 102) :: []) S Q)
    (k27 : ∀ (x3 : Int) (L' : am_L), 0 ≤ x1 → rd S 0 12 = x3 → x1 < x3 → (1 ≤ x1 ∧ x1 ≤ 1) → (0 ≤ x2 ∧ x2 ≤ 0) → (1 ≤ x3 ∧ x3 ≤ 4) → lc L' 0 0 → li L' 1 1 → li L' 2 0 → lc L' 3 102 → am_V none d 135 57 L' ((.ref 1) :: (.ref 102) :: []) S Q)
    (k28 : ∀ (x3 : Int) (i1 : Int32), 0 ≤ x1 → rd S 0 12 = x3 → x1 < x3 → (1 ≤ x1 ∧ x1 ≤ 1) → (5 ≤ x2 ∧ x2 ≤ 2147483647) → (1 ≤ x3 ∧ x3 ≤ 4) → i1.toInt = (-1) → Q (some (.int i1), S))
    (k29 : ∀ (x3 : Int) (i1 : Int32), 0 ≤ x1 → rd S 0 12 = x3 → x1 < x3 → (0 ≤ x1 ∧ x1 ≤ 0) → ((-2147483648) ≤ x2 ∧ x2 ≤ (-1)) → (1 ≤ x3 ∧ x3 ≤ 4) → i1.toInt = (-1) → Q (some (.int i1), S))
    (k30 : ∀ (x3 : Int) (L' : am_L), 0 ≤ x1 → rd S 0 12 = x3 → x1 < x3 → (0 ≤ x1 ∧ x1 ≤ 0) → (4 ≤ x2 ∧ x2 ≤ 4) → (1 ≤ x3 ∧ x3 ≤ 4) → lc L' 0 0 → li L' 1 0 → li L' 2 4 → lc L' 3 98 → am_V none d 135 107 L' ((.ref 1) :: (.ref 98) :: []) S Q)
    (k31 : ∀ (x3 x4 x5 x6 : Int) (i1 : Int32), 0 ≤ x1 → rd S 0 12 = x3 → x1 < x3 → rd S 6 0 = x4 → rd S 98 1 = x5 → 0 ≤ x6 → (0 ≤ x1 ∧ x1 ≤ 0) → (3 ≤ x2 ∧ x2 ≤ 3) → (1 ≤ x3 ∧ x3 ≤ 4) → (0 ≤ x4 ∧ x4 ≤ 16) → (0 ≤ x5 ∧ x5 ≤ 16) → (0 ≤ x6 ∧ x6 ≤ 16) → x4 + ((-1) * x5 + 0) = x6 → i1.toInt = x6 → Q (some (.int i1), S))
    (k32 : ∀ (x3 x4 x5 x6 : Int) (i1 : Int32), 0 ≤ x1 → rd S 0 12 = x3 → x1 < x3 → rd S 6 0 = x4 → rd S 98 1 = x5 → x6 < 0 → (0 ≤ x1 ∧ x1 ≤ 0) → (3 ≤ x2 ∧ x2 ≤ 3) → (1 ≤ x3 ∧ x3 ≤ 4) → (0 ≤ x4 ∧ x4 ≤ 16) → (0 ≤ x5 ∧ x5 ≤ 16) → ((-16) ≤ x6 ∧ x6 ≤ (-1)) → x4 + ((-1) * x5 + 0) = x6 → i1.toInt = (-1) * x6 + 0 → Q (some (.int i1), S))
    (k33 : ∀ (x3 x4 x5 x6 : Int) (i1 : Int32), 0 ≤ x1 → rd S 0 12 = x3 → x1 < x3 → rd S 1 0 = x4 → rd S 98 0 = x5 → 0 ≤ x6 → (0 ≤ x1 ∧ x1 ≤ 0) → (2 ≤ x2 ∧ x2 ≤ 2) → (1 ≤ x3 ∧ x3 ≤ 4) → (0 ≤ x4 ∧ x4 ≤ 8) → (0 ≤ x5 ∧ x5 ≤ 8) → (0 ≤ x6 ∧ x6 ≤ 8) → x4 + ((-1) * x5 + 0) = x6 → i1.toInt = x6 → Q (some (.int i1), S))
    (k34 : ∀ (x3 x4 x5 x6 : Int) (i1 : Int32), 0 ≤ x1 → rd S 0 12 = x3 → x1 < x3 → rd S 1 0 = x4 → rd S 98 0 = x5 → x6 < 0 → (0 ≤ x1 ∧ x1 ≤ 0) → (2 ≤ x2 ∧ x2 ≤ 2) → (1 ≤ x3 ∧ x3 ≤ 4) → (0 ≤ x4 ∧ x4 ≤ 8) → (0 ≤ x5 ∧ x5 ≤ 8) → ((-8) ≤ x6 ∧ x6 ≤ (-1)) → x4 + ((-1) * x5 + 0) = x6 → i1.toInt = (-1) * x6 + 0 → Q (some (.int i1), S))
    (k35 : ∀ (x3 : Int) (L' : am_L), 0 ≤ x1 → rd S 0 12 = x3 → x1 < x3 → (0 ≤ x1 ∧ x1 ≤ 0) → (1 ≤ x2 ∧ x2 ≤ 1) → (1 ≤ x3 ∧ x3 ≤ 4) → lc L' 0 0 → li L' 1 0 → li L' 2 1 → lc L' 3 98 → am_V none d 135 66 L' ((.ref 6) :: (.ref 98) :: []) S Q)
    (k36 : ∀ (x3 : Int) (L' : am_L), 0 ≤ x1 → rd S 0 12 = x3 → x1 < x3 → (0 ≤ x1 ∧ x1 ≤ 0) → (0 ≤ x2 ∧ x2 ≤ 0) → (1 ≤ x3 ∧ x3 ≤ 4) → lc L' 0 0 → li L' 1 0 → li L' 2 0 → lc L' 3 98 → am_V none d 135 57 L' ((.ref 1) :: (.ref 98) :: []) S Q)
    (k37 : ∀ (x3 : Int) (i1 : Int32), 0 ≤ x1 → rd S 0 12 = x3 → x1 < x3 → (0 ≤ x1 ∧ x1 ≤ 0) → (5 ≤ x2 ∧ x2 ≤ 2147483647) → (1 ≤ x3 ∧ x3 ≤ 4) → i1.toInt = (-1) → Q (some (.int i1), S)) : am_V none d 135 0 L ([]) S Q := by
  refine sg_use sg_cm_x0_g hd hP (sg_xs [0, x1, x2]) ⟨⟨Int.le_refl 0, Int.le_refl 0⟩, b1, b2, trivial⟩ trivial trivial trivial ⟨l0, l1, l2, trivial⟩ trivial ?_
  intro z hz x' L' st' S' hx hP' hW hL' hs' hJ hE' hT' hD'
  have q1 : x' 1 = x1 := hx 1 (by decide)
  subst q1
  have q2 : x' 2 = x2 := hx 2 (by decide)
  subst q2
  have eS : S' = S := hW.1 rfl
  subst eS
  simp only [sg_cm_x0_Z, List.mem_cons, List.not_mem_nil, or_false] at hz
  rcases hz with rfl | rfl | rfl | rfl | rfl | rfl | rfl | rfl | rfl | rfl | rfl | rfl | rfl | rfl | rfl | rfl | rfl | rfl | rfl | rfl | rfl | rfl | rfl | rfl | rfl | rfl | rfl | rfl | rfl | rfl | rfl | rfl | rfl | rfl | rfl | rfl | rfl | rfl
  · obtain ⟨f0, -, hσ⟩ := hJ
    obtain ⟨e0, -⟩ := hE'
    intro v hv
    subst hv
    cases v with
    | none => exact hs'.elim
    | some v1 =>
      obtain ⟨⟨i1, rfl, g1⟩, -⟩ := hs'
      exact k0 i1 f0 e0 g1
  · obtain ⟨f0, f1, f2, -, hσ⟩ := hJ
    obtain ⟨e0, e1, -⟩ := hE'
    intro v hv
    subst hv
    cases v with
    | none => exact hs'.elim
    | some v1 =>
      obtain ⟨⟨i1, rfl, g1⟩, -⟩ := hs'
      exact k1 (x' 3) i1 f0 f1 f2 e0 e1 g1
  · obtain ⟨f0, f1, f2, -, hσ⟩ := hJ
    obtain ⟨e0, e1, e2, -⟩ := hE'
    intro v hv
    subst hv
    cases v with
    | none => exact hs'.elim
    | some v1 =>
      obtain ⟨⟨i1, rfl, g1⟩, -⟩ := hs'
      exact k2 (x' 3) i1 f0 f1 f2 e0 e1 e2 g1
  · obtain ⟨f0, f1, f2, -, hσ⟩ := hJ
    obtain ⟨e0, e1, e2, -⟩ := hE'
    obtain ⟨p0, p1, p2, p3, -⟩ := hL'
    obtain ⟨v1, r1, rfl, rfl, hs1⟩ := sg_tc hs'
    obtain ⟨v2, r2, rfl, rfl, hs2⟩ := sg_tc hs1
    obtain rfl := sg_tn hs2
    exact k3 (x' 3) L' f0 f1 f2 e0 e1 e2 p0 p1 p2 p3
  · obtain ⟨f0, f1, f2, -, f4, f5, f6, hσ⟩ := hJ
    obtain ⟨e0, e1, e2, e3, e4, e5, -⟩ := hE'
    obtain ⟨t0, -⟩ := hT'
    intro v hv
    subst hv
    cases v with
    | none => exact hs'.elim
    | some v1 =>
      obtain ⟨⟨i1, rfl, g1⟩, -⟩ := hs'
      exact k4 (x' 3) (x' 4) (x' 5) (x' 6) i1 f0 f1 f2 f4 f5 f6 e0 e1 e2 e3 e4 e5 t0 g1
  · obtain ⟨f0, f1, f2, -, f4, f5, f6, hσ⟩ := hJ
    obtain ⟨e0, e1, e2, e3, e4, e5, -⟩ := hE'
    obtain ⟨t0, -⟩ := hT'
    intro v hv
    subst hv
    cases v with
    | none => exact hs'.elim
    | some v1 =>
      obtain ⟨⟨i1, rfl, g1⟩, -⟩ := hs'
      exact k5 (x' 3) (x' 4) (x' 5) (x' 6) i1 f0 f1 f2 f4 f5 f6 e0 e1 e2 e3 e4 e5 t0 g1
  · obtain ⟨f0, f1, f2, -, f4, f5, f6, hσ⟩ := hJ
    obtain ⟨e0, e1, e2, e3, e4, e5, -⟩ := hE'
    obtain ⟨t0, -⟩ := hT'
    intro v hv
    subst hv
    cases v with
    | none => exact hs'.elim
    | some v1 =>
      obtain ⟨⟨i1, rfl, g1⟩, -⟩ := hs'
      exact k6 (x' 3) (x' 4) (x' 5) (x' 6) i1 f0 f1 f2 f4 f5 f6 e0 e1 e2 e3 e4 e5 t0 g1
  · obtain ⟨f0, f1, f2, -, f4, f5, f6, hσ⟩ := hJ
    obtain ⟨e0, e1, e2, e3, e4, e5, -⟩ := hE'
    obtain ⟨t0, -⟩ := hT'
    intro v hv
    subst hv
    cases v with
    | none => exact hs'.elim
    | some v1 =>
      obtain ⟨⟨i1, rfl, g1⟩, -⟩ := hs'
      exact k7 (x' 3) (x' 4) (x' 5) (x' 6) i1 f0 f1 f2 f4 f5 f6 e0 e1 e2 e3 e4 e5 t0 g1
  · obtain ⟨f0, f1, f2, -, hσ⟩ := hJ
    obtain ⟨e0, e1, e2, -⟩ := hE'
    obtain ⟨p0, p1, p2, p3, -⟩ := hL'
    obtain ⟨v1, r1, rfl, rfl, hs1⟩ := sg_tc hs'
    obtain ⟨v2, r2, rfl, rfl, hs2⟩ := sg_tc hs1
    obtain rfl := sg_tn hs2
    exact k8 (x' 3) L' f0 f1 f2 e0 e1 e2 p0 p1 p2 p3
  · obtain ⟨f0, f1, f2, -, hσ⟩ := hJ
    obtain ⟨e0, e1, e2, -⟩ := hE'
    obtain ⟨p0, p1, p2, p3, -⟩ := hL'
    obtain ⟨v1, r1, rfl, rfl, hs1⟩ := sg_tc hs'
    obtain ⟨v2, r2, rfl, rfl, hs2⟩ := sg_tc hs1
    obtain rfl := sg_tn hs2
    exact k9 (x' 3) L' f0 f1 f2 e0 e1 e2 p0 p1 p2 p3
  · obtain ⟨f0, f1, f2, -, hσ⟩ := hJ
    obtain ⟨e0, e1, e2, -⟩ := hE'
    intro v hv
    subst hv
    cases v with
    | none => exact hs'.elim
    | some v1 =>
      obtain ⟨⟨i1, rfl, g1⟩, -⟩ := hs'
      exact k10 (x' 3) i1 f0 f1 f2 e0 e1 e2 g1
  · obtain ⟨f0, f1, f2, -, hσ⟩ := hJ
    obtain ⟨e0, e1, e2, -⟩ := hE'
    intro v hv
    subst hv
    cases v with
    | none => exact hs'.elim
    | some v1 =>
      obtain ⟨⟨i1, rfl, g1⟩, -⟩ := hs'
      exact k11 (x' 3) i1 f0 f1 f2 e0 e1 e2 g1
  · obtain ⟨f0, f1, f2, -, hσ⟩ := hJ
    obtain ⟨e0, e1, e2, -⟩ := hE'
    obtain ⟨p0, p1, p2, p3, -⟩ := hL'
    obtain ⟨v1, r1, rfl, rfl, hs1⟩ := sg_tc hs'
    obtain ⟨v2, r2, rfl, rfl, hs2⟩ := sg_tc hs1
    obtain rfl := sg_tn hs2
    exact k12 (x' 3) L' f0 f1 f2 e0 e1 e2 p0 p1 p2 p3
  · obtain ⟨f0, f1, f2, -, f4, f5, f6, hσ⟩ := hJ
    obtain ⟨e0, e1, e2, e3, e4, e5, -⟩ := hE'
    obtain ⟨t0, -⟩ := hT'
    intro v hv
    subst hv
    cases v with
    | none => exact hs'.elim
    | some v1 =>
      obtain ⟨⟨i1, rfl, g1⟩, -⟩ := hs'
      exact k13 (x' 3) (x' 4) (x' 5) (x' 6) i1 f0 f1 f2 f4 f5 f6 e0 e1 e2 e3 e4 e5 t0 g1
  · obtain ⟨f0, f1, f2, -, f4, f5, f6, hσ⟩ := hJ
    obtain ⟨e0, e1, e2, e3, e4, e5, -⟩ := hE'
    obtain ⟨t0, -⟩ := hT'
    intro v hv
    subst hv
    cases v with
    | none => exact hs'.elim
    | some v1 =>
      obtain ⟨⟨i1, rfl, g1⟩, -⟩ := hs'
      exact k14 (x' 3) (x' 4) (x' 5) (x' 6) i1 f0 f1 f2 f4 f5 f6 e0 e1 e2 e3 e4 e5 t0 g1
  · obtain ⟨f0, f1, f2, -, f4, f5, f6, hσ⟩ := hJ
    obtain ⟨e0, e1, e2, e3, e4, e5, -⟩ := hE'
    obtain ⟨t0, -⟩ := hT'
    intro v hv
    subst hv
    cases v with
    | none => exact hs'.elim
    | some v1 =>
      obtain ⟨⟨i1, rfl, g1⟩, -⟩ := hs'
      exact k15 (x' 3) (x' 4) (x' 5) (x' 6) i1 f0 f1 f2 f4 f5 f6 e0 e1 e2 e3 e4 e5 t0 g1
  · obtain ⟨f0, f1, f2, -, f4, f5, f6, hσ⟩ := hJ
    obtain ⟨e0, e1, e2, e3, e4, e5, -⟩ := hE'
    obtain ⟨t0, -⟩ := hT'
    intro v hv
    subst hv
    cases v with
    | none => exact hs'.elim
    | some v1 =>
      obtain ⟨⟨i1, rfl, g1⟩, -⟩ := hs'
      exact k16 (x' 3) (x' 4) (x' 5) (x' 6) i1 f0 f1 f2 f4 f5 f6 e0 e1 e2 e3 e4 e5 t0 g1
  · obtain ⟨f0, f1, f2, -, hσ⟩ := hJ
    obtain ⟨e0, e1, e2, -⟩ := hE'
    obtain ⟨p0, p1, p2, p3, -⟩ := hL'
    obtain ⟨v1, r1, rfl, rfl, hs1⟩ := sg_tc hs'
    obtain ⟨v2, r2, rfl, rfl, hs2⟩ := sg_tc hs1
    obtain rfl := sg_tn hs2
    exact k17 (x' 3) L' f0 f1 f2 e0 e1 e2 p0 p1 p2 p3
  · obtain ⟨f0, f1, f2, -, hσ⟩ := hJ
    obtain ⟨e0, e1, e2, -⟩ := hE'
    obtain ⟨p0, p1, p2, p3, -⟩ := hL'
    obtain ⟨v1, r1, rfl, rfl, hs1⟩ := sg_tc hs'
    obtain ⟨v2, r2, rfl, rfl, hs2⟩ := sg_tc hs1
    obtain rfl := sg_tn hs2
    exact k18 (x' 3) L' f0 f1 f2 e0 e1 e2 p0 p1 p2 p3
  · obtain ⟨f0, f1, f2, -, hσ⟩ := hJ
    obtain ⟨e0, e1, e2, -⟩ := hE'
    intro v hv
    subst hv
    cases v with
    | none => exact hs'.elim
    | some v1 =>
      obtain ⟨⟨i1, rfl, g1⟩, -⟩ := hs'
      exact k19 (x' 3) i1 f0 f1 f2 e0 e1 e2 g1
  · obtain ⟨f0, f1, f2, -, hσ⟩ := hJ
    obtain ⟨e0, e1, e2, -⟩ := hE'
    intro v hv
    subst hv
    cases v with
    | none => exact hs'.elim
    | some v1 =>
      obtain ⟨⟨i1, rfl, g1⟩, -⟩ := hs'
      exact k20 (x' 3) i1 f0 f1 f2 e0 e1 e2 g1
  · obtain ⟨f0, f1, f2, -, hσ⟩ := hJ
    obtain ⟨e0, e1, e2, -⟩ := hE'
    obtain ⟨p0, p1, p2, p3, -⟩ := hL'
    obtain ⟨v1, r1, rfl, rfl, hs1⟩ := sg_tc hs'
    obtain ⟨v2, r2, rfl, rfl, hs2⟩ := sg_tc hs1
    obtain rfl := sg_tn hs2
    exact k21 (x' 3) L' f0 f1 f2 e0 e1 e2 p0 p1 p2 p3
  · obtain ⟨f0, f1, f2, -, f4, f5, f6, hσ⟩ := hJ
    obtain ⟨e0, e1, e2, e3, e4, e5, -⟩ := hE'
    obtain ⟨t0, -⟩ := hT'
    intro v hv
    subst hv
    cases v with
    | none => exact hs'.elim
    | some v1 =>
      obtain ⟨⟨i1, rfl, g1⟩, -⟩ := hs'
      exact k22 (x' 3) (x' 4) (x' 5) (x' 6) i1 f0 f1 f2 f4 f5 f6 e0 e1 e2 e3 e4 e5 t0 g1
  · obtain ⟨f0, f1, f2, -, f4, f5, f6, hσ⟩ := hJ
    obtain ⟨e0, e1, e2, e3, e4, e5, -⟩ := hE'
    obtain ⟨t0, -⟩ := hT'
    intro v hv
    subst hv
    cases v with
    | none => exact hs'.elim
    | some v1 =>
      obtain ⟨⟨i1, rfl, g1⟩, -⟩ := hs'
      exact k23 (x' 3) (x' 4) (x' 5) (x' 6) i1 f0 f1 f2 f4 f5 f6 e0 e1 e2 e3 e4 e5 t0 g1
  · obtain ⟨f0, f1, f2, -, f4, f5, f6, hσ⟩ := hJ
    obtain ⟨e0, e1, e2, e3, e4, e5, -⟩ := hE'
    obtain ⟨t0, -⟩ := hT'
    intro v hv
    subst hv
    cases v with
    | none => exact hs'.elim
    | some v1 =>
      obtain ⟨⟨i1, rfl, g1⟩, -⟩ := hs'
      exact k24 (x' 3) (x' 4) (x' 5) (x' 6) i1 f0 f1 f2 f4 f5 f6 e0 e1 e2 e3 e4 e5 t0 g1
  · obtain ⟨f0, f1, f2, -, f4, f5, f6, hσ⟩ := hJ
    obtain ⟨e0, e1, e2, e3, e4, e5, -⟩ := hE'
    obtain ⟨t0, -⟩ := hT'
    intro v hv
    subst hv
    cases v with
    | none => exact hs'.elim
    | some v1 =>
      obtain ⟨⟨i1, rfl, g1⟩, -⟩ := hs'
      exact k25 (x' 3) (x' 4) (x' 5) (x' 6) i1 f0 f1 f2 f4 f5 f6 e0 e1 e2 e3 e4 e5 t0 g1
  · obtain ⟨f0, f1, f2, -, hσ⟩ := hJ
    obtain ⟨e0, e1, e2, -⟩ := hE'
    obtain ⟨p0, p1, p2, p3, -⟩ := hL'
    obtain ⟨v1, r1, rfl, rfl, hs1⟩ := sg_tc hs'
    obtain ⟨v2, r2, rfl, rfl, hs2⟩ := sg_tc hs1
    obtain rfl := sg_tn hs2
    exact k26 (x' 3) L' f0 f1 f2 e0 e1 e2 p0 p1 p2 p3
  · obtain ⟨f0, f1, f2, -, hσ⟩ := hJ
    obtain ⟨e0, e1, e2, -⟩ := hE'
    obtain ⟨p0, p1, p2, p3, -⟩ := hL'
    obtain ⟨v1, r1, rfl, rfl, hs1⟩ := sg_tc hs'
    obtain ⟨v2, r2, rfl, rfl, hs2⟩ := sg_tc hs1
    obtain rfl := sg_tn hs2
    exact k27 (x' 3) L' f0 f1 f2 e0 e1 e2 p0 p1 p2 p3
  · obtain ⟨f0, f1, f2, -, hσ⟩ := hJ
    obtain ⟨e0, e1, e2, -⟩ := hE'
    intro v hv
    subst hv
    cases v with
    | none => exact hs'.elim
    | some v1 =>
      obtain ⟨⟨i1, rfl, g1⟩, -⟩ := hs'
      exact k28 (x' 3) i1 f0 f1 f2 e0 e1 e2 g1
  · obtain ⟨f0, f1, f2, -, hσ⟩ := hJ
    obtain ⟨e0, e1, e2, -⟩ := hE'
    intro v hv
    subst hv
    cases v with
    | none => exact hs'.elim
    | some v1 =>
      obtain ⟨⟨i1, rfl, g1⟩, -⟩ := hs'
      exact k29 (x' 3) i1 f0 f1 f2 e0 e1 e2 g1
  · obtain ⟨f0, f1, f2, -, hσ⟩ := hJ
    obtain ⟨e0, e1, e2, -⟩ := hE'
    obtain ⟨p0, p1, p2, p3, -⟩ := hL'
    obtain ⟨v1, r1, rfl, rfl, hs1⟩ := sg_tc hs'
    obtain ⟨v2, r2, rfl, rfl, hs2⟩ := sg_tc hs1
    obtain rfl := sg_tn hs2
    exact k30 (x' 3) L' f0 f1 f2 e0 e1 e2 p0 p1 p2 p3
  · obtain ⟨f0, f1, f2, -, f4, f5, f6, hσ⟩ := hJ
    obtain ⟨e0, e1, e2, e3, e4, e5, -⟩ := hE'
    obtain ⟨t0, -⟩ := hT'
    intro v hv
    subst hv
    cases v with
    | none => exact hs'.elim
    | some v1 =>
      obtain ⟨⟨i1, rfl, g1⟩, -⟩ := hs'
      exact k31 (x' 3) (x' 4) (x' 5) (x' 6) i1 f0 f1 f2 f4 f5 f6 e0 e1 e2 e3 e4 e5 t0 g1
  · obtain ⟨f0, f1, f2, -, f4, f5, f6, hσ⟩ := hJ
    obtain ⟨e0, e1, e2, e3, e4, e5, -⟩ := hE'
    obtain ⟨t0, -⟩ := hT'
    intro v hv
    subst hv
    cases v with
    | none => exact hs'.elim
    | some v1 =>
      obtain ⟨⟨i1, rfl, g1⟩, -⟩ := hs'
      exact k32 (x' 3) (x' 4) (x' 5) (x' 6) i1 f0 f1 f2 f4 f5 f6 e0 e1 e2 e3 e4 e5 t0 g1
  · obtain ⟨f0, f1, f2, -, f4, f5, f6, hσ⟩ := hJ
    obtain ⟨e0, e1, e2, e3, e4, e5, -⟩ := hE'
    obtain ⟨t0, -⟩ := hT'
    intro v hv
    subst hv
    cases v with
    | none => exact hs'.elim
    | some v1 =>
      obtain ⟨⟨i1, rfl, g1⟩, -⟩ := hs'
      exact k33 (x' 3) (x' 4) (x' 5) (x' 6) i1 f0 f1 f2 f4 f5 f6 e0 e1 e2 e3 e4 e5 t0 g1
  · obtain ⟨f0, f1, f2, -, f4, f5, f6, hσ⟩ := hJ
    obtain ⟨e0, e1, e2, e3, e4, e5, -⟩ := hE'
    obtain ⟨t0, -⟩ := hT'
    intro v hv
    subst hv
    cases v with
    | none => exact hs'.elim
    | some v1 =>
      obtain ⟨⟨i1, rfl, g1⟩, -⟩ := hs'
      exact k34 (x' 3) (x' 4) (x' 5) (x' 6) i1 f0 f1 f2 f4 f5 f6 e0 e1 e2 e3 e4 e5 t0 g1
  · obtain ⟨f0, f1, f2, -, hσ⟩ := hJ
    obtain ⟨e0, e1, e2, -⟩ := hE'
    obtain ⟨p0, p1, p2, p3, -⟩ := hL'
    obtain ⟨v1, r1, rfl, rfl, hs1⟩ := sg_tc hs'
    obtain ⟨v2, r2, rfl, rfl, hs2⟩ := sg_tc hs1
    obtain rfl := sg_tn hs2
    exact k35 (x' 3) L' f0 f1 f2 e0 e1 e2 p0 p1 p2 p3
  · obtain ⟨f0, f1, f2, -, hσ⟩ := hJ
    obtain ⟨e0, e1, e2, -⟩ := hE'
    obtain ⟨p0, p1, p2, p3, -⟩ := hL'
    obtain ⟨v1, r1, rfl, rfl, hs1⟩ := sg_tc hs'
    obtain ⟨v2, r2, rfl, rfl, hs2⟩ := sg_tc hs1
    obtain rfl := sg_tn hs2
    exact k36 (x' 3) L' f0 f1 f2 e0 e1 e2 p0 p1 p2 p3
  · obtain ⟨f0, f1, f2, -, hσ⟩ := hJ
    obtain ⟨e0, e1, e2, -⟩ := hE'
    intro v hv
    subst hv
    cases v with
    | none => exact hs'.elim
    | some v1 =>
      obtain ⟨⟨i1, rfl, g1⟩, -⟩ := hs'
      exact k37 (x' 3) i1 f0 f1 f2 e0 e1 e2 g1
def sg_cm_m0_Z : List sg_z := [(0, [], [.inl (false, (0, .ofNat 0, .negSucc 0))], [(2, 0, (0, .ofNat 0, .ofNat 0), (0, .ofNat 0, .ofNat 0), (0, .ofNat 0, .ofNat 0)), (2, 2, (1, .ofNat 1, .ofNat 0), (0, .ofNat 0, .ofNat 0), (0, .ofNat 0, .ofNat 0)), (0, 122, (0, .ofNat 0, .ofNat 52), (3, .ofNat 1, .ofNat 0), (0, .ofNat 0, .ofNat 0))], [(1, [(.negSucc 2147483647, .negSucc 0)]), (3, [(.ofNat 0, .ofNat 4)])], [], []),
  (0, [], [.inl (false, (0, .ofNat 0, .negSucc 0))], [(2, 0, (0, .ofNat 0, .ofNat 0), (0, .ofNat 0, .ofNat 0), (0, .ofNat 0, .ofNat 0)), (2, 4, (1, .ofNat 1, .ofNat 0), (3, .ofNat 1, .negSucc 0), (0, .ofNat 0, .ofNat 0)), (2, 3, (1, .ofNat 1, .ofNat 0), (0, .ofNat 0, .ofNat 0), (0, .ofNat 0, .ofNat 0)), (0, 122, (0, .ofNat 0, .ofNat 52), (3, .ofNat 1, .ofNat 0), (0, .ofNat 0, .ofNat 0))], [(1, [(.ofNat 0, .ofNat 2147483647)]), (3, [(.ofNat 0, .ofNat 4)])], [], []),
  (0, [], [.inl (false, (0, .ofNat 0, .negSucc 0))], [(2, 0, (0, .ofNat 0, .ofNat 0), (0, .ofNat 0, .ofNat 0), (0, .ofNat 0, .ofNat 0)), (2, 2, (2, .ofNat 1, .ofNat 0), (0, .ofNat 0, .ofNat 0), (0, .ofNat 0, .ofNat 0)), (2, 1, (0, .ofNat 0, .ofNat 1), (0, .ofNat 0, .ofNat 0), (0, .ofNat 0, .ofNat 0)), (2, 5, (1, .ofNat 1, .ofNat 0), (3, .ofNat 1, .negSucc 0), (0, .ofNat 0, .ofNat 0)), (2, 3, (1, .ofNat 1, .ofNat 0), (0, .ofNat 0, .ofNat 0), (0, .ofNat 0, .ofNat 0)), (0, 122, (0, .ofNat 0, .ofNat 52), (3, .ofNat 1, .ofNat 0), (0, .ofNat 0, .ofNat 0))], [(1, [(.ofNat 0, .ofNat 3)]), (2, [(.negSucc 2147483647, .negSucc 0)]), (3, [(.ofNat 1, .ofNat 4)])], [], []),
  (0, [], [.inl (false, (0, .ofNat 0, .negSucc 0))], [(2, 0, (0, .ofNat 0, .ofNat 0), (0, .ofNat 0, .ofNat 0), (0, .ofNat 0, .ofNat 0)), (2, 4, (2, .ofNat 1, .ofNat 0), (0, .ofNat 0, .ofNat 4), (0, .ofNat 0, .ofNat 0)), (2, 3, (2, .ofNat 1, .ofNat 0), (0, .ofNat 0, .ofNat 0), (0, .ofNat 0, .ofNat 0)), (2, 1, (0, .ofNat 0, .ofNat 1), (0, .ofNat 0, .ofNat 0), (0, .ofNat 0, .ofNat 0)), (2, 5, (1, .ofNat 1, .ofNat 0), (3, .ofNat 1, .negSucc 0), (0, .ofNat 0, .ofNat 0)), (2, 3, (1, .ofNat 1, .ofNat 0), (0, .ofNat 0, .ofNat 0), (0, .ofNat 0, .ofNat 0)), (0, 122, (0, .ofNat 0, .ofNat 52), (3, .ofNat 1, .ofNat 0), (0, .ofNat 0, .ofNat 0))], [(1, [(.ofNat 0, .ofNat 3)]), (2, [(.ofNat 5, .ofNat 2147483647)]), (3, [(.ofNat 1, .ofNat 4)])], [], []),
  (146, [(0, .inr (.inl [122])), (1, .inl (false, (1, .ofNat 1, .ofNat 0))), (2, .inl (false, (2, .ofNat 1, .ofNat 0))), (3, .inl (false, (1, .ofNat 50, .ofNat 0))), (4, .inl (false, (0, .ofNat 0, .ofNat 0))), (5, .inl (false, (0, .ofNat 0, .ofNat 0))), (6, .inl (false, (0, .ofNat 0, .ofNat 0))), (7, .inl (false, (6, .ofNat 1, .ofNat 0))), (8, .inl (false, (9, .ofNat 1, .ofNat 0))), (9, .inl (false, (0, .ofNat 0, .ofNat 0)))], [], [(0, 122, (0, .ofNat 0, .ofNat 5), (7, .ofNat 1, .ofNat 0), (0, .ofNat 0, .ofNat 0)), (0, 156, (1, .ofNat 50, .ofNat 41), (8, .ofNat 1, .ofNat 0), (0, .ofNat 0, .ofNat 0)), (2, 5, (7, .ofNat 1, .ofNat 0), (8, .ofNat 1, .ofNat 0), (0, .ofNat 0, .ofNat 0)), (0, 156, (1, .ofNat 50, .ofNat 41), (8, .ofNat 1, .ofNat 0), (0, .ofNat 0, .ofNat 0)), (0, 122, (0, .ofNat 0, .ofNat 5), (7, .ofNat 1, .ofNat 0), (0, .ofNat 0, .ofNat 0)), (0, 122, (0, .ofNat 0, .ofNat 0), (4, .ofNat 1, .ofNat 0), (0, .ofNat 0, .ofNat 0)), (0, 156, (1, .ofNat 50, .ofNat 40), (5, .ofNat 1, .ofNat 0), (0, .ofNat 0, .ofNat 0)), (2, 5, (4, .ofNat 1, .ofNat 0), (5, .ofNat 1, .ofNat 0), (0, .ofNat 0, .ofNat 0)), (0, 156, (1, .ofNat 50, .ofNat 40), (5, .ofNat 1, .ofNat 0), (0, .ofNat 0, .ofNat 0)), (0, 122, (0, .ofNat 0, .ofNat 0), (4, .ofNat 1, .ofNat 0), (0, .ofNat 0, .ofNat 0)), (2, 1, (0, .ofNat 0, .ofNat 1), (0, .ofNat 0, .ofNat 0), (0, .ofNat 0, .ofNat 0)), (2, 5, (2, .ofNat 1, .ofNat 0), (0, .ofNat 0, .ofNat 4), (0, .ofNat 0, .ofNat 0)), (2, 3, (2, .ofNat 1, .ofNat 0), (0, .ofNat 0, .ofNat 0), (0, .ofNat 0, .ofNat 0)), (2, 1, (0, .ofNat 0, .ofNat 1), (0, .ofNat 0, .ofNat 0), (0, .ofNat 0, .ofNat 0)), (2, 5, (1, .ofNat 1, .ofNat 0), (3, .ofNat 1, .negSucc 0), (0, .ofNat 0, .ofNat 0)), (2, 3, (1, .ofNat 1, .ofNat 0), (0, .ofNat 0, .ofNat 0), (0, .ofNat 0, .ofNat 0)), (0, 122, (0, .ofNat 0, .ofNat 52), (3, .ofNat 1, .ofNat 0), (0, .ofNat 0, .ofNat 0))], [(1, [(.ofNat 0, .ofNat 3)]), (2, [(.ofNat 0, .ofNat 4)]), (3, [(.ofNat 1, .ofNat 4)]), (4, [(.ofNat 0, .ofNat 8)]), (5, [(.ofNat 0, .ofNat 1000000)]), (6, [(.negSucc 7, .ofNat 1000000)]), (7, [(.ofNat 0, .ofNat 16)]), (8, [(.ofNat 0, .ofNat 1000000)]), (9, [(.negSucc 15, .ofNat 1000000)])], [((8, .ofNat 1, .ofNat 0), (7, .negSucc 0, .ofNat 0), (9, .ofNat 1, .ofNat 0)), ((5, .ofNat 1, .ofNat 0), (4, .negSucc 0, .ofNat 0), (6, .ofNat 1, .ofNat 0))], []),
  (146, [(0, .inr (.inl [122])), (1, .inl (false, (1, .ofNat 1, .ofNat 0))), (2, .inl (false, (2, .ofNat 1, .ofNat 0))), (3, .inl (false, (1, .ofNat 50, .ofNat 0))), (4, .inl (false, (0, .ofNat 0, .ofNat 0))), (5, .inl (false, (0, .ofNat 0, .ofNat 0))), (6, .inl (false, (0, .ofNat 0, .ofNat 0))), (7, .inl (false, (6, .ofNat 1, .ofNat 0))), (8, .inl (false, (9, .ofNat 1, .ofNat 0))), (9, .inl (false, (0, .ofNat 0, .ofNat 0)))], [], [(0, 156, (1, .ofNat 50, .ofNat 41), (8, .ofNat 1, .ofNat 0), (0, .ofNat 0, .ofNat 0)), (0, 122, (0, .ofNat 0, .ofNat 5), (7, .ofNat 1, .ofNat 0), (0, .ofNat 0, .ofNat 0)), (2, 4, (7, .ofNat 1, .ofNat 0), (8, .ofNat 1, .ofNat 0), (0, .ofNat 0, .ofNat 0)), (0, 156, (1, .ofNat 50, .ofNat 41), (8, .ofNat 1, .ofNat 0), (0, .ofNat 0, .ofNat 0)), (0, 122, (0, .ofNat 0, .ofNat 5), (7, .ofNat 1, .ofNat 0), (0, .ofNat 0, .ofNat 0)), (0, 122, (0, .ofNat 0, .ofNat 0), (4, .ofNat 1, .ofNat 0), (0, .ofNat 0, .ofNat 0)), (0, 156, (1, .ofNat 50, .ofNat 40), (5, .ofNat 1, .ofNat 0), (0, .ofNat 0, .ofNat 0)), (2, 5, (4, .ofNat 1, .ofNat 0), (5, .ofNat 1, .ofNat 0), (0, .ofNat 0, .ofNat 0)), (0, 156, (1, .ofNat 50, .ofNat 40), (5, .ofNat 1, .ofNat 0), (0, .ofNat 0, .ofNat 0)), (0, 122, (0, .ofNat 0, .ofNat 0), (4, .ofNat 1, .ofNat 0), (0, .ofNat 0, .ofNat 0)), (2, 1, (0, .ofNat 0, .ofNat 1), (0, .ofNat 0, .ofNat 0), (0, .ofNat 0, .ofNat 0)), (2, 5, (2, .ofNat 1, .ofNat 0), (0, .ofNat 0, .ofNat 4), (0, .ofNat 0, .ofNat 0)), (2, 3, (2, .ofNat 1, .ofNat 0), (0, .ofNat 0, .ofNat 0), (0, .ofNat 0, .ofNat 0)), (2, 1, (0, .ofNat 0, .ofNat 1), (0, .ofNat 0, .ofNat 0), (0, .ofNat 0, .ofNat 0)), (2, 5, (1, .ofNat 1, .ofNat 0), (3, .ofNat 1, .negSucc 0), (0, .ofNat 0, .ofNat 0)), (2, 3, (1, .ofNat 1, .ofNat 0), (0, .ofNat 0, .ofNat 0), (0, .ofNat 0, .ofNat 0)), (0, 122, (0, .ofNat 0, .ofNat 52), (3, .ofNat 1, .ofNat 0), (0, .ofNat 0, .ofNat 0))], [(1, [(.ofNat 0, .ofNat 3)]), (2, [(.ofNat 0, .ofNat 4)]), (3, [(.ofNat 1, .ofNat 4)]), (4, [(.ofNat 0, .ofNat 8)]), (5, [(.ofNat 0, .ofNat 1000000)]), (6, [(.negSucc 7, .ofNat 1000000)]), (7, [(.ofNat 0, .ofNat 16)]), (8, [(.negSucc 3, .ofNat 15)]), (9, [(.negSucc 14, .ofNat 20)])], [((7, .ofNat 1, .ofNat 0), (8, .negSucc 0, .ofNat 0), (9, .ofNat 1, .ofNat 0)), ((5, .ofNat 1, .ofNat 0), (4, .negSucc 0, .ofNat 0), (6, .ofNat 1, .ofNat 0))], []),
  (146, [(0, .inr (.inl [122])), (1, .inl (false, (1, .ofNat 1, .ofNat 0))), (2, .inl (false, (2, .ofNat 1, .ofNat 0))), (3, .inl (false, (1, .ofNat 50, .ofNat 0))), (4, .inl (false, (0, .ofNat 0, .ofNat 0))), (5, .inl (false, (0, .ofNat 0, .ofNat 0))), (6, .inl (false, (0, .ofNat 0, .ofNat 0))), (7, .inl (false, (6, .ofNat 1, .ofNat 0))), (8, .inl (false, (9, .ofNat 1, .ofNat 0))), (9, .inl (false, (0, .ofNat 0, .ofNat 0)))], [], [(0, 122, (0, .ofNat 0, .ofNat 5), (7, .ofNat 1, .ofNat 0), (0, .ofNat 0, .ofNat 0)), (0, 156, (1, .ofNat 50, .ofNat 41), (8, .ofNat 1, .ofNat 0), (0, .ofNat 0, .ofNat 0)), (2, 5, (7, .ofNat 1, .ofNat 0), (8, .ofNat 1, .ofNat 0), (0, .ofNat 0, .ofNat 0)), (0, 156, (1, .ofNat 50, .ofNat 41), (8, .ofNat 1, .ofNat 0), (0, .ofNat 0, .ofNat 0)), (0, 122, (0, .ofNat 0, .ofNat 5), (7, .ofNat 1, .ofNat 0), (0, .ofNat 0, .ofNat 0)), (0, 156, (1, .ofNat 50, .ofNat 40), (5, .ofNat 1, .ofNat 0), (0, .ofNat 0, .ofNat 0)), (0, 122, (0, .ofNat 0, .ofNat 0), (4, .ofNat 1, .ofNat 0), (0, .ofNat 0, .ofNat 0)), (2, 4, (4, .ofNat 1, .ofNat 0), (5, .ofNat 1, .ofNat 0), (0, .ofNat 0, .ofNat 0)), (0, 156, (1, .ofNat 50, .ofNat 40), (5, .ofNat 1, .ofNat 0), (0, .ofNat 0, .ofNat 0)), (0, 122, (0, .ofNat 0, .ofNat 0), (4, .ofNat 1, .ofNat 0), (0, .ofNat 0, .ofNat 0)), (2, 1, (0, .ofNat 0, .ofNat 1), (0, .ofNat 0, .ofNat 0), (0, .ofNat 0, .ofNat 0)), (2, 5, (2, .ofNat 1, .ofNat 0), (0, .ofNat 0, .ofNat 4), (0, .ofNat 0, .ofNat 0)), (2, 3, (2, .ofNat 1, .ofNat 0), (0, .ofNat 0, .ofNat 0), (0, .ofNat 0, .ofNat 0)), (2, 1, (0, .ofNat 0, .ofNat 1), (0, .ofNat 0, .ofNat 0), (0, .ofNat 0, .ofNat 0)), (2, 5, (1, .ofNat 1, .ofNat 0), (3, .ofNat 1, .negSucc 0), (0, .ofNat 0, .ofNat 0)), (2, 3, (1, .ofNat 1, .ofNat 0), (0, .ofNat 0, .ofNat 0), (0, .ofNat 0, .ofNat 0)), (0, 122, (0, .ofNat 0, .ofNat 52), (3, .ofNat 1, .ofNat 0), (0, .ofNat 0, .ofNat 0))], [(1, [(.ofNat 0, .ofNat 3)]), (2, [(.ofNat 0, .ofNat 4)]), (3, [(.ofNat 1, .ofNat 4)]), (4, [(.ofNat 0, .ofNat 8)]), (5, [(.negSucc 3, .ofNat 7)]), (6, [(.negSucc 6, .ofNat 12)]), (7, [(.ofNat 0, .ofNat 16)]), (8, [(.ofNat 0, .ofNat 1000000)]), (9, [(.negSucc 15, .ofNat 1000000)])], [((8, .ofNat 1, .ofNat 0), (7, .negSucc 0, .ofNat 0), (9, .ofNat 1, .ofNat 0)), ((4, .ofNat 1, .ofNat 0), (5, .negSucc 0, .ofNat 0), (6, .ofNat 1, .ofNat 0))], []),
  (146, [(0, .inr (.inl [122])), (1, .inl (false, (1, .ofNat 1, .ofNat 0))), (2, .inl (false, (2, .ofNat 1, .ofNat 0))), (3, .inl (false, (1, .ofNat 50, .ofNat 0))), (4, .inl (false, (0, .ofNat 0, .ofNat 0))), (5, .inl (false, (0, .ofNat 0, .ofNat 0))), (6, .inl (false, (0, .ofNat 0, .ofNat 0))), (7, .inl (false, (6, .ofNat 1, .ofNat 0))), (8, .inl (false, (9, .ofNat 1, .ofNat 0))), (9, .inl (false, (0, .ofNat 0, .ofNat 0)))], [], [(0, 156, (1, .ofNat 50, .ofNat 41), (8, .ofNat 1, .ofNat 0), (0, .ofNat 0, .ofNat 0)), (0, 122, (0, .ofNat 0, .ofNat 5), (7, .ofNat 1, .ofNat 0), (0, .ofNat 0, .ofNat 0)), (2, 4, (7, .ofNat 1, .ofNat 0), (8, .ofNat 1, .ofNat 0), (0, .ofNat 0, .ofNat 0)), (0, 156, (1, .ofNat 50, .ofNat 41), (8, .ofNat 1, .ofNat 0), (0, .ofNat 0, .ofNat 0)), (0, 122, (0, .ofNat 0, .ofNat 5), (7, .ofNat 1, .ofNat 0), (0, .ofNat 0, .ofNat 0)), (0, 156, (1, .ofNat 50, .ofNat 40), (5, .ofNat 1, .ofNat 0), (0, .ofNat 0, .ofNat 0)), (0, 122, (0, .ofNat 0, .ofNat 0), (4, .ofNat 1, .ofNat 0), (0, .ofNat 0, .ofNat 0)), (2, 4, (4, .ofNat 1, .ofNat 0), (5, .ofNat 1, .ofNat 0), (0, .ofNat 0, .ofNat 0)), (0, 156, (1, .ofNat 50, .ofNat 40), (5, .ofNat 1, .ofNat 0), (0, .ofNat 0, .ofNat 0)), (0, 122, (0, .ofNat 0, .ofNat 0), (4, .ofNat 1, .ofNat 0), (0, .ofNat 0, .ofNat 0)), (2, 1, (0, .ofNat 0, .ofNat 1), (0, .ofNat 0, .ofNat 0), (0, .ofNat 0, .ofNat 0)), (2, 5, (2, .ofNat 1, .ofNat 0), (0, .ofNat 0, .ofNat 4), (0, .ofNat 0, .ofNat 0)), (2, 3, (2, .ofNat 1, .ofNat 0), (0, .ofNat 0, .ofNat 0), (0, .ofNat 0, .ofNat 0)), (2, 1, (0, .ofNat 0, .ofNat 1), (0, .ofNat 0, .ofNat 0), (0, .ofNat 0, .ofNat 0)), (2, 5, (1, .ofNat 1, .ofNat 0), (3, .ofNat 1, .negSucc 0), (0, .ofNat 0, .ofNat 0)), (2, 3, (1, .ofNat 1, .ofNat 0), (0, .ofNat 0, .ofNat 0), (0, .ofNat 0, .ofNat 0)), (0, 122, (0, .ofNat 0, .ofNat 52), (3, .ofNat 1, .ofNat 0), (0, .ofNat 0, .ofNat 0))], [(1, [(.ofNat 0, .ofNat 3)]), (2, [(.ofNat 0, .ofNat 4)]), (3, [(.ofNat 1, .ofNat 4)]), (4, [(.ofNat 0, .ofNat 8)]), (5, [(.negSucc 3, .ofNat 7)]), (6, [(.negSucc 6, .ofNat 12)]), (7, [(.ofNat 0, .ofNat 16)]), (8, [(.negSucc 3, .ofNat 15)]), (9, [(.negSucc 14, .ofNat 20)])], [((7, .ofNat 1, .ofNat 0), (8, .negSucc 0, .ofNat 0), (9, .ofNat 1, .ofNat 0)), ((4, .ofNat 1, .ofNat 0), (5, .negSucc 0, .ofNat 0), (6, .ofNat 1, .ofNat 0))], [])]
set_option maxRecDepth 1000000 in
theorem sg_cm_m0_g : sg_go [] [145] 3000 245 0 1 3 [(0, [(.ofNat 0, .ofNat 0)]), (1, [(.negSucc 2147483647, .ofNat 2147483647)]), (2, [(.negSucc 2147483647, .ofNat 2147483647)])] [] [] [] [(0, .inr (.inl [122])), (1, .inl (false, (1, .ofNat 1, .ofNat 0))), (2, .inl (false, (2, .ofNat 1, .ofNat 0)))] [] [] sg_cm_m0_Z = true := by decide +kernel
set_option maxRecDepth 100000 in
theorem sg_cm_m0 {Q : Option Value × am_S → Prop} {d : Nat} {S : am_S} {L : am_L} {x1 x2 : Int} (hd : 1 ≤ d) (hP : ax_P0 none S) (l0 : lc L 0 122) (l1 : li L 1 x1) (l2 : li L 2 x2) (b1 : ((-2147483648) ≤ x1 ∧ x1 ≤ 2147483647)) (b2 : ((-2147483648) ≤ x2 ∧ x2 ≤ 2147483647))
    (k0 : ∀ (x3 : Int) (i1 : Int32), rd S 122 52 = x3 → x1 < 0 → ((-2147483648) ≤ x1 ∧ x1 ≤ (-1)) → (0 ≤ x3 ∧ x3 ≤ 4) → i1.toInt = (-1) → Q (some (.int i1), S))
    (k1 : ∀ (x3 : Int) (i1 : Int32), rd S 122 52 = x3 → 0 ≤ x1 → x3 + (-1) < x1 → (0 ≤ x1 ∧ x1 ≤ 2147483647) → (0 ≤ x3 ∧ x3 ≤ 4) → i1.toInt = (-1) → Q (some (.int i1), S))
    (k2 : ∀ (x3 : Int) (i1 : Int32), rd S 122 52 = x3 → 0 ≤ x1 → x1 ≤ x3 + (-1) → x2 < 0 → (0 ≤ x1 ∧ x1 ≤ 3) → ((-2147483648) ≤ x2 ∧ x2 ≤ (-1)) → (1 ≤ x3 ∧ x3 ≤ 4) → i1.toInt = (-1) → Q (some (.int i1), S))
    (k3 : ∀ (x3 : Int) (i1 : Int32), rd S 122 52 = x3 → 0 ≤ x1 → x1 ≤ x3 + (-1) → 0 ≤ x2 → 4 < x2 → (0 ≤ x1 ∧ x1 ≤ 3) → (5 ≤ x2 ∧ x2 ≤ 2147483647) → (1 ≤ x3 ∧ x3 ≤ 4) → i1.toInt = (-1) → Q (some (.int i1), S))
    (k4 : ∀ (x3 x4 x5 x6 x7 x8 x9 : Int) (L' : am_L), rd S 122 52 = x3 → 0 ≤ x1 → x1 ≤ x3 + (-1) → 0 ≤ x2 → x2 ≤ 4 → rd S 122 0 = x4 → rd S 156 (50 * x1 + 40) = x5 → x4 ≤ x5 → rd S 122 5 = x7 → rd S 156 (50 * x1 + 41) = x8 → x7 ≤ x8 → (0 ≤ x1 ∧ x1 ≤ 3) → (0 ≤ x2 ∧ x2 ≤ 4) → (1 ≤ x3 ∧ x3 ≤ 4) → (0 ≤ x4 ∧ x4 ≤ 8) → (0 ≤ x5 ∧ x5 ≤ 1000000) → ((-8) ≤ x6 ∧ x6 ≤ 1000000) → (0 ≤ x7 ∧ x7 ≤ 16) → (0 ≤ x8 ∧ x8 ≤ 1000000) → ((-16) ≤ x9 ∧ x9 ≤ 1000000) → x8 + ((-1) * x7 + 0) = x9 → x5 + ((-1) * x4 + 0) = x6 → lc L' 0 122 → li L' 1 x1 → li L' 2 x2 → li L' 3 (50 * x1 + 0) → li L' 4 0 → li L' 5 0 → li L' 6 0 → li L' 7 x6 → li L' 8 x9 → li L' 9 0 → am_V none d 245 145 L' ([]) S Q)
    (k5 : ∀ (x3 x4 x5 x6 x7 x8 x9 : Int) (L' : am_L), rd S 122 52 = x3 → 0 ≤ x1 → x1 ≤ x3 + (-1) → 0 ≤ x2 → x2 ≤ 4 → rd S 122 0 = x4 → rd S 156 (50 * x1 + 40) = x5 → x4 ≤ x5 → rd S 122 5 = x7 → rd S 156 (50 * x1 + 41) = x8 → x8 < x7 → (0 ≤ x1 ∧ x1 ≤ 3) → (0 ≤ x2 ∧ x2 ≤ 4) → (1 ≤ x3 ∧ x3 ≤ 4) → (0 ≤ x4 ∧ x4 ≤ 8) → (0 ≤ x5 ∧ x5 ≤ 1000000) → ((-8) ≤ x6 ∧ x6 ≤ 1000000) → (0 ≤ x7 ∧ x7 ≤ 16) → ((-4) ≤ x8 ∧ x8 ≤ 15) → ((-15) ≤ x9 ∧ x9 ≤ 20) → x7 + ((-1) * x8 + 0) = x9 → x5 + ((-1) * x4 + 0) = x6 → lc L' 0 122 → li L' 1 x1 → li L' 2 x2 → li L' 3 (50 * x1 + 0) → li L' 4 0 → li L' 5 0 → li L' 6 0 → li L' 7 x6 → li L' 8 x9 → li L' 9 0 → am_V none d 245 145 L' ([]) S Q)
    (k6 : ∀ (x3 x4 x5 x6 x7 x8 x9 : Int) (L' : am_L), rd S 122 52 = x3 → 0 ≤ x1 → x1 ≤ x3 + (-1) → 0 ≤ x2 → x2 ≤ 4 → rd S 122 0 = x4 → rd S 156 (50 * x1 + 40) = x5 → x5 < x4 → rd S 122 5 = x7 → rd S 156 (50 * x1 + 41) = x8 → x7 ≤ x8 → (0 ≤ x1 ∧ x1 ≤ 3) → (0 ≤ x2 ∧ x2 ≤ 4) → (1 ≤ x3 ∧ x3 ≤ 4) → (0 ≤ x4 ∧ x4 ≤ 8) → ((-4) ≤ x5 ∧ x5 ≤ 7) → ((-7) ≤ x6 ∧ x6 ≤ 12) → (0 ≤ x7 ∧ x7 ≤ 16) → (0 ≤ x8 ∧ x8 ≤ 1000000) → ((-16) ≤ x9 ∧ x9 ≤ 1000000) → x8 + ((-1) * x7 + 0) = x9 → x4 + ((-1) * x5 + 0) = x6 → lc L' 0 122 → li L' 1 x1 → li L' 2 x2 → li L' 3 (50 * x1 + 0) → li L' 4 0 → li L' 5 0 → li L' 6 0 → li L' 7 x6 → li L' 8 x9 → li L' 9 0 → am_V none d 245 145 L' ([]) S Q)
    (k7 : ∀ (x3 x4 x5 x6 x7 x8 x9 : Int) (L' : am_L), rd S 122 52 = x3 → 0 ≤ x1 → x1 ≤ x3 + (-1) → 0 ≤ x2 → x2 ≤ 4 → rd S 122 0 = x4 → rd S 156 (50 * x1 + 40) = x5 → x5 < x4 → rd S 122 5 = x7 → rd S 156 (50 * x1 + 41) = x8 → x8 < x7 → (0 ≤ x1 ∧ x1 ≤ 3) → (0 ≤ x2 ∧ x2 ≤ 4) → (1 ≤ x3 ∧ x3 ≤ 4) → (0 ≤ x4 ∧ x4 ≤ 8) → ((-4) ≤ x5 ∧ x5 ≤ 7) → ((-7) ≤ x6 ∧ x6 ≤ 12) → (0 ≤ x7 ∧ x7 ≤ 16) → ((-4) ≤ x8 ∧ x8 ≤ 15) → ((-15) ≤ x9 ∧ x9 ≤ 20) → x7 + ((-1) * x8 + 0) = x9 → x4 + ((-1) * x5 + 0) = x6 → lc L' 0 122 → li L' 1 x1 → li L' 2 x2 → li L' 3 (50 * x1 + 0) → li L' 4 0 → li L' 5 0 → li L' 6 0 → li L' 7 x6 → li L' 8 x9 → li L' 9 0 → am_V none d 245 145 L' ([]) S Q) : am_V none d 245 0 L ([]) S Q := by
  refine sg_use sg_cm_m0_g hd hP (sg_xs [0, x1, x2]) ⟨⟨Int.le_refl 0, Int.le_refl 0⟩, b1, b2, trivial⟩ trivial trivial trivial ⟨l0, l1, l2, trivial⟩ trivial ?_
  intro z hz x' L' st' S' hx hP' hW hL' hs' hJ hE' hT' hD'
  have q1 : x' 1 = x1 := hx 1 (by decide)
  subst q1
  have q2 : x' 2 = x2 := hx 2 (by decide)
  subst q2
  have eS : S' = S := hW.1 rfl
  subst eS
  simp only [sg_cm_m0_Z, List.mem_cons, List.not_mem_nil, or_false] at hz
  rcases hz with rfl | rfl | rfl | rfl | rfl | rfl | rfl | rfl
  · obtain ⟨f0, f1, -, hσ⟩ := hJ
    obtain ⟨e0, e1, -⟩ := hE'
    intro v hv
    subst hv
    cases v with
    | none => exact hs'.elim
    | some v1 =>
      obtain ⟨⟨i1, rfl, g1⟩, -⟩ := hs'
      exact k0 (x' 3) i1 f0 f1 e0 e1 g1
  · obtain ⟨f0, f1, f2, -, hσ⟩ := hJ
    obtain ⟨e0, e1, -⟩ := hE'
    intro v hv
    subst hv
    cases v with
    | none => exact hs'.elim
    | some v1 =>
      obtain ⟨⟨i1, rfl, g1⟩, -⟩ := hs'
      exact k1 (x' 3) i1 f0 f1 f2 e0 e1 g1
  · obtain ⟨f0, f1, f2, -, f4, -, hσ⟩ := hJ
    obtain ⟨e0, e1, e2, -⟩ := hE'
    intro v hv
    subst hv
    cases v with
    | none => exact hs'.elim
    | some v1 =>
      obtain ⟨⟨i1, rfl, g1⟩, -⟩ := hs'
      exact k2 (x' 3) i1 f0 f1 f2 f4 e0 e1 e2 g1
  · obtain ⟨f0, f1, f2, -, f4, f5, -, hσ⟩ := hJ
    obtain ⟨e0, e1, e2, -⟩ := hE'
    intro v hv
    subst hv
    cases v with
    | none => exact hs'.elim
    | some v1 =>
      obtain ⟨⟨i1, rfl, g1⟩, -⟩ := hs'
      exact k3 (x' 3) i1 f0 f1 f2 f4 f5 e0 e1 e2 g1
  · obtain ⟨f0, f1, f2, -, f4, f5, -, f7, f8, f9, -, -, f12, f13, f14, -, -, hσ⟩ := hJ
    obtain ⟨e0, e1, e2, e3, e4, e5, e6, e7, e8, -⟩ := hE'
    obtain ⟨t0, t1, -⟩ := hT'
    obtain ⟨p0, p1, p2, p3, p4, p5, p6, p7, p8, p9, -⟩ := hL'
    obtain rfl := sg_tn hs'
    exact k4 (x' 3) (x' 4) (x' 5) (x' 6) (x' 7) (x' 8) (x' 9) L' f0 f1 f2 f4 f5 f7 f8 f9 f12 f13 f14 e0 e1 e2 e3 e4 e5 e6 e7 e8 t0 t1 p0 p1 p2 p3 p4 p5 p6 p7 p8 p9
  · obtain ⟨f0, f1, f2, -, f4, f5, -, f7, f8, f9, -, -, f12, f13, f14, -, -, hσ⟩ := hJ
    obtain ⟨e0, e1, e2, e3, e4, e5, e6, e7, e8, -⟩ := hE'
    obtain ⟨t0, t1, -⟩ := hT'
    obtain ⟨p0, p1, p2, p3, p4, p5, p6, p7, p8, p9, -⟩ := hL'
    obtain rfl := sg_tn hs'
    exact k5 (x' 3) (x' 4) (x' 5) (x' 6) (x' 7) (x' 8) (x' 9) L' f0 f1 f2 f4 f5 f7 f8 f9 f12 f13 f14 e0 e1 e2 e3 e4 e5 e6 e7 e8 t0 t1 p0 p1 p2 p3 p4 p5 p6 p7 p8 p9
  · obtain ⟨f0, f1, f2, -, f4, f5, -, f7, f8, f9, -, -, f12, f13, f14, -, -, hσ⟩ := hJ
    obtain ⟨e0, e1, e2, e3, e4, e5, e6, e7, e8, -⟩ := hE'
    obtain ⟨t0, t1, -⟩ := hT'
    obtain ⟨p0, p1, p2, p3, p4, p5, p6, p7, p8, p9, -⟩ := hL'
    obtain rfl := sg_tn hs'
    exact k6 (x' 3) (x' 4) (x' 5) (x' 6) (x' 7) (x' 8) (x' 9) L' f0 f1 f2 f4 f5 f7 f8 f9 f12 f13 f14 e0 e1 e2 e3 e4 e5 e6 e7 e8 t0 t1 p0 p1 p2 p3 p4 p5 p6 p7 p8 p9
  · obtain ⟨f0, f1, f2, -, f4, f5, -, f7, f8, f9, -, -, f12, f13, f14, -, -, hσ⟩ := hJ
    obtain ⟨e0, e1, e2, e3, e4, e5, e6, e7, e8, -⟩ := hE'
    obtain ⟨t0, t1, -⟩ := hT'
    obtain ⟨p0, p1, p2, p3, p4, p5, p6, p7, p8, p9, -⟩ := hL'
    obtain rfl := sg_tn hs'
    exact k7 (x' 3) (x' 4) (x' 5) (x' 6) (x' 7) (x' 8) (x' 9) L' f0 f1 f2 f4 f5 f7 f8 f9 f12 f13 f14 e0 e1 e2 e3 e4 e5 e6 e7 e8 t0 t1 p0 p1 p2 p3 p4 p5 p6 p7 p8 p9
def sg_cm_m1_Z : List sg_z := [(267, [(0, .inr (.inl [122])), (2, .inl (false, (1, .ofNat 1, .ofNat 0))), (3, .inl (false, (2, .ofNat 1, .ofNat 0))), (4, .inl (false, (3, .ofNat 1, .ofNat 0))), (5, .inl (false, (4, .ofNat 1, .ofNat 0))), (6, .inl (false, (5, .ofNat 1, .ofNat 0))), (7, .inl (false, (6, .ofNat 1, .ofNat 0))), (8, .inl (false, (7, .ofNat 1, .ofNat 0))), (9, .inl (false, (0, .ofNat 0, .ofNat 0)))], [], [(2, 3, (8, .ofNat 1, .ofNat 0), (9, .ofNat 1, .ofNat 0), (0, .ofNat 0, .ofNat 0)), (0, 122, (0, .ofNat 0, .ofNat 0), (9, .ofNat 1, .ofNat 0), (0, .ofNat 0, .ofNat 0))], [(1, [(.ofNat 0, .ofNat 4)]), (2, [(.ofNat 0, .ofNat 150)]), (3, [(.ofNat 0, .ofNat 8)]), (4, [(.ofNat 0, .ofNat 1000000)]), (5, [(.ofNat 0, .ofNat 16)]), (6, [(.negSucc 1000003, .ofNat 1000004)]), (7, [(.negSucc 1000003, .ofNat 1000004)]), (8, [(.ofNat 0, .ofNat 8)]), (9, [(.ofNat 0, .ofNat 8)])], [], []),
  (267, [(0, .inr (.inl [122])), (2, .inl (false, (1, .ofNat 1, .ofNat 0))), (3, .inl (false, (2, .ofNat 1, .ofNat 0))), (4, .inl (false, (3, .ofNat 1, .ofNat 0))), (5, .inl (false, (4, .ofNat 1, .ofNat 0))), (6, .inl (false, (5, .ofNat 1, .ofNat 0))), (7, .inl (false, (6, .ofNat 1, .ofNat 0))), (8, .inl (false, (7, .ofNat 1, .ofNat 0))), (9, .inl (false, (0, .ofNat 0, .ofNat 0)))], [], [(2, 3, (8, .ofNat 1, .ofNat 0), (10, .ofNat 1, .ofNat 0), (0, .ofNat 0, .ofNat 0)), (0, 156, (2, .ofNat 1, .ofNat 40), (10, .ofNat 1, .ofNat 0), (0, .ofNat 0, .ofNat 0)), (2, 2, (8, .ofNat 1, .ofNat 0), (9, .ofNat 1, .ofNat 0), (0, .ofNat 0, .ofNat 0)), (0, 122, (0, .ofNat 0, .ofNat 0), (9, .ofNat 1, .ofNat 0), (0, .ofNat 0, .ofNat 0))], [(1, [(.ofNat 0, .ofNat 4)]), (2, [(.ofNat 0, .ofNat 150)]), (3, [(.ofNat 0, .ofNat 8)]), (4, [(.ofNat 0, .ofNat 1000000)]), (5, [(.ofNat 0, .ofNat 16)]), (6, [(.negSucc 1000003, .ofNat 1000004)]), (7, [(.negSucc 1000003, .ofNat 1000004)]), (8, [(.ofNat 0, .ofNat 7)]), (9, [(.ofNat 1, .ofNat 8)]), (10, [(.negSucc 3, .ofNat 7)])], [], []),
  (146, [(0, .inr (.inl [122])), (2, .inl (false, (1, .ofNat 1, .ofNat 0))), (3, .inl (false, (2, .ofNat 1, .ofNat 0))), (4, .inl (false, (3, .ofNat 1, .ofNat 0))), (5, .inl (false, (4, .ofNat 1, .ofNat 0))), (6, .inl (false, (5, .ofNat 1, .ofNat 0))), (7, .inl (false, (6, .ofNat 1, .ofNat 0))), (8, .inl (false, (7, .ofNat 1, .ofNat 0))), (9, .inl (false, (8, .ofNat 1, .ofNat 1))), (10, .inl (false, (14, .ofNat 1, .ofNat 0)))], [], [(2, 5, (14, .ofNat 1, .ofNat 0), (4, .ofNat 1, .ofNat 0), (0, .ofNat 0, .ofNat 0)), (2, 5, (14, .ofNat 1, .ofNat 0), (0, .ofNat 0, .ofNat 0), (0, .ofNat 0, .ofNat 0)), (0, 123, (8, .ofNat 1, .ofNat 0), (11, .ofNat 1, .ofNat 0), (0, .ofNat 0, .ofNat 0)), (0, 156, (12, .ofNat 1, .ofNat 0), (13, .ofNat 1, .ofNat 0), (0, .ofNat 0, .ofNat 0)), (2, 5, (11, .ofNat 1, .ofNat 0), (13, .ofNat 1, .ofNat 0), (0, .ofNat 0, .ofNat 0)), (0, 156, (12, .ofNat 1, .ofNat 0), (13, .ofNat 1, .ofNat 0), (0, .ofNat 0, .ofNat 0)), (0, 123, (8, .ofNat 1, .ofNat 0), (11, .ofNat 1, .ofNat 0), (0, .ofNat 0, .ofNat 0)), (2, 2, (8, .ofNat 1, .ofNat 0), (10, .ofNat 1, .ofNat 0), (0, .ofNat 0, .ofNat 0)), (0, 156, (2, .ofNat 1, .ofNat 40), (10, .ofNat 1, .ofNat 0), (0, .ofNat 0, .ofNat 0)), (2, 2, (8, .ofNat 1, .ofNat 0), (9, .ofNat 1, .ofNat 0), (0, .ofNat 0, .ofNat 0)), (0, 122, (0, .ofNat 0, .ofNat 0), (9, .ofNat 1, .ofNat 0), (0, .ofNat 0, .ofNat 0))], [(1, [(.ofNat 0, .ofNat 4)]), (2, [(.ofNat 0, .ofNat 150)]), (3, [(.ofNat 0, .ofNat 8)]), (4, [(.ofNat 0, .ofNat 1000000)]), (5, [(.ofNat 0, .ofNat 16)]), (6, [(.negSucc 1000003, .ofNat 1000004)]), (7, [(.negSucc 1000003, .ofNat 1000004)]), (8, [(.ofNat 0, .ofNat 7)]), (9, [(.ofNat 1, .ofNat 8)]), (10, [(.ofNat 1, .ofNat 1000000)]), (11, [(.ofNat 0, .ofNat 1000000)]), (12, [(.ofNat 0, .ofNat 157)]), (13, [(.ofNat 0, .ofNat 1000000)]), (14, [(.negSucc 999999, .ofNat 0)])], [((13, .ofNat 1, .ofNat 0), (11, .negSucc 0, .ofNat 0), (14, .ofNat 1, .ofNat 0)), ((2, .ofNat 1, .ofNat 0), (8, .ofNat 1, .ofNat 0), (12, .ofNat 1, .ofNat 0))], []),
  (146, [(0, .inr (.inl [122])), (2, .inl (false, (1, .ofNat 1, .ofNat 0))), (3, .inl (false, (2, .ofNat 1, .ofNat 0))), (4, .inl (false, (3, .ofNat 1, .ofNat 1))), (5, .inl (false, (4, .ofNat 1, .ofNat 0))), (6, .inl (false, (5, .ofNat 1, .ofNat 0))), (7, .inl (false, (6, .ofNat 1, .ofNat 0))), (8, .inl (false, (7, .ofNat 1, .ofNat 0))), (9, .inl (false, (8, .ofNat 1, .ofNat 1))), (10, .inl (false, (14, .ofNat 1, .ofNat 0)))], [], [(2, 5, (14, .ofNat 1, .ofNat 0), (4, .ofNat 1, .ofNat 0), (0, .ofNat 0, .ofNat 0)), (2, 4, (14, .ofNat 1, .ofNat 0), (0, .ofNat 0, .ofNat 0), (0, .ofNat 0, .ofNat 0)), (0, 123, (8, .ofNat 1, .ofNat 0), (11, .ofNat 1, .ofNat 0), (0, .ofNat 0, .ofNat 0)), (0, 156, (12, .ofNat 1, .ofNat 0), (13, .ofNat 1, .ofNat 0), (0, .ofNat 0, .ofNat 0)), (2, 5, (11, .ofNat 1, .ofNat 0), (13, .ofNat 1, .ofNat 0), (0, .ofNat 0, .ofNat 0)), (0, 156, (12, .ofNat 1, .ofNat 0), (13, .ofNat 1, .ofNat 0), (0, .ofNat 0, .ofNat 0)), (0, 123, (8, .ofNat 1, .ofNat 0), (11, .ofNat 1, .ofNat 0), (0, .ofNat 0, .ofNat 0)), (2, 2, (8, .ofNat 1, .ofNat 0), (10, .ofNat 1, .ofNat 0), (0, .ofNat 0, .ofNat 0)), (0, 156, (2, .ofNat 1, .ofNat 40), (10, .ofNat 1, .ofNat 0), (0, .ofNat 0, .ofNat 0)), (2, 2, (8, .ofNat 1, .ofNat 0), (9, .ofNat 1, .ofNat 0), (0, .ofNat 0, .ofNat 0)), (0, 122, (0, .ofNat 0, .ofNat 0), (9, .ofNat 1, .ofNat 0), (0, .ofNat 0, .ofNat 0))], [(1, [(.ofNat 0, .ofNat 4)]), (2, [(.ofNat 0, .ofNat 150)]), (3, [(.ofNat 0, .ofNat 8)]), (4, [(.ofNat 1, .ofNat 1000000)]), (5, [(.ofNat 0, .ofNat 16)]), (6, [(.negSucc 1000003, .ofNat 1000004)]), (7, [(.negSucc 1000003, .ofNat 1000004)]), (8, [(.ofNat 0, .ofNat 7)]), (9, [(.ofNat 1, .ofNat 8)]), (10, [(.ofNat 1, .ofNat 1000000)]), (11, [(.ofNat 0, .ofNat 1000000)]), (12, [(.ofNat 0, .ofNat 157)]), (13, [(.ofNat 0, .ofNat 1000000)]), (14, [(.ofNat 1, .ofNat 1000000)])], [((13, .ofNat 1, .ofNat 0), (11, .negSucc 0, .ofNat 0), (14, .ofNat 1, .ofNat 0)), ((2, .ofNat 1, .ofNat 0), (8, .ofNat 1, .ofNat 0), (12, .ofNat 1, .ofNat 0))], []),
  (146, [(0, .inr (.inl [122])), (2, .inl (false, (1, .ofNat 1, .ofNat 0))), (3, .inl (false, (2, .ofNat 1, .ofNat 0))), (4, .inl (false, (3, .ofNat 1, .ofNat 1))), (5, .inl (false, (14, .ofNat 1, .ofNat 0))), (6, .inl (false, (5, .ofNat 1, .ofNat 0))), (7, .inl (false, (6, .ofNat 1, .ofNat 0))), (8, .inl (false, (7, .ofNat 1, .ofNat 0))), (9, .inl (false, (8, .ofNat 1, .ofNat 1))), (10, .inl (false, (14, .ofNat 1, .ofNat 0)))], [], [(2, 4, (14, .ofNat 1, .ofNat 0), (4, .ofNat 1, .ofNat 0), (0, .ofNat 0, .ofNat 0)), (2, 4, (14, .ofNat 1, .ofNat 0), (0, .ofNat 0, .ofNat 0), (0, .ofNat 0, .ofNat 0)), (0, 123, (8, .ofNat 1, .ofNat 0), (11, .ofNat 1, .ofNat 0), (0, .ofNat 0, .ofNat 0)), (0, 156, (12, .ofNat 1, .ofNat 0), (13, .ofNat 1, .ofNat 0), (0, .ofNat 0, .ofNat 0)), (2, 5, (11, .ofNat 1, .ofNat 0), (13, .ofNat 1, .ofNat 0), (0, .ofNat 0, .ofNat 0)), (0, 156, (12, .ofNat 1, .ofNat 0), (13, .ofNat 1, .ofNat 0), (0, .ofNat 0, .ofNat 0)), (0, 123, (8, .ofNat 1, .ofNat 0), (11, .ofNat 1, .ofNat 0), (0, .ofNat 0, .ofNat 0)), (2, 2, (8, .ofNat 1, .ofNat 0), (10, .ofNat 1, .ofNat 0), (0, .ofNat 0, .ofNat 0)), (0, 156, (2, .ofNat 1, .ofNat 40), (10, .ofNat 1, .ofNat 0), (0, .ofNat 0, .ofNat 0)), (2, 2, (8, .ofNat 1, .ofNat 0), (9, .ofNat 1, .ofNat 0), (0, .ofNat 0, .ofNat 0)), (0, 122, (0, .ofNat 0, .ofNat 0), (9, .ofNat 1, .ofNat 0), (0, .ofNat 0, .ofNat 0))], [(1, [(.ofNat 0, .ofNat 4)]), (2, [(.ofNat 0, .ofNat 150)]), (3, [(.ofNat 0, .ofNat 8)]), (4, [(.ofNat 0, .ofNat 999999)]), (5, [(.ofNat 0, .ofNat 16)]), (6, [(.negSucc 1000003, .ofNat 1000004)]), (7, [(.negSucc 1000003, .ofNat 1000004)]), (8, [(.ofNat 0, .ofNat 7)]), (9, [(.ofNat 1, .ofNat 8)]), (10, [(.ofNat 1, .ofNat 1000000)]), (11, [(.ofNat 0, .ofNat 1000000)]), (12, [(.ofNat 0, .ofNat 157)]), (13, [(.ofNat 0, .ofNat 1000000)]), (14, [(.ofNat 1, .ofNat 1000000)])], [((13, .ofNat 1, .ofNat 0), (11, .negSucc 0, .ofNat 0), (14, .ofNat 1, .ofNat 0)), ((2, .ofNat 1, .ofNat 0), (8, .ofNat 1, .ofNat 0), (12, .ofNat 1, .ofNat 0))], []),
  (146, [(0, .inr (.inl [122])), (2, .inl (false, (1, .ofNat 1, .ofNat 0))), (3, .inl (false, (2, .ofNat 1, .ofNat 0))), (4, .inl (false, (3, .ofNat 1, .ofNat 0))), (5, .inl (false, (4, .ofNat 1, .ofNat 0))), (6, .inl (false, (5, .ofNat 1, .ofNat 0))), (7, .inl (false, (6, .ofNat 1, .ofNat 0))), (8, .inl (false, (7, .ofNat 1, .ofNat 0))), (9, .inl (false, (8, .ofNat 1, .ofNat 1))), (10, .inl (false, (14, .ofNat 1, .ofNat 0)))], [], [(2, 5, (14, .ofNat 1, .ofNat 0), (4, .ofNat 1, .ofNat 0), (0, .ofNat 0, .ofNat 0)), (2, 5, (14, .ofNat 1, .ofNat 0), (0, .ofNat 0, .ofNat 0), (0, .ofNat 0, .ofNat 0)), (0, 156, (12, .ofNat 1, .ofNat 0), (13, .ofNat 1, .ofNat 0), (0, .ofNat 0, .ofNat 0)), (0, 123, (8, .ofNat 1, .ofNat 0), (11, .ofNat 1, .ofNat 0), (0, .ofNat 0, .ofNat 0)), (2, 4, (11, .ofNat 1, .ofNat 0), (13, .ofNat 1, .ofNat 0), (0, .ofNat 0, .ofNat 0)), (0, 156, (12, .ofNat 1, .ofNat 0), (13, .ofNat 1, .ofNat 0), (0, .ofNat 0, .ofNat 0)), (0, 123, (8, .ofNat 1, .ofNat 0), (11, .ofNat 1, .ofNat 0), (0, .ofNat 0, .ofNat 0)), (2, 2, (8, .ofNat 1, .ofNat 0), (10, .ofNat 1, .ofNat 0), (0, .ofNat 0, .ofNat 0)), (0, 156, (2, .ofNat 1, .ofNat 40), (10, .ofNat 1, .ofNat 0), (0, .ofNat 0, .ofNat 0)), (2, 2, (8, .ofNat 1, .ofNat 0), (9, .ofNat 1, .ofNat 0), (0, .ofNat 0, .ofNat 0)), (0, 122, (0, .ofNat 0, .ofNat 0), (9, .ofNat 1, .ofNat 0), (0, .ofNat 0, .ofNat 0))], [(1, [(.ofNat 0, .ofNat 4)]), (2, [(.ofNat 0, .ofNat 150)]), (3, [(.ofNat 0, .ofNat 8)]), (4, [(.ofNat 0, .ofNat 1000000)]), (5, [(.ofNat 0, .ofNat 16)]), (6, [(.negSucc 1000003, .ofNat 1000004)]), (7, [(.negSucc 1000003, .ofNat 1000004)]), (8, [(.ofNat 0, .ofNat 7)]), (9, [(.ofNat 1, .ofNat 8)]), (10, [(.ofNat 1, .ofNat 1000000)]), (11, [(.ofNat 0, .ofNat 1000000)]), (12, [(.ofNat 0, .ofNat 157)]), (13, [(.negSucc 3, .ofNat 999999)]), (14, [(.negSucc 999998, .ofNat 0)])], [((11, .ofNat 1, .ofNat 0), (13, .negSucc 0, .ofNat 0), (14, .ofNat 1, .ofNat 0)), ((2, .ofNat 1, .ofNat 0), (8, .ofNat 1, .ofNat 0), (12, .ofNat 1, .ofNat 0))], []),
  (146, [(0, .inr (.inl [122])), (2, .inl (false, (1, .ofNat 1, .ofNat 0))), (3, .inl (false, (2, .ofNat 1, .ofNat 0))), (4, .inl (false, (3, .ofNat 1, .ofNat 1))), (5, .inl (false, (4, .ofNat 1, .ofNat 0))), (6, .inl (false, (5, .ofNat 1, .ofNat 0))), (7, .inl (false, (6, .ofNat 1, .ofNat 0))), (8, .inl (false, (7, .ofNat 1, .ofNat 0))), (9, .inl (false, (8, .ofNat 1, .ofNat 1))), (10, .inl (false, (14, .ofNat 1, .ofNat 0)))], [], [(2, 5, (14, .ofNat 1, .ofNat 0), (4, .ofNat 1, .ofNat 0), (0, .ofNat 0, .ofNat 0)), (2, 4, (14, .ofNat 1, .ofNat 0), (0, .ofNat 0, .ofNat 0), (0, .ofNat 0, .ofNat 0)), (0, 156, (12, .ofNat 1, .ofNat 0), (13, .ofNat 1, .ofNat 0), (0, .ofNat 0, .ofNat 0)), (0, 123, (8, .ofNat 1, .ofNat 0), (11, .ofNat 1, .ofNat 0), (0, .ofNat 0, .ofNat 0)), (2, 4, (11, .ofNat 1, .ofNat 0), (13, .ofNat 1, .ofNat 0), (0, .ofNat 0, .ofNat 0)), (0, 156, (12, .ofNat 1, .ofNat 0), (13, .ofNat 1, .ofNat 0), (0, .ofNat 0, .ofNat 0)), (0, 123, (8, .ofNat 1, .ofNat 0), (11, .ofNat 1, .ofNat 0), (0, .ofNat 0, .ofNat 0)), (2, 2, (8, .ofNat 1, .ofNat 0), (10, .ofNat 1, .ofNat 0), (0, .ofNat 0, .ofNat 0)), (0, 156, (2, .ofNat 1, .ofNat 40), (10, .ofNat 1, .ofNat 0), (0, .ofNat 0, .ofNat 0)), (2, 2, (8, .ofNat 1, .ofNat 0), (9, .ofNat 1, .ofNat 0), (0, .ofNat 0, .ofNat 0)), (0, 122, (0, .ofNat 0, .ofNat 0), (9, .ofNat 1, .ofNat 0), (0, .ofNat 0, .ofNat 0))], [(1, [(.ofNat 0, .ofNat 4)]), (2, [(.ofNat 0, .ofNat 150)]), (3, [(.ofNat 0, .ofNat 8)]), (4, [(.ofNat 1, .ofNat 1000000)]), (5, [(.ofNat 0, .ofNat 16)]), (6, [(.negSucc 1000003, .ofNat 1000004)]), (7, [(.negSucc 1000003, .ofNat 1000004)]), (8, [(.ofNat 0, .ofNat 7)]), (9, [(.ofNat 1, .ofNat 8)]), (10, [(.ofNat 1, .ofNat 1000000)]), (11, [(.ofNat 0, .ofNat 1000000)]), (12, [(.ofNat 0, .ofNat 157)]), (13, [(.negSucc 3, .ofNat 999999)]), (14, [(.ofNat 1, .ofNat 1000000)])], [((11, .ofNat 1, .ofNat 0), (13, .negSucc 0, .ofNat 0), (14, .ofNat 1, .ofNat 0)), ((2, .ofNat 1, .ofNat 0), (8, .ofNat 1, .ofNat 0), (12, .ofNat 1, .ofNat 0))], []),
  (146, [(0, .inr (.inl [122])), (2, .inl (false, (1, .ofNat 1, .ofNat 0))), (3, .inl (false, (2, .ofNat 1, .ofNat 0))), (4, .inl (false, (3, .ofNat 1, .ofNat 1))), (5, .inl (false, (14, .ofNat 1, .ofNat 0))), (6, .inl (false, (5, .ofNat 1, .ofNat 0))), (7, .inl (false, (6, .ofNat 1, .ofNat 0))), (8, .inl (false, (7, .ofNat 1, .ofNat 0))), (9, .inl (false, (8, .ofNat 1, .ofNat 1))), (10, .inl (false, (14, .ofNat 1, .ofNat 0)))], [], [(2, 4, (14, .ofNat 1, .ofNat 0), (4, .ofNat 1, .ofNat 0), (0, .ofNat 0, .ofNat 0)), (2, 4, (14, .ofNat 1, .ofNat 0), (0, .ofNat 0, .ofNat 0), (0, .ofNat 0, .ofNat 0)), (0, 156, (12, .ofNat 1, .ofNat 0), (13, .ofNat 1, .ofNat 0), (0, .ofNat 0, .ofNat 0)), (0, 123, (8, .ofNat 1, .ofNat 0), (11, .ofNat 1, .ofNat 0), (0, .ofNat 0, .ofNat 0)), (2, 4, (11, .ofNat 1, .ofNat 0), (13, .ofNat 1, .ofNat 0), (0, .ofNat 0, .ofNat 0)), (0, 156, (12, .ofNat 1, .ofNat 0), (13, .ofNat 1, .ofNat 0), (0, .ofNat 0, .ofNat 0)), (0, 123, (8, .ofNat 1, .ofNat 0), (11, .ofNat 1, .ofNat 0), (0, .ofNat 0, .ofNat 0)), (2, 2, (8, .ofNat 1, .ofNat 0), (10, .ofNat 1, .ofNat 0), (0, .ofNat 0, .ofNat 0)), (0, 156, (2, .ofNat 1, .ofNat 40), (10, .ofNat 1, .ofNat 0), (0, .ofNat 0, .ofNat 0)), (2, 2, (8, .ofNat 1, .ofNat 0), (9, .ofNat 1, .ofNat 0), (0, .ofNat 0, .ofNat 0)), (0, 122, (0, .ofNat 0, .ofNat 0), (9, .ofNat 1, .ofNat 0), (0, .ofNat 0, .ofNat 0))], [(1, [(.ofNat 0, .ofNat 4)]), (2, [(.ofNat 0, .ofNat 150)]), (3, [(.ofNat 0, .ofNat 8)]), (4, [(.ofNat 0, .ofNat 1000000)]), (5, [(.ofNat 0, .ofNat 16)]), (6, [(.negSucc 1000003, .ofNat 1000004)]), (7, [(.negSucc 1000003, .ofNat 1000004)]), (8, [(.ofNat 0, .ofNat 7)]), (9, [(.ofNat 1, .ofNat 8)]), (10, [(.ofNat 1, .ofNat 1000000)]), (11, [(.ofNat 0, .ofNat 1000000)]), (12, [(.ofNat 0, .ofNat 157)]), (13, [(.negSucc 3, .ofNat 999999)]), (14, [(.ofNat 1, .ofNat 1000004)])], [((11, .ofNat 1, .ofNat 0), (13, .negSucc 0, .ofNat 0), (14, .ofNat 1, .ofNat 0)), ((2, .ofNat 1, .ofNat 0), (8, .ofNat 1, .ofNat 0), (12, .ofNat 1, .ofNat 0))], [])]
set_option maxRecDepth 1000000 in
theorem sg_cm_m1_g : sg_go [] [145, 266] 3000 245 145 0 9 [(0, [(.ofNat 0, .ofNat 0)]), (1, [(.ofNat 0, .ofNat 4)]), (2, [(.ofNat 0, .ofNat 150)]), (3, [(.ofNat 0, .ofNat 8)]), (4, [(.ofNat 0, .ofNat 1000000)]), (5, [(.ofNat 0, .ofNat 16)]), (6, [(.negSucc 1000003, .ofNat 1000004)]), (7, [(.negSucc 1000003, .ofNat 1000004)]), (8, [(.ofNat 0, .ofNat 8)])] [] [] [] [(0, .inr (.inl [122])), (2, .inl (false, (1, .ofNat 1, .ofNat 0))), (3, .inl (false, (2, .ofNat 1, .ofNat 0))), (4, .inl (false, (3, .ofNat 1, .ofNat 0))), (5, .inl (false, (4, .ofNat 1, .ofNat 0))), (6, .inl (false, (5, .ofNat 1, .ofNat 0))), (7, .inl (false, (6, .ofNat 1, .ofNat 0))), (8, .inl (false, (7, .ofNat 1, .ofNat 0))), (9, .inl (false, (8, .ofNat 1, .ofNat 0)))] [] [] sg_cm_m1_Z = true := by decide +kernel
set_option maxRecDepth 100000 in
theorem sg_cm_m1 {Q : Option Value × am_S → Prop} {d : Nat} {S : am_S} {L : am_L} {x1 x2 x3 x4 x5 x6 x7 x8 : Int} (hd : 0 ≤ d) (hP : ax_P0 none S) (l0 : lc L 0 122) (l2 : li L 2 x1) (l3 : li L 3 x2) (l4 : li L 4 x3) (l5 : li L 5 x4) (l6 : li L 6 x5) (l7 : li L 7 x6) (l8 : li L 8 x7) (l9 : li L 9 x8) (b1 : (0 ≤ x1 ∧ x1 ≤ 4)) (b2 : (0 ≤ x2 ∧ x2 ≤ 150)) (b3 : (0 ≤ x3 ∧ x3 ≤ 8)) (b4 : (0 ≤ x4 ∧ x4 ≤ 1000000)) (b5 : (0 ≤ x5 ∧ x5 ≤ 16)) (b6 : ((-1000004) ≤ x6 ∧ x6 ≤ 1000004)) (b7 : ((-1000004) ≤ x7 ∧ x7 ≤ 1000004)) (b8 : (0 ≤ x8 ∧ x8 ≤ 8))
    (k0 : ∀ (x9 : Int) (L' : am_L), rd S 122 0 = x9 → x9 ≤ x8 → (0 ≤ x1 ∧ x1 ≤ 4) → (0 ≤ x2 ∧ x2 ≤ 150) → (0 ≤ x3 ∧ x3 ≤ 8) → (0 ≤ x4 ∧ x4 ≤ 1000000) → (0 ≤ x5 ∧ x5 ≤ 16) → ((-1000004) ≤ x6 ∧ x6 ≤ 1000004) → ((-1000004) ≤ x7 ∧ x7 ≤ 1000004) → (0 ≤ x8 ∧ x8 ≤ 8) → (0 ≤ x9 ∧ x9 ≤ 8) → lc L' 0 122 → li L' 2 x1 → li L' 3 x2 → li L' 4 x3 → li L' 5 x4 → li L' 6 x5 → li L' 7 x6 → li L' 8 x7 → li L' 9 0 → am_V none d 245 266 L' ([]) S Q)
    (k1 : ∀ (x9 x10 : Int) (L' : am_L), rd S 122 0 = x9 → x8 < x9 → rd S 156 (x2 + 40) = x10 → x10 ≤ x8 → (0 ≤ x1 ∧ x1 ≤ 4) → (0 ≤ x2 ∧ x2 ≤ 150) → (0 ≤ x3 ∧ x3 ≤ 8) → (0 ≤ x4 ∧ x4 ≤ 1000000) → (0 ≤ x5 ∧ x5 ≤ 16) → ((-1000004) ≤ x6 ∧ x6 ≤ 1000004) → ((-1000004) ≤ x7 ∧ x7 ≤ 1000004) → (0 ≤ x8 ∧ x8 ≤ 7) → (1 ≤ x9 ∧ x9 ≤ 8) → ((-4) ≤ x10 ∧ x10 ≤ 7) → lc L' 0 122 → li L' 2 x1 → li L' 3 x2 → li L' 4 x3 → li L' 5 x4 → li L' 6 x5 → li L' 7 x6 → li L' 8 x7 → li L' 9 0 → am_V none d 245 266 L' ([]) S Q)
    (k2 : ∀ (x9 x10 x11 x12 x13 x14 : Int) (L' : am_L), rd S 122 0 = x9 → x8 < x9 → rd S 156 (x2 + 40) = x10 → x8 < x10 → rd S 123 x8 = x11 → rd S 156 x12 = x13 → x11 ≤ x13 → x14 ≤ 0 → x14 ≤ x4 → (0 ≤ x1 ∧ x1 ≤ 4) → (0 ≤ x2 ∧ x2 ≤ 150) → (0 ≤ x3 ∧ x3 ≤ 8) → (0 ≤ x4 ∧ x4 ≤ 1000000) → (0 ≤ x5 ∧ x5 ≤ 16) → ((-1000004) ≤ x6 ∧ x6 ≤ 1000004) → ((-1000004) ≤ x7 ∧ x7 ≤ 1000004) → (0 ≤ x8 ∧ x8 ≤ 7) → (1 ≤ x9 ∧ x9 ≤ 8) → (1 ≤ x10 ∧ x10 ≤ 1000000) → (0 ≤ x11 ∧ x11 ≤ 1000000) → (0 ≤ x12 ∧ x12 ≤ 157) → (0 ≤ x13 ∧ x13 ≤ 1000000) → ((-1000000) ≤ x14 ∧ x14 ≤ 0) → x13 + ((-1) * x11 + 0) = x14 → x2 + x8 = x12 → lc L' 0 122 → li L' 2 x1 → li L' 3 x2 → li L' 4 x3 → li L' 5 x4 → li L' 6 x5 → li L' 7 x6 → li L' 8 x7 → li L' 9 (x8 + 1) → li L' 10 x14 → am_V none d 245 145 L' ([]) S Q)
    (k3 : ∀ (x9 x10 x11 x12 x13 x14 : Int) (L' : am_L), rd S 122 0 = x9 → x8 < x9 → rd S 156 (x2 + 40) = x10 → x8 < x10 → rd S 123 x8 = x11 → rd S 156 x12 = x13 → x11 ≤ x13 → 0 < x14 → x14 ≤ x4 → (0 ≤ x1 ∧ x1 ≤ 4) → (0 ≤ x2 ∧ x2 ≤ 150) → (0 ≤ x3 ∧ x3 ≤ 8) → (1 ≤ x4 ∧ x4 ≤ 1000000) → (0 ≤ x5 ∧ x5 ≤ 16) → ((-1000004) ≤ x6 ∧ x6 ≤ 1000004) → ((-1000004) ≤ x7 ∧ x7 ≤ 1000004) → (0 ≤ x8 ∧ x8 ≤ 7) → (1 ≤ x9 ∧ x9 ≤ 8) → (1 ≤ x10 ∧ x10 ≤ 1000000) → (0 ≤ x11 ∧ x11 ≤ 1000000) → (0 ≤ x12 ∧ x12 ≤ 157) → (0 ≤ x13 ∧ x13 ≤ 1000000) → (1 ≤ x14 ∧ x14 ≤ 1000000) → x13 + ((-1) * x11 + 0) = x14 → x2 + x8 = x12 → lc L' 0 122 → li L' 2 x1 → li L' 3 x2 → li L' 4 (x3 + 1) → li L' 5 x4 → li L' 6 x5 → li L' 7 x6 → li L' 8 x7 → li L' 9 (x8 + 1) → li L' 10 x14 → am_V none d 245 145 L' ([]) S Q)
    (k4 : ∀ (x9 x10 x11 x12 x13 x14 : Int) (L' : am_L), rd S 122 0 = x9 → x8 < x9 → rd S 156 (x2 + 40) = x10 → x8 < x10 → rd S 123 x8 = x11 → rd S 156 x12 = x13 → x11 ≤ x13 → 0 < x14 → x4 < x14 → (0 ≤ x1 ∧ x1 ≤ 4) → (0 ≤ x2 ∧ x2 ≤ 150) → (0 ≤ x3 ∧ x3 ≤ 8) → (0 ≤ x4 ∧ x4 ≤ 999999) → (0 ≤ x5 ∧ x5 ≤ 16) → ((-1000004) ≤ x6 ∧ x6 ≤ 1000004) → ((-1000004) ≤ x7 ∧ x7 ≤ 1000004) → (0 ≤ x8 ∧ x8 ≤ 7) → (1 ≤ x9 ∧ x9 ≤ 8) → (1 ≤ x10 ∧ x10 ≤ 1000000) → (0 ≤ x11 ∧ x11 ≤ 1000000) → (0 ≤ x12 ∧ x12 ≤ 157) → (0 ≤ x13 ∧ x13 ≤ 1000000) → (1 ≤ x14 ∧ x14 ≤ 1000000) → x13 + ((-1) * x11 + 0) = x14 → x2 + x8 = x12 → lc L' 0 122 → li L' 2 x1 → li L' 3 x2 → li L' 4 (x3 + 1) → li L' 5 x14 → li L' 6 x5 → li L' 7 x6 → li L' 8 x7 → li L' 9 (x8 + 1) → li L' 10 x14 → am_V none d 245 145 L' ([]) S Q)
    (k5 : ∀ (x9 x10 x11 x12 x13 x14 : Int) (L' : am_L), rd S 122 0 = x9 → x8 < x9 → rd S 156 (x2 + 40) = x10 → x8 < x10 → rd S 123 x8 = x11 → rd S 156 x12 = x13 → x13 < x11 → x14 ≤ 0 → x14 ≤ x4 → (0 ≤ x1 ∧ x1 ≤ 4) → (0 ≤ x2 ∧ x2 ≤ 150) → (0 ≤ x3 ∧ x3 ≤ 8) → (0 ≤ x4 ∧ x4 ≤ 1000000) → (0 ≤ x5 ∧ x5 ≤ 16) → ((-1000004) ≤ x6 ∧ x6 ≤ 1000004) → ((-1000004) ≤ x7 ∧ x7 ≤ 1000004) → (0 ≤ x8 ∧ x8 ≤ 7) → (1 ≤ x9 ∧ x9 ≤ 8) → (1 ≤ x10 ∧ x10 ≤ 1000000) → (0 ≤ x11 ∧ x11 ≤ 1000000) → (0 ≤ x12 ∧ x12 ≤ 157) → ((-4) ≤ x13 ∧ x13 ≤ 999999) → ((-999999) ≤ x14 ∧ x14 ≤ 0) → x11 + ((-1) * x13 + 0) = x14 → x2 + x8 = x12 → lc L' 0 122 → li L' 2 x1 → li L' 3 x2 → li L' 4 x3 → li L' 5 x4 → li L' 6 x5 → li L' 7 x6 → li L' 8 x7 → li L' 9 (x8 + 1) → li L' 10 x14 → am_V none d 245 145 L' ([]) S Q)
    (k6 : ∀ (x9 x10 x11 x12 x13 x14 : Int) (L' : am_L), rd S 122 0 = x9 → x8 < x9 → rd S 156 (x2 + 40) = x10 → x8 < x10 → rd S 123 x8 = x11 → rd S 156 x12 = x13 → x13 < x11 → 0 < x14 → x14 ≤ x4 → (0 ≤ x1 ∧ x1 ≤ 4) → (0 ≤ x2 ∧ x2 ≤ 150) → (0 ≤ x3 ∧ x3 ≤ 8) → (1 ≤ x4 ∧ x4 ≤ 1000000) → (0 ≤ x5 ∧ x5 ≤ 16) → ((-1000004) ≤ x6 ∧ x6 ≤ 1000004) → ((-1000004) ≤ x7 ∧ x7 ≤ 1000004) → (0 ≤ x8 ∧ x8 ≤ 7) → (1 ≤ x9 ∧ x9 ≤ 8) → (1 ≤ x10 ∧ x10 ≤ 1000000) → (0 ≤ x11 ∧ x11 ≤ 1000000) → (0 ≤ x12 ∧ x12 ≤ 157) → ((-4) ≤ x13 ∧ x13 ≤ 999999) → (1 ≤ x14 ∧ x14 ≤ 1000000) → x11 + ((-1) * x13 + 0) = x14 → x2 + x8 = x12 → lc L' 0 122 → li L' 2 x1 → li L' 3 x2 → li L' 4 (x3 + 1) → li L' 5 x4 → li L' 6 x5 → li L' 7 x6 → li L' 8 x7 → li L' 9 (x8 + 1) → li L' 10 x14 → am_V none d 245 145 L' ([]) S Q)
    (k7 : ∀ (x9 x10 x11 x12 x13 x14 : Int) (L' : am_L), rd S 122 0 = x9 → x8 < x9 → rd S 156 (x2 + 40) = x10 → x8 < x10 → rd S 123 x8 = x11 → rd S 156 x12 = x13 → x13 < x11 → 0 < x14 → x4 < x14 → (0 ≤ x1 ∧ x1 ≤ 4) → (0 ≤ x2 ∧ x2 ≤ 150) → (0 ≤ x3 ∧ x3 ≤ 8) → (0 ≤ x4 ∧ x4 ≤ 1000000) → (0 ≤ x5 ∧ x5 ≤ 16) → ((-1000004) ≤ x6 ∧ x6 ≤ 1000004) → ((-1000004) ≤ x7 ∧ x7 ≤ 1000004) → (0 ≤ x8 ∧ x8 ≤ 7) → (1 ≤ x9 ∧ x9 ≤ 8) → (1 ≤ x10 ∧ x10 ≤ 1000000) → (0 ≤ x11 ∧ x11 ≤ 1000000) → (0 ≤ x12 ∧ x12 ≤ 157) → ((-4) ≤ x13 ∧ x13 ≤ 999999) → (1 ≤ x14 ∧ x14 ≤ 1000004) → x11 + ((-1) * x13 + 0) = x14 → x2 + x8 = x12 → lc L' 0 122 → li L' 2 x1 → li L' 3 x2 → li L' 4 (x3 + 1) → li L' 5 x14 → li L' 6 x5 → li L' 7 x6 → li L' 8 x7 → li L' 9 (x8 + 1) → li L' 10 x14 → am_V none d 245 145 L' ([]) S Q) : am_V none d 245 145 L ([]) S Q := by
  refine sg_use sg_cm_m1_g hd hP (sg_xs [0, x1, x2, x3, x4, x5, x6, x7, x8]) ⟨⟨Int.le_refl 0, Int.le_refl 0⟩, b1, b2, b3, b4, b5, b6, b7, b8, trivial⟩ trivial trivial trivial ⟨l0, l2, l3, l4, l5, l6, l7, l8, l9, trivial⟩ trivial ?_
  intro z hz x' L' st' S' hx hP' hW hL' hs' hJ hE' hT' hD'
  have q1 : x' 1 = x1 := hx 1 (by decide)
  subst q1
  have q2 : x' 2 = x2 := hx 2 (by decide)
  subst q2
  have q3 : x' 3 = x3 := hx 3 (by decide)
  subst q3
  have q4 : x' 4 = x4 := hx 4 (by decide)
  subst q4
  have q5 : x' 5 = x5 := hx 5 (by decide)
  subst q5
  have q6 : x' 6 = x6 := hx 6 (by decide)
  subst q6
  have q7 : x' 7 = x7 := hx 7 (by decide)
  subst q7
  have q8 : x' 8 = x8 := hx 8 (by decide)
  subst q8
  have eS : S' = S := hW.1 rfl
  subst eS
  simp only [sg_cm_m1_Z, List.mem_cons, List.not_mem_nil, or_false] at hz
  rcases hz with rfl | rfl | rfl | rfl | rfl | rfl | rfl | rfl
  · obtain ⟨f0, f1, hσ⟩ := hJ
    obtain ⟨e0, e1, e2, e3, e4, e5, e6, e7, e8, -⟩ := hE'
    obtain ⟨p0, p1, p2, p3, p4, p5, p6, p7, p8, -⟩ := hL'
    obtain rfl := sg_tn hs'
    exact k0 (x' 9) L' f0 f1 e0 e1 e2 e3 e4 e5 e6 e7 e8 p0 p1 p2 p3 p4 p5 p6 p7 p8
  · obtain ⟨f0, f1, f2, f3, hσ⟩ := hJ
    obtain ⟨e0, e1, e2, e3, e4, e5, e6, e7, e8, e9, -⟩ := hE'
    obtain ⟨p0, p1, p2, p3, p4, p5, p6, p7, p8, -⟩ := hL'
    obtain rfl := sg_tn hs'
    exact k1 (x' 9) (x' 10) L' f0 f1 f2 f3 e0 e1 e2 e3 e4 e5 e6 e7 e8 e9 p0 p1 p2 p3 p4 p5 p6 p7 p8
  · obtain ⟨f0, f1, f2, f3, f4, f5, f6, -, -, f9, f10, hσ⟩ := hJ
    obtain ⟨e0, e1, e2, e3, e4, e5, e6, e7, e8, e9, e10, e11, e12, e13, -⟩ := hE'
    obtain ⟨t0, t1, -⟩ := hT'
    obtain ⟨p0, p1, p2, p3, p4, p5, p6, p7, p8, p9, -⟩ := hL'
    obtain rfl := sg_tn hs'
    exact k2 (x' 9) (x' 10) (x' 11) (x' 12) (x' 13) (x' 14) L' f0 f1 f2 f3 f4 f5 f6 f9 f10 e0 e1 e2 e3 e4 e5 e6 e7 e8 e9 e10 e11 e12 e13 t0 t1 p0 p1 p2 p3 p4 p5 p6 p7 p8 p9
  · obtain ⟨f0, f1, f2, f3, f4, f5, f6, -, -, f9, f10, hσ⟩ := hJ
    obtain ⟨e0, e1, e2, e3, e4, e5, e6, e7, e8, e9, e10, e11, e12, e13, -⟩ := hE'
    obtain ⟨t0, t1, -⟩ := hT'
    obtain ⟨p0, p1, p2, p3, p4, p5, p6, p7, p8, p9, -⟩ := hL'
    obtain rfl := sg_tn hs'
    exact k3 (x' 9) (x' 10) (x' 11) (x' 12) (x' 13) (x' 14) L' f0 f1 f2 f3 f4 f5 f6 f9 f10 e0 e1 e2 e3 e4 e5 e6 e7 e8 e9 e10 e11 e12 e13 t0 t1 p0 p1 p2 p3 p4 p5 p6 p7 p8 p9
  · obtain ⟨f0, f1, f2, f3, f4, f5, f6, -, -, f9, f10, hσ⟩ := hJ
    obtain ⟨e0, e1, e2, e3, e4, e5, e6, e7, e8, e9, e10, e11, e12, e13, -⟩ := hE'
    obtain ⟨t0, t1, -⟩ := hT'
    obtain ⟨p0, p1, p2, p3, p4, p5, p6, p7, p8, p9, -⟩ := hL'
    obtain rfl := sg_tn hs'
    exact k4 (x' 9) (x' 10) (x' 11) (x' 12) (x' 13) (x' 14) L' f0 f1 f2 f3 f4 f5 f6 f9 f10 e0 e1 e2 e3 e4 e5 e6 e7 e8 e9 e10 e11 e12 e13 t0 t1 p0 p1 p2 p3 p4 p5 p6 p7 p8 p9
  · obtain ⟨f0, f1, f2, f3, f4, f5, f6, -, -, f9, f10, hσ⟩ := hJ
    obtain ⟨e0, e1, e2, e3, e4, e5, e6, e7, e8, e9, e10, e11, e12, e13, -⟩ := hE'
    obtain ⟨t0, t1, -⟩ := hT'
    obtain ⟨p0, p1, p2, p3, p4, p5, p6, p7, p8, p9, -⟩ := hL'
    obtain rfl := sg_tn hs'
    exact k5 (x' 9) (x' 10) (x' 11) (x' 12) (x' 13) (x' 14) L' f0 f1 f2 f3 f4 f5 f6 f9 f10 e0 e1 e2 e3 e4 e5 e6 e7 e8 e9 e10 e11 e12 e13 t0 t1 p0 p1 p2 p3 p4 p5 p6 p7 p8 p9
  · obtain ⟨f0, f1, f2, f3, f4, f5, f6, -, -, f9, f10, hσ⟩ := hJ
    obtain ⟨e0, e1, e2, e3, e4, e5, e6, e7, e8, e9, e10, e11, e12, e13, -⟩ := hE'
    obtain ⟨t0, t1, -⟩ := hT'
    obtain ⟨p0, p1, p2, p3, p4, p5, p6, p7, p8, p9, -⟩ := hL'
    obtain rfl := sg_tn hs'
    exact k6 (x' 9) (x' 10) (x' 11) (x' 12) (x' 13) (x' 14) L' f0 f1 f2 f3 f4 f5 f6 f9 f10 e0 e1 e2 e3 e4 e5 e6 e7 e8 e9 e10 e11 e12 e13 t0 t1 p0 p1 p2 p3 p4 p5 p6 p7 p8 p9
  · obtain ⟨f0, f1, f2, f3, f4, f5, f6, -, -, f9, f10, hσ⟩ := hJ
    obtain ⟨e0, e1, e2, e3, e4, e5, e6, e7, e8, e9, e10, e11, e12, e13, -⟩ := hE'
    obtain ⟨t0, t1, -⟩ := hT'
    obtain ⟨p0, p1, p2, p3, p4, p5, p6, p7, p8, p9, -⟩ := hL'
    obtain rfl := sg_tn hs'
    exact k7 (x' 9) (x' 10) (x' 11) (x' 12) (x' 13) (x' 14) L' f0 f1 f2 f3 f4 f5 f6 f9 f10 e0 e1 e2 e3 e4 e5 e6 e7 e8 e9 e10 e11 e12 e13 t0 t1 p0 p1 p2 p3 p4 p5 p6 p7 p8 p9
def sg_cm_m2_Z : List sg_z := [(350, [(0, .inr (.inl [122])), (2, .inl (false, (1, .ofNat 1, .ofNat 0))), (3, .inl (false, (2, .ofNat 1, .ofNat 0))), (4, .inl (false, (3, .ofNat 1, .ofNat 0))), (5, .inl (false, (4, .ofNat 1, .ofNat 0))), (6, .inl (false, (5, .ofNat 1, .ofNat 0))), (7, .inl (false, (6, .ofNat 1, .ofNat 0))), (8, .inl (false, (7, .ofNat 1, .ofNat 0))), (9, .inl (false, (8, .ofNat 1, .ofNat 0)))], [], [(2, 3, (8, .ofNat 1, .ofNat 0), (9, .ofNat 1, .ofNat 0), (0, .ofNat 0, .ofNat 0)), (0, 122, (0, .ofNat 0, .ofNat 5), (9, .ofNat 1, .ofNat 0), (0, .ofNat 0, .ofNat 0))], [(1, [(.ofNat 0, .ofNat 4)]), (2, [(.ofNat 0, .ofNat 150)]), (3, [(.ofNat 0, .ofNat 8)]), (4, [(.ofNat 0, .ofNat 1000000)]), (5, [(.ofNat 0, .ofNat 16)]), (6, [(.negSucc 1000003, .ofNat 1000004)]), (7, [(.negSucc 1000003, .ofNat 1000004)]), (8, [(.ofNat 0, .ofNat 16)]), (9, [(.ofNat 0, .ofNat 16)])], [], []),
  (350, [(0, .inr (.inl [122])), (2, .inl (false, (1, .ofNat 1, .ofNat 0))), (3, .inl (false, (2, .ofNat 1, .ofNat 0))), (4, .inl (false, (3, .ofNat 1, .ofNat 0))), (5, .inl (false, (4, .ofNat 1, .ofNat 0))), (6, .inl (false, (5, .ofNat 1, .ofNat 0))), (7, .inl (false, (6, .ofNat 1, .ofNat 0))), (8, .inl (false, (7, .ofNat 1, .ofNat 0))), (9, .inl (false, (8, .ofNat 1, .ofNat 0)))], [], [(2, 3, (8, .ofNat 1, .ofNat 0), (10, .ofNat 1, .ofNat 0), (0, .ofNat 0, .ofNat 0)), (0, 156, (2, .ofNat 1, .ofNat 41), (10, .ofNat 1, .ofNat 0), (0, .ofNat 0, .ofNat 0)), (2, 2, (8, .ofNat 1, .ofNat 0), (9, .ofNat 1, .ofNat 0), (0, .ofNat 0, .ofNat 0)), (0, 122, (0, .ofNat 0, .ofNat 5), (9, .ofNat 1, .ofNat 0), (0, .ofNat 0, .ofNat 0))], [(1, [(.ofNat 0, .ofNat 4)]), (2, [(.ofNat 0, .ofNat 150)]), (3, [(.ofNat 0, .ofNat 8)]), (4, [(.ofNat 0, .ofNat 1000000)]), (5, [(.ofNat 0, .ofNat 16)]), (6, [(.negSucc 1000003, .ofNat 1000004)]), (7, [(.negSucc 1000003, .ofNat 1000004)]), (8, [(.ofNat 0, .ofNat 15)]), (9, [(.ofNat 1, .ofNat 16)]), (10, [(.negSucc 3, .ofNat 15)])], [], []),
  (267, [(0, .inr (.inl [122])), (2, .inl (false, (1, .ofNat 1, .ofNat 0))), (3, .inl (false, (2, .ofNat 1, .ofNat 0))), (4, .inl (false, (3, .ofNat 1, .ofNat 0))), (5, .inl (false, (4, .ofNat 1, .ofNat 0))), (6, .inl (false, (5, .ofNat 1, .ofNat 1))), (7, .inl (false, (6, .ofNat 1, .ofNat 0))), (8, .inl (false, (7, .ofNat 1, .ofNat 0))), (9, .inl (false, (8, .ofNat 1, .ofNat 1)))], [], [(2, 1, (11, .ofNat 1, .ofNat 0), (13, .ofNat 1, .ofNat 0), (0, .ofNat 0, .ofNat 0)), (0, 156, (12, .ofNat 1, .ofNat 0), (13, .ofNat 1, .ofNat 0), (0, .ofNat 0, .ofNat 0)), (0, 130, (8, .ofNat 1, .ofNat 0), (11, .ofNat 1, .ofNat 0), (0, .ofNat 0, .ofNat 0)), (2, 2, (8, .ofNat 1, .ofNat 0), (10, .ofNat 1, .ofNat 0), (0, .ofNat 0, .ofNat 0)), (0, 156, (2, .ofNat 1, .ofNat 41), (10, .ofNat 1, .ofNat 0), (0, .ofNat 0, .ofNat 0)), (2, 2, (8, .ofNat 1, .ofNat 0), (9, .ofNat 1, .ofNat 0), (0, .ofNat 0, .ofNat 0)), (0, 122, (0, .ofNat 0, .ofNat 5), (9, .ofNat 1, .ofNat 0), (0, .ofNat 0, .ofNat 0))], [(1, [(.ofNat 0, .ofNat 4)]), (2, [(.ofNat 0, .ofNat 150)]), (3, [(.ofNat 0, .ofNat 8)]), (4, [(.ofNat 0, .ofNat 1000000)]), (5, [(.ofNat 0, .ofNat 16)]), (6, [(.negSucc 1000003, .ofNat 1000004)]), (7, [(.negSucc 1000003, .ofNat 1000004)]), (8, [(.ofNat 0, .ofNat 15)]), (9, [(.ofNat 1, .ofNat 16)]), (10, [(.ofNat 1, .ofNat 1000000)]), (11, [(.negSucc 3, .negSucc 3), (.ofNat 0, .ofNat 7)]), (12, [(.ofNat 8, .ofNat 173)]), (13, [(.negSucc 3, .ofNat 1000000)])], [((2, .ofNat 1, .ofNat 8), (8, .ofNat 1, .ofNat 0), (12, .ofNat 1, .ofNat 0))], []),
  (267, [(0, .inr (.inl [122])), (2, .inl (false, (1, .ofNat 1, .ofNat 0))), (3, .inl (false, (2, .ofNat 1, .ofNat 0))), (4, .inl (false, (3, .ofNat 1, .ofNat 0))), (5, .inl (false, (4, .ofNat 1, .ofNat 0))), (6, .inl (false, (5, .ofNat 1, .ofNat 0))), (7, .inl (false, (6, .ofNat 1, .ofNat 0))), (8, .inl (false, (7, .ofNat 1, .ofNat 0))), (9, .inl (false, (8, .ofNat 1, .ofNat 1)))], [], [(2, 0, (14, .ofNat 1, .ofNat 0), (16, .ofNat 1, .ofNat 0), (0, .ofNat 0, .ofNat 0)), (0, 156, (15, .ofNat 1, .ofNat 0), (16, .ofNat 1, .ofNat 0), (0, .ofNat 0, .ofNat 0)), (0, 131, (8, .ofNat 1, .ofNat 0), (14, .ofNat 1, .ofNat 0), (0, .ofNat 0, .ofNat 0)), (2, 0, (11, .ofNat 1, .ofNat 0), (13, .ofNat 1, .ofNat 0), (0, .ofNat 0, .ofNat 0)), (0, 156, (12, .ofNat 1, .ofNat 0), (13, .ofNat 1, .ofNat 0), (0, .ofNat 0, .ofNat 0)), (0, 130, (8, .ofNat 1, .ofNat 0), (11, .ofNat 1, .ofNat 0), (0, .ofNat 0, .ofNat 0)), (2, 2, (8, .ofNat 1, .ofNat 0), (10, .ofNat 1, .ofNat 0), (0, .ofNat 0, .ofNat 0)), (0, 156, (2, .ofNat 1, .ofNat 41), (10, .ofNat 1, .ofNat 0), (0, .ofNat 0, .ofNat 0)), (2, 2, (8, .ofNat 1, .ofNat 0), (9, .ofNat 1, .ofNat 0), (0, .ofNat 0, .ofNat 0)), (0, 122, (0, .ofNat 0, .ofNat 5), (9, .ofNat 1, .ofNat 0), (0, .ofNat 0, .ofNat 0))], [(1, [(.ofNat 0, .ofNat 4)]), (2, [(.ofNat 0, .ofNat 150)]), (3, [(.ofNat 0, .ofNat 8)]), (4, [(.ofNat 0, .ofNat 1000000)]), (5, [(.ofNat 0, .ofNat 16)]), (6, [(.negSucc 1000003, .ofNat 1000004)]), (7, [(.negSucc 1000003, .ofNat 1000004)]), (8, [(.ofNat 0, .ofNat 15)]), (9, [(.ofNat 1, .ofNat 16)]), (10, [(.ofNat 1, .ofNat 1000000)]), (11, [(.negSucc 3, .negSucc 3), (.ofNat 0, .ofNat 7)]), (12, [(.ofNat 8, .ofNat 173)]), (13, [(.negSucc 3, .ofNat 7)]), (14, [(.negSucc 3, .negSucc 3), (.ofNat 0, .ofNat 7)]), (15, [(.ofNat 24, .ofNat 189)]), (16, [(.negSucc 3, .ofNat 7)])], [((2, .ofNat 1, .ofNat 24), (8, .ofNat 1, .ofNat 0), (15, .ofNat 1, .ofNat 0)), ((2, .ofNat 1, .ofNat 8), (8, .ofNat 1, .ofNat 0), (12, .ofNat 1, .ofNat 0))], []),
  (267, [(0, .inr (.inl [122])), (2, .inl (false, (1, .ofNat 1, .ofNat 0))), (3, .inl (false, (2, .ofNat 1, .ofNat 0))), (4, .inl (false, (3, .ofNat 1, .ofNat 0))), (5, .inl (false, (4, .ofNat 1, .ofNat 0))), (6, .inl (false, (5, .ofNat 1, .ofNat 1))), (7, .inl (false, (6, .ofNat 1, .ofNat 0))), (8, .inl (false, (7, .ofNat 1, .ofNat 0))), (9, .inl (false, (8, .ofNat 1, .ofNat 1)))], [], [(2, 1, (14, .ofNat 1, .ofNat 0), (16, .ofNat 1, .ofNat 0), (0, .ofNat 0, .ofNat 0)), (0, 156, (15, .ofNat 1, .ofNat 0), (16, .ofNat 1, .ofNat 0), (0, .ofNat 0, .ofNat 0)), (0, 131, (8, .ofNat 1, .ofNat 0), (14, .ofNat 1, .ofNat 0), (0, .ofNat 0, .ofNat 0)), (2, 0, (11, .ofNat 1, .ofNat 0), (13, .ofNat 1, .ofNat 0), (0, .ofNat 0, .ofNat 0)), (0, 156, (12, .ofNat 1, .ofNat 0), (13, .ofNat 1, .ofNat 0), (0, .ofNat 0, .ofNat 0)), (0, 130, (8, .ofNat 1, .ofNat 0), (11, .ofNat 1, .ofNat 0), (0, .ofNat 0, .ofNat 0)), (2, 2, (8, .ofNat 1, .ofNat 0), (10, .ofNat 1, .ofNat 0), (0, .ofNat 0, .ofNat 0)), (0, 156, (2, .ofNat 1, .ofNat 41), (10, .ofNat 1, .ofNat 0), (0, .ofNat 0, .ofNat 0)), (2, 2, (8, .ofNat 1, .ofNat 0), (9, .ofNat 1, .ofNat 0), (0, .ofNat 0, .ofNat 0)), (0, 122, (0, .ofNat 0, .ofNat 5), (9, .ofNat 1, .ofNat 0), (0, .ofNat 0, .ofNat 0))], [(1, [(.ofNat 0, .ofNat 4)]), (2, [(.ofNat 0, .ofNat 150)]), (3, [(.ofNat 0, .ofNat 8)]), (4, [(.ofNat 0, .ofNat 1000000)]), (5, [(.ofNat 0, .ofNat 16)]), (6, [(.negSucc 1000003, .ofNat 1000004)]), (7, [(.negSucc 1000003, .ofNat 1000004)]), (8, [(.ofNat 0, .ofNat 15)]), (9, [(.ofNat 1, .ofNat 16)]), (10, [(.ofNat 1, .ofNat 1000000)]), (11, [(.negSucc 3, .negSucc 3), (.ofNat 0, .ofNat 7)]), (12, [(.ofNat 8, .ofNat 173)]), (13, [(.negSucc 3, .ofNat 7)]), (14, [(.negSucc 3, .negSucc 3), (.ofNat 0, .ofNat 7)]), (15, [(.ofNat 24, .ofNat 189)]), (16, [(.negSucc 3, .ofNat 1000000)])], [((2, .ofNat 1, .ofNat 24), (8, .ofNat 1, .ofNat 0), (15, .ofNat 1, .ofNat 0)), ((2, .ofNat 1, .ofNat 8), (8, .ofNat 1, .ofNat 0), (12, .ofNat 1, .ofNat 0))], [])]
set_option maxRecDepth 1000000 in
theorem sg_cm_m2_g : sg_go [] [266, 349] 3000 245 266 0 9 [(0, [(.ofNat 0, .ofNat 0)]), (1, [(.ofNat 0, .ofNat 4)]), (2, [(.ofNat 0, .ofNat 150)]), (3, [(.ofNat 0, .ofNat 8)]), (4, [(.ofNat 0, .ofNat 1000000)]), (5, [(.ofNat 0, .ofNat 16)]), (6, [(.negSucc 1000003, .ofNat 1000004)]), (7, [(.negSucc 1000003, .ofNat 1000004)]), (8, [(.ofNat 0, .ofNat 16)])] [] [] [] [(0, .inr (.inl [122])), (2, .inl (false, (1, .ofNat 1, .ofNat 0))), (3, .inl (false, (2, .ofNat 1, .ofNat 0))), (4, .inl (false, (3, .ofNat 1, .ofNat 0))), (5, .inl (false, (4, .ofNat 1, .ofNat 0))), (6, .inl (false, (5, .ofNat 1, .ofNat 0))), (7, .inl (false, (6, .ofNat 1, .ofNat 0))), (8, .inl (false, (7, .ofNat 1, .ofNat 0))), (9, .inl (false, (8, .ofNat 1, .ofNat 0)))] [] [] sg_cm_m2_Z = true := by decide +kernel
set_option maxRecDepth 100000 in
theorem sg_cm_m2 {Q : Option Value × am_S → Prop} {d : Nat} {S : am_S} {L : am_L} {x1 x2 x3 x4 x5 x6 x7 x8 : Int} (hd : 0 ≤ d) (hP : ax_P0 none S) (l0 : lc L 0 122) (l2 : li L 2 x1) (l3 : li L 3 x2) (l4 : li L 4 x3) (l5 : li L 5 x4) (l6 : li L 6 x5) (l7 : li L 7 x6) (l8 : li L 8 x7) (l9 : li L 9 x8) (b1 : (0 ≤ x1 ∧ x1 ≤ 4)) (b2 : (0 ≤ x2 ∧ x2 ≤ 150)) (b3 : (0 ≤ x3 ∧ x3 ≤ 8)) (b4 : (0 ≤ x4 ∧ x4 ≤ 1000000)) (b5 : (0 ≤ x5 ∧ x5 ≤ 16)) (b6 : ((-1000004) ≤ x6 ∧ x6 ≤ 1000004)) (b7 : ((-1000004) ≤ x7 ∧ x7 ≤ 1000004)) (b8 : (0 ≤ x8 ∧ x8 ≤ 16))
    (k0 : ∀ (x9 : Int) (L' : am_L), rd S 122 5 = x9 → x9 ≤ x8 → (0 ≤ x1 ∧ x1 ≤ 4) → (0 ≤ x2 ∧ x2 ≤ 150) → (0 ≤ x3 ∧ x3 ≤ 8) → (0 ≤ x4 ∧ x4 ≤ 1000000) → (0 ≤ x5 ∧ x5 ≤ 16) → ((-1000004) ≤ x6 ∧ x6 ≤ 1000004) → ((-1000004) ≤ x7 ∧ x7 ≤ 1000004) → (0 ≤ x8 ∧ x8 ≤ 16) → (0 ≤ x9 ∧ x9 ≤ 16) → lc L' 0 122 → li L' 2 x1 → li L' 3 x2 → li L' 4 x3 → li L' 5 x4 → li L' 6 x5 → li L' 7 x6 → li L' 8 x7 → li L' 9 x8 → am_V none d 245 349 L' ([]) S Q)
    (k1 : ∀ (x9 x10 : Int) (L' : am_L), rd S 122 5 = x9 → x8 < x9 → rd S 156 (x2 + 41) = x10 → x10 ≤ x8 → (0 ≤ x1 ∧ x1 ≤ 4) → (0 ≤ x2 ∧ x2 ≤ 150) → (0 ≤ x3 ∧ x3 ≤ 8) → (0 ≤ x4 ∧ x4 ≤ 1000000) → (0 ≤ x5 ∧ x5 ≤ 16) → ((-1000004) ≤ x6 ∧ x6 ≤ 1000004) → ((-1000004) ≤ x7 ∧ x7 ≤ 1000004) → (0 ≤ x8 ∧ x8 ≤ 15) → (1 ≤ x9 ∧ x9 ≤ 16) → ((-4) ≤ x10 ∧ x10 ≤ 15) → lc L' 0 122 → li L' 2 x1 → li L' 3 x2 → li L' 4 x3 → li L' 5 x4 → li L' 6 x5 → li L' 7 x6 → li L' 8 x7 → li L' 9 x8 → am_V none d 245 349 L' ([]) S Q)
    (k2 : ∀ (x9 x10 x11 x12 x13 : Int) (L' : am_L), rd S 122 5 = x9 → x8 < x9 → rd S 156 (x2 + 41) = x10 → x8 < x10 → rd S 130 x8 = x11 → rd S 156 x12 = x13 → x11 ≠ x13 → (0 ≤ x1 ∧ x1 ≤ 4) → (0 ≤ x2 ∧ x2 ≤ 150) → (0 ≤ x3 ∧ x3 ≤ 8) → (0 ≤ x4 ∧ x4 ≤ 1000000) → (0 ≤ x5 ∧ x5 ≤ 16) → ((-1000004) ≤ x6 ∧ x6 ≤ 1000004) → ((-1000004) ≤ x7 ∧ x7 ≤ 1000004) → (0 ≤ x8 ∧ x8 ≤ 15) → (1 ≤ x9 ∧ x9 ≤ 16) → (1 ≤ x10 ∧ x10 ≤ 1000000) → ((-4) ≤ x11 ∧ x11 ≤ (-4)) ∨ (0 ≤ x11 ∧ x11 ≤ 7) → (8 ≤ x12 ∧ x12 ≤ 173) → ((-4) ≤ x13 ∧ x13 ≤ 1000000) → (x2 + 8) + x8 = x12 → lc L' 0 122 → li L' 2 x1 → li L' 3 x2 → li L' 4 x3 → li L' 5 x4 → li L' 6 (x5 + 1) → li L' 7 x6 → li L' 8 x7 → li L' 9 (x8 + 1) → am_V none d 245 266 L' ([]) S Q)
    (k3 : ∀ (x9 x10 x11 x12 x13 x14 x15 x16 : Int) (L' : am_L), rd S 122 5 = x9 → x8 < x9 → rd S 156 (x2 + 41) = x10 → x8 < x10 → rd S 130 x8 = x11 → rd S 156 x12 = x13 → x11 = x13 → rd S 131 x8 = x14 → rd S 156 x15 = x16 → x14 = x16 → (0 ≤ x1 ∧ x1 ≤ 4) → (0 ≤ x2 ∧ x2 ≤ 150) → (0 ≤ x3 ∧ x3 ≤ 8) → (0 ≤ x4 ∧ x4 ≤ 1000000) → (0 ≤ x5 ∧ x5 ≤ 16) → ((-1000004) ≤ x6 ∧ x6 ≤ 1000004) → ((-1000004) ≤ x7 ∧ x7 ≤ 1000004) → (0 ≤ x8 ∧ x8 ≤ 15) → (1 ≤ x9 ∧ x9 ≤ 16) → (1 ≤ x10 ∧ x10 ≤ 1000000) → ((-4) ≤ x11 ∧ x11 ≤ (-4)) ∨ (0 ≤ x11 ∧ x11 ≤ 7) → (8 ≤ x12 ∧ x12 ≤ 173) → ((-4) ≤ x13 ∧ x13 ≤ 7) → ((-4) ≤ x14 ∧ x14 ≤ (-4)) ∨ (0 ≤ x14 ∧ x14 ≤ 7) → (24 ≤ x15 ∧ x15 ≤ 189) → ((-4) ≤ x16 ∧ x16 ≤ 7) → (x2 + 24) + x8 = x15 → (x2 + 8) + x8 = x12 → lc L' 0 122 → li L' 2 x1 → li L' 3 x2 → li L' 4 x3 → li L' 5 x4 → li L' 6 x5 → li L' 7 x6 → li L' 8 x7 → li L' 9 (x8 + 1) → am_V none d 245 266 L' ([]) S Q)
    (k4 : ∀ (x9 x10 x11 x12 x13 x14 x15 x16 : Int) (L' : am_L), rd S 122 5 = x9 → x8 < x9 → rd S 156 (x2 + 41) = x10 → x8 < x10 → rd S 130 x8 = x11 → rd S 156 x12 = x13 → x11 = x13 → rd S 131 x8 = x14 → rd S 156 x15 = x16 → x14 ≠ x16 → (0 ≤ x1 ∧ x1 ≤ 4) → (0 ≤ x2 ∧ x2 ≤ 150) → (0 ≤ x3 ∧ x3 ≤ 8) → (0 ≤ x4 ∧ x4 ≤ 1000000) → (0 ≤ x5 ∧ x5 ≤ 16) → ((-1000004) ≤ x6 ∧ x6 ≤ 1000004) → ((-1000004) ≤ x7 ∧ x7 ≤ 1000004) → (0 ≤ x8 ∧ x8 ≤ 15) → (1 ≤ x9 ∧ x9 ≤ 16) → (1 ≤ x10 ∧ x10 ≤ 1000000) → ((-4) ≤ x11 ∧ x11 ≤ (-4)) ∨ (0 ≤ x11 ∧ x11 ≤ 7) → (8 ≤ x12 ∧ x12 ≤ 173) → ((-4) ≤ x13 ∧ x13 ≤ 7) → ((-4) ≤ x14 ∧ x14 ≤ (-4)) ∨ (0 ≤ x14 ∧ x14 ≤ 7) → (24 ≤ x15 ∧ x15 ≤ 189) → ((-4) ≤ x16 ∧ x16 ≤ 1000000) → (x2 + 24) + x8 = x15 → (x2 + 8) + x8 = x12 → lc L' 0 122 → li L' 2 x1 → li L' 3 x2 → li L' 4 x3 → li L' 5 x4 → li L' 6 (x5 + 1) → li L' 7 x6 → li L' 8 x7 → li L' 9 (x8 + 1) → am_V none d 245 266 L' ([]) S Q) : am_V none d 245 266 L ([]) S Q := by
  refine sg_use sg_cm_m2_g hd hP (sg_xs [0, x1, x2, x3, x4, x5, x6, x7, x8]) ⟨⟨Int.le_refl 0, Int.le_refl 0⟩, b1, b2, b3, b4, b5, b6, b7, b8, trivial⟩ trivial trivial trivial ⟨l0, l2, l3, l4, l5, l6, l7, l8, l9, trivial⟩ trivial ?_
  intro z hz x' L' st' S' hx hP' hW hL' hs' hJ hE' hT' hD'
  have q1 : x' 1 = x1 := hx 1 (by decide)
  subst q1
  have q2 : x' 2 = x2 := hx 2 (by decide)
  subst q2
  have q3 : x' 3 = x3 := hx 3 (by decide)
  subst q3
  have q4 : x' 4 = x4 := hx 4 (by decide)
  subst q4
  have q5 : x' 5 = x5 := hx 5 (by decide)
  subst q5
  have q6 : x' 6 = x6 := hx 6 (by decide)
  subst q6
  have q7 : x' 7 = x7 := hx 7 (by decide)
  subst q7
  have q8 : x' 8 = x8 := hx 8 (by decide)
  subst q8
  have eS : S' = S := hW.1 rfl
  subst eS
  simp only [sg_cm_m2_Z, List.mem_cons, List.not_mem_nil, or_false] at hz
  rcases hz with rfl | rfl | rfl | rfl | rfl
  · obtain ⟨f0, f1, hσ⟩ := hJ
    obtain ⟨e0, e1, e2, e3, e4, e5, e6, e7, e8, -⟩ := hE'
    obtain ⟨p0, p1, p2, p3, p4, p5, p6, p7, p8, -⟩ := hL'
    obtain rfl := sg_tn hs'
    exact k0 (x' 9) L' f0 f1 e0 e1 e2 e3 e4 e5 e6 e7 e8 p0 p1 p2 p3 p4 p5 p6 p7 p8
  · obtain ⟨f0, f1, f2, f3, hσ⟩ := hJ
    obtain ⟨e0, e1, e2, e3, e4, e5, e6, e7, e8, e9, -⟩ := hE'
    obtain ⟨p0, p1, p2, p3, p4, p5, p6, p7, p8, -⟩ := hL'
    obtain rfl := sg_tn hs'
    exact k1 (x' 9) (x' 10) L' f0 f1 f2 f3 e0 e1 e2 e3 e4 e5 e6 e7 e8 e9 p0 p1 p2 p3 p4 p5 p6 p7 p8
  · obtain ⟨f0, f1, f2, f3, f4, f5, f6, hσ⟩ := hJ
    obtain ⟨e0, e1, e2, e3, e4, e5, e6, e7, e8, e9, e10, e11, e12, -⟩ := hE'
    obtain ⟨t0, -⟩ := hT'
    obtain ⟨p0, p1, p2, p3, p4, p5, p6, p7, p8, -⟩ := hL'
    obtain rfl := sg_tn hs'
    exact k2 (x' 9) (x' 10) (x' 11) (x' 12) (x' 13) L' f0 f1 f2 f3 f4 f5 f6 e0 e1 e2 e3 e4 e5 e6 e7 e8 e9 e10 e11 e12 t0 p0 p1 p2 p3 p4 p5 p6 p7 p8
  · obtain ⟨f0, f1, f2, f3, f4, f5, f6, f7, f8, f9, hσ⟩ := hJ
    obtain ⟨e0, e1, e2, e3, e4, e5, e6, e7, e8, e9, e10, e11, e12, e13, e14, e15, -⟩ := hE'
    obtain ⟨t0, t1, -⟩ := hT'
    obtain ⟨p0, p1, p2, p3, p4, p5, p6, p7, p8, -⟩ := hL'
    obtain rfl := sg_tn hs'
    exact k3 (x' 9) (x' 10) (x' 11) (x' 12) (x' 13) (x' 14) (x' 15) (x' 16) L' f0 f1 f2 f3 f4 f5 f6 f7 f8 f9 e0 e1 e2 e3 e4 e5 e6 e7 e8 e9 e10 e11 e12 e13 e14 e15 t0 t1 p0 p1 p2 p3 p4 p5 p6 p7 p8
  · obtain ⟨f0, f1, f2, f3, f4, f5, f6, f7, f8, f9, hσ⟩ := hJ
    obtain ⟨e0, e1, e2, e3, e4, e5, e6, e7, e8, e9, e10, e11, e12, e13, e14, e15, -⟩ := hE'
    obtain ⟨t0, t1, -⟩ := hT'
    obtain ⟨p0, p1, p2, p3, p4, p5, p6, p7, p8, -⟩ := hL'
    obtain rfl := sg_tn hs'
    exact k4 (x' 9) (x' 10) (x' 11) (x' 12) (x' 13) (x' 14) (x' 15) (x' 16) L' f0 f1 f2 f3 f4 f5 f6 f7 f8 f9 e0 e1 e2 e3 e4 e5 e6 e7 e8 e9 e10 e11 e12 e13 e14 e15 t0 t1 p0 p1 p2 p3 p4 p5 p6 p7 p8
def sg_cm_m3_Z : List sg_z := [(0, [], [.inl (false, (3, .ofNat 1, .ofNat 0))], [(2, 1, (1, .ofNat 1, .ofNat 0), (0, .ofNat 0, .ofNat 3), (0, .ofNat 0, .ofNat 0)), (2, 1, (1, .ofNat 1, .ofNat 0), (0, .ofNat 0, .ofNat 2), (0, .ofNat 0, .ofNat 0)), (2, 1, (1, .ofNat 1, .ofNat 0), (0, .ofNat 0, .ofNat 1), (0, .ofNat 0, .ofNat 0)), (2, 1, (1, .ofNat 1, .ofNat 0), (0, .ofNat 0, .ofNat 0), (0, .ofNat 0, .ofNat 0))], [(1, [(.ofNat 4, .ofNat 4)]), (2, [(.ofNat 0, .ofNat 8)]), (3, [(.ofNat 0, .ofNat 1000000)]), (4, [(.ofNat 0, .ofNat 16)]), (5, [(.negSucc 1000003, .ofNat 1000004)]), (6, [(.negSucc 1000003, .ofNat 1000004)])], [], []),
  (0, [], [.inl (false, (6, .ofNat 1, .ofNat 0))], [(2, 0, (1, .ofNat 1, .ofNat 0), (0, .ofNat 0, .ofNat 3), (0, .ofNat 0, .ofNat 0)), (2, 1, (1, .ofNat 1, .ofNat 0), (0, .ofNat 0, .ofNat 2), (0, .ofNat 0, .ofNat 0)), (2, 1, (1, .ofNat 1, .ofNat 0), (0, .ofNat 0, .ofNat 1), (0, .ofNat 0, .ofNat 0)), (2, 1, (1, .ofNat 1, .ofNat 0), (0, .ofNat 0, .ofNat 0), (0, .ofNat 0, .ofNat 0))], [(1, [(.ofNat 3, .ofNat 3)]), (2, [(.ofNat 0, .ofNat 8)]), (3, [(.ofNat 0, .ofNat 1000000)]), (4, [(.ofNat 0, .ofNat 16)]), (5, [(.negSucc 1000003, .ofNat 1000004)]), (6, [(.negSucc 1000003, .ofNat 1000004)])], [], []),
  (0, [], [.inl (false, (5, .ofNat 1, .ofNat 0))], [(2, 0, (1, .ofNat 1, .ofNat 0), (0, .ofNat 0, .ofNat 2), (0, .ofNat 0, .ofNat 0)), (2, 1, (1, .ofNat 1, .ofNat 0), (0, .ofNat 0, .ofNat 1), (0, .ofNat 0, .ofNat 0)), (2, 1, (1, .ofNat 1, .ofNat 0), (0, .ofNat 0, .ofNat 0), (0, .ofNat 0, .ofNat 0))], [(1, [(.ofNat 2, .ofNat 2)]), (2, [(.ofNat 0, .ofNat 8)]), (3, [(.ofNat 0, .ofNat 1000000)]), (4, [(.ofNat 0, .ofNat 16)]), (5, [(.negSucc 1000003, .ofNat 1000004)]), (6, [(.negSucc 1000003, .ofNat 1000004)])], [], []),
  (0, [], [.inl (false, (4, .ofNat 1, .ofNat 0))], [(2, 0, (1, .ofNat 1, .ofNat 0), (0, .ofNat 0, .ofNat 1), (0, .ofNat 0, .ofNat 0)), (2, 1, (1, .ofNat 1, .ofNat 0), (0, .ofNat 0, .ofNat 0), (0, .ofNat 0, .ofNat 0))], [(1, [(.ofNat 1, .ofNat 1)]), (2, [(.ofNat 0, .ofNat 8)]), (3, [(.ofNat 0, .ofNat 1000000)]), (4, [(.ofNat 0, .ofNat 16)]), (5, [(.negSucc 1000003, .ofNat 1000004)]), (6, [(.negSucc 1000003, .ofNat 1000004)])], [], []),
  (0, [], [.inl (false, (2, .ofNat 1, .ofNat 0))], [(2, 0, (1, .ofNat 1, .ofNat 0), (0, .ofNat 0, .ofNat 0), (0, .ofNat 0, .ofNat 0))], [(1, [(.ofNat 0, .ofNat 0)]), (2, [(.ofNat 0, .ofNat 8)]), (3, [(.ofNat 0, .ofNat 1000000)]), (4, [(.ofNat 0, .ofNat 16)]), (5, [(.negSucc 1000003, .ofNat 1000004)]), (6, [(.negSucc 1000003, .ofNat 1000004)])], [], [])]
set_option maxRecDepth 1000000 in
theorem sg_cm_m3_g : sg_go [] [] 3000 245 349 0 7 [(0, [(.ofNat 0, .ofNat 0)]), (1, [(.ofNat 0, .ofNat 4)]), (2, [(.ofNat 0, .ofNat 8)]), (3, [(.ofNat 0, .ofNat 1000000)]), (4, [(.ofNat 0, .ofNat 16)]), (5, [(.negSucc 1000003, .ofNat 1000004)]), (6, [(.negSucc 1000003, .ofNat 1000004)])] [] [] [] [(2, .inl (false, (1, .ofNat 1, .ofNat 0))), (4, .inl (false, (2, .ofNat 1, .ofNat 0))), (5, .inl (false, (3, .ofNat 1, .ofNat 0))), (6, .inl (false, (4, .ofNat 1, .ofNat 0))), (7, .inl (false, (5, .ofNat 1, .ofNat 0))), (8, .inl (false, (6, .ofNat 1, .ofNat 0)))] [] [] sg_cm_m3_Z = true := by decide +kernel
set_option maxRecDepth 100000 in
theorem sg_cm_m3 {Q : Option Value × am_S → Prop} {d : Nat} {S : am_S} {L : am_L} {x1 x2 x3 x4 x5 x6 : Int} (hd : 0 ≤ d) (hP : ax_P0 none S) (l2 : li L 2 x1) (l4 : li L 4 x2) (l5 : li L 5 x3) (l6 : li L 6 x4) (l7 : li L 7 x5) (l8 : li L 8 x6) (b1 : (0 ≤ x1 ∧ x1 ≤ 4)) (b2 : (0 ≤ x2 ∧ x2 ≤ 8)) (b3 : (0 ≤ x3 ∧ x3 ≤ 1000000)) (b4 : (0 ≤ x4 ∧ x4 ≤ 16)) (b5 : ((-1000004) ≤ x5 ∧ x5 ≤ 1000004)) (b6 : ((-1000004) ≤ x6 ∧ x6 ≤ 1000004))
    (k0 : ∀ (i1 : Int32), x1 ≠ 0 → x1 ≠ 1 → x1 ≠ 2 → x1 ≠ 3 → (4 ≤ x1 ∧ x1 ≤ 4) → (0 ≤ x2 ∧ x2 ≤ 8) → (0 ≤ x3 ∧ x3 ≤ 1000000) → (0 ≤ x4 ∧ x4 ≤ 16) → ((-1000004) ≤ x5 ∧ x5 ≤ 1000004) → ((-1000004) ≤ x6 ∧ x6 ≤ 1000004) → i1.toInt = x3 → Q (some (.int i1), S))
    (k1 : ∀ (i1 : Int32), x1 ≠ 0 → x1 ≠ 1 → x1 ≠ 2 → x1 = 3 → (3 ≤ x1 ∧ x1 ≤ 3) → (0 ≤ x2 ∧ x2 ≤ 8) → (0 ≤ x3 ∧ x3 ≤ 1000000) → (0 ≤ x4 ∧ x4 ≤ 16) → ((-1000004) ≤ x5 ∧ x5 ≤ 1000004) → ((-1000004) ≤ x6 ∧ x6 ≤ 1000004) → i1.toInt = x6 → Q (some (.int i1), S))
    (k2 : ∀ (i1 : Int32), x1 ≠ 0 → x1 ≠ 1 → x1 = 2 → (2 ≤ x1 ∧ x1 ≤ 2) → (0 ≤ x2 ∧ x2 ≤ 8) → (0 ≤ x3 ∧ x3 ≤ 1000000) → (0 ≤ x4 ∧ x4 ≤ 16) → ((-1000004) ≤ x5 ∧ x5 ≤ 1000004) → ((-1000004) ≤ x6 ∧ x6 ≤ 1000004) → i1.toInt = x5 → Q (some (.int i1), S))
    (k3 : ∀ (i1 : Int32), x1 ≠ 0 → x1 = 1 → (1 ≤ x1 ∧ x1 ≤ 1) → (0 ≤ x2 ∧ x2 ≤ 8) → (0 ≤ x3 ∧ x3 ≤ 1000000) → (0 ≤ x4 ∧ x4 ≤ 16) → ((-1000004) ≤ x5 ∧ x5 ≤ 1000004) → ((-1000004) ≤ x6 ∧ x6 ≤ 1000004) → i1.toInt = x4 → Q (some (.int i1), S))
    (k4 : ∀ (i1 : Int32), x1 = 0 → (0 ≤ x1 ∧ x1 ≤ 0) → (0 ≤ x2 ∧ x2 ≤ 8) → (0 ≤ x3 ∧ x3 ≤ 1000000) → (0 ≤ x4 ∧ x4 ≤ 16) → ((-1000004) ≤ x5 ∧ x5 ≤ 1000004) → ((-1000004) ≤ x6 ∧ x6 ≤ 1000004) → i1.toInt = x2 → Q (some (.int i1), S)) : am_V none d 245 349 L ([]) S Q := by
  refine sg_use sg_cm_m3_g hd hP (sg_xs [0, x1, x2, x3, x4, x5, x6]) ⟨⟨Int.le_refl 0, Int.le_refl 0⟩, b1, b2, b3, b4, b5, b6, trivial⟩ trivial trivial trivial ⟨l2, l4, l5, l6, l7, l8, trivial⟩ trivial ?_
  intro z hz x' L' st' S' hx hP' hW hL' hs' hJ hE' hT' hD'
  have q1 : x' 1 = x1 := hx 1 (by decide)
  subst q1
  have q2 : x' 2 = x2 := hx 2 (by decide)
  subst q2
  have q3 : x' 3 = x3 := hx 3 (by decide)
  subst q3
  have q4 : x' 4 = x4 := hx 4 (by decide)
  subst q4
  have q5 : x' 5 = x5 := hx 5 (by decide)
  subst q5
  have q6 : x' 6 = x6 := hx 6 (by decide)
  subst q6
  have eS : S' = S := hW.1 rfl
  subst eS
  simp only [sg_cm_m3_Z, List.mem_cons, List.not_mem_nil, or_false] at hz
  rcases hz with rfl | rfl | rfl | rfl | rfl
  · obtain ⟨f0, f1, f2, f3, hσ⟩ := hJ
    obtain ⟨e0, e1, e2, e3, e4, e5, -⟩ := hE'
    intro v hv
    subst hv
    cases v with
    | none => exact hs'.elim
    | some v1 =>
      obtain ⟨⟨i1, rfl, g1⟩, -⟩ := hs'
      exact k0 i1 f0 f1 f2 f3 e0 e1 e2 e3 e4 e5 g1
  · obtain ⟨f0, f1, f2, f3, hσ⟩ := hJ
    obtain ⟨e0, e1, e2, e3, e4, e5, -⟩ := hE'
    intro v hv
    subst hv
    cases v with
    | none => exact hs'.elim
    | some v1 =>
      obtain ⟨⟨i1, rfl, g1⟩, -⟩ := hs'
      exact k1 i1 f0 f1 f2 f3 e0 e1 e2 e3 e4 e5 g1
  · obtain ⟨f0, f1, f2, hσ⟩ := hJ
    obtain ⟨e0, e1, e2, e3, e4, e5, -⟩ := hE'
    intro v hv
    subst hv
    cases v with
    | none => exact hs'.elim
    | some v1 =>
      obtain ⟨⟨i1, rfl, g1⟩, -⟩ := hs'
      exact k2 i1 f0 f1 f2 e0 e1 e2 e3 e4 e5 g1
  · obtain ⟨f0, f1, hσ⟩ := hJ
    obtain ⟨e0, e1, e2, e3, e4, e5, -⟩ := hE'
    intro v hv
    subst hv
    cases v with
    | none => exact hs'.elim
    | some v1 =>
      obtain ⟨⟨i1, rfl, g1⟩, -⟩ := hs'
      exact k3 i1 f0 f1 e0 e1 e2 e3 e4 e5 g1
  · obtain ⟨f0, hσ⟩ := hJ
    obtain ⟨e0, e1, e2, e3, e4, e5, -⟩ := hE'
    intro v hv
    subst hv
    cases v with
    | none => exact hs'.elim
    | some v1 =>
      obtain ⟨⟨i1, rfl, g1⟩, -⟩ := hs'
      exact k4 i1 f0 e0 e1 e2 e3 e4 e5 g1
def sg_gg_x0a_Z : List sg_z := [(5, [(0, .inr (.inl [98])), (1, .inr (.inl [1])), (2, .inl (false, (0, .ofNat 0, .ofNat 0))), (3, .inl (false, (0, .ofNat 0, .ofNat 0)))], [], [], [], [], [])]
set_option maxRecDepth 1000000 in
theorem sg_gg_x0a_g : sg_go [] [4] 3000 80 0 0 1 [(0, [(.ofNat 0, .ofNat 0)])] [] [] [] [(0, .inr (.inl [98])), (1, .inr (.inl [1]))] [] [] sg_gg_x0a_Z = true := by decide +kernel
set_option maxRecDepth 100000 in
theorem sg_gg_x0a {Q : Option Value × am_S → Prop} {d : Nat} {S : am_S} {L : am_L} (hd : 0 ≤ d) (hP : ax_P0 none S) (l0 : lc L 0 98) (l1 : lc L 1 1)
    (k0 : ∀ (L' : am_L), lc L' 0 98 → lc L' 1 1 → li L' 2 0 → li L' 3 0 → am_V none d 80 4 L' ([]) S Q) : am_V none d 80 0 L ([]) S Q := by
  refine sg_use sg_gg_x0a_g hd hP (sg_xs [0]) ⟨⟨Int.le_refl 0, Int.le_refl 0⟩, trivial⟩ trivial trivial trivial ⟨l0, l1, trivial⟩ trivial ?_
  intro z hz x' L' st' S' hx hP' hW hL' hs' hJ hE' hT' hD'
  have eS : S' = S := hW.1 rfl
  subst eS
  simp only [sg_gg_x0a_Z, List.mem_cons, List.not_mem_nil, or_false] at hz
  rcases hz with rfl
  · have hσ := hJ
    obtain ⟨p0, p1, p2, p3, -⟩ := hL'
    obtain rfl := sg_tn hs'
    exact k0 L' p0 p1 p2 p3
def sg_gg_x0b_Z : List sg_z := [(0, [], [.inl (false, (1, .ofNat 1, .ofNat 0))], [(2, 3, (2, .ofNat 1, .ofNat 0), (3, .ofNat 1, .ofNat 0), (0, .ofNat 0, .ofNat 0)), (0, 98, (0, .ofNat 0, .ofNat 0), (3, .ofNat 1, .ofNat 0), (0, .ofNat 0, .ofNat 0))], [(1, [(.ofNat 0, .ofNat 1000000)]), (2, [(.ofNat 0, .ofNat 8)]), (3, [(.ofNat 0, .ofNat 8)])], [], []),
  (0, [], [.inl (false, (1, .ofNat 1, .ofNat 0))], [(2, 3, (2, .ofNat 1, .ofNat 0), (4, .ofNat 1, .ofNat 0), (0, .ofNat 0, .ofNat 0)), (0, 1, (0, .ofNat 0, .ofNat 0), (4, .ofNat 1, .ofNat 0), (0, .ofNat 0, .ofNat 0)), (2, 2, (2, .ofNat 1, .ofNat 0), (3, .ofNat 1, .ofNat 0), (0, .ofNat 0, .ofNat 0)), (0, 98, (0, .ofNat 0, .ofNat 0), (3, .ofNat 1, .ofNat 0), (0, .ofNat 0, .ofNat 0))], [(1, [(.ofNat 0, .ofNat 1000000)]), (2, [(.ofNat 0, .ofNat 7)]), (3, [(.ofNat 1, .ofNat 8)]), (4, [(.ofNat 0, .ofNat 7)])], [], []),
  (5, [(0, .inr (.inl [98])), (1, .inr (.inl [1])), (2, .inl (false, (7, .ofNat 1, .ofNat 0))), (3, .inl (false, (2, .ofNat 1, .ofNat 1)))], [], [(2, 2, (1, .ofNat 1, .ofNat 0), (7, .ofNat 1, .ofNat 0), (0, .ofNat 0, .ofNat 0)), (2, 3, (7, .ofNat 1, .ofNat 0), (0, .ofNat 0, .ofNat 0), (0, .ofNat 0, .ofNat 0)), (0, 2, (2, .ofNat 1, .ofNat 0), (6, .ofNat 1, .ofNat 0), (0, .ofNat 0, .ofNat 0)), (0, 99, (2, .ofNat 1, .ofNat 0), (5, .ofNat 1, .ofNat 0), (0, .ofNat 0, .ofNat 0)), (2, 2, (2, .ofNat 1, .ofNat 0), (4, .ofNat 1, .ofNat 0), (0, .ofNat 0, .ofNat 0)), (0, 1, (0, .ofNat 0, .ofNat 0), (4, .ofNat 1, .ofNat 0), (0, .ofNat 0, .ofNat 0)), (2, 2, (2, .ofNat 1, .ofNat 0), (3, .ofNat 1, .ofNat 0), (0, .ofNat 0, .ofNat 0)), (0, 98, (0, .ofNat 0, .ofNat 0), (3, .ofNat 1, .ofNat 0), (0, .ofNat 0, .ofNat 0))], [(1, [(.ofNat 0, .ofNat 999999)]), (2, [(.ofNat 0, .ofNat 7)]), (3, [(.ofNat 1, .ofNat 8)]), (4, [(.ofNat 1, .ofNat 8)]), (5, [(.ofNat 0, .ofNat 1000000)]), (6, [(.ofNat 0, .ofNat 1000000)]), (7, [(.ofNat 1, .ofNat 1000000)])], [((5, .ofNat 1, .ofNat 0), (6, .negSucc 0, .ofNat 0), (7, .ofNat 1, .ofNat 0))], []),
  (5, [(0, .inr (.inl [98])), (1, .inr (.inl [1])), (2, .inl (false, (1, .ofNat 1, .ofNat 0))), (3, .inl (false, (2, .ofNat 1, .ofNat 1)))], [], [(2, 3, (1, .ofNat 1, .ofNat 0), (7, .ofNat 1, .ofNat 0), (0, .ofNat 0, .ofNat 0)), (2, 3, (7, .ofNat 1, .ofNat 0), (0, .ofNat 0, .ofNat 0), (0, .ofNat 0, .ofNat 0)), (0, 2, (2, .ofNat 1, .ofNat 0), (6, .ofNat 1, .ofNat 0), (0, .ofNat 0, .ofNat 0)), (0, 99, (2, .ofNat 1, .ofNat 0), (5, .ofNat 1, .ofNat 0), (0, .ofNat 0, .ofNat 0)), (2, 2, (2, .ofNat 1, .ofNat 0), (4, .ofNat 1, .ofNat 0), (0, .ofNat 0, .ofNat 0)), (0, 1, (0, .ofNat 0, .ofNat 0), (4, .ofNat 1, .ofNat 0), (0, .ofNat 0, .ofNat 0)), (2, 2, (2, .ofNat 1, .ofNat 0), (3, .ofNat 1, .ofNat 0), (0, .ofNat 0, .ofNat 0)), (0, 98, (0, .ofNat 0, .ofNat 0), (3, .ofNat 1, .ofNat 0), (0, .ofNat 0, .ofNat 0))], [(1, [(.ofNat 0, .ofNat 1000000)]), (2, [(.ofNat 0, .ofNat 7)]), (3, [(.ofNat 1, .ofNat 8)]), (4, [(.ofNat 1, .ofNat 8)]), (5, [(.ofNat 0, .ofNat 1000000)]), (6, [(.ofNat 0, .ofNat 1000000)]), (7, [(.ofNat 0, .ofNat 1000000)])], [((5, .ofNat 1, .ofNat 0), (6, .negSucc 0, .ofNat 0), (7, .ofNat 1, .ofNat 0))], []),
  (5, [(0, .inr (.inl [98])), (1, .inr (.inl [1])), (2, .inl (false, (7, .negSucc 0, .ofNat 0))), (3, .inl (false, (2, .ofNat 1, .ofNat 1)))], [], [(2, 2, (1, .ofNat 1, .ofNat 0), (7, .negSucc 0, .ofNat 0), (0, .ofNat 0, .ofNat 0)), (2, 2, (7, .ofNat 1, .ofNat 0), (0, .ofNat 0, .ofNat 0), (0, .ofNat 0, .ofNat 0)), (0, 2, (2, .ofNat 1, .ofNat 0), (6, .ofNat 1, .ofNat 0), (0, .ofNat 0, .ofNat 0)), (0, 99, (2, .ofNat 1, .ofNat 0), (5, .ofNat 1, .ofNat 0), (0, .ofNat 0, .ofNat 0)), (2, 2, (2, .ofNat 1, .ofNat 0), (4, .ofNat 1, .ofNat 0), (0, .ofNat 0, .ofNat 0)), (0, 1, (0, .ofNat 0, .ofNat 0), (4, .ofNat 1, .ofNat 0), (0, .ofNat 0, .ofNat 0)), (2, 2, (2, .ofNat 1, .ofNat 0), (3, .ofNat 1, .ofNat 0), (0, .ofNat 0, .ofNat 0)), (0, 98, (0, .ofNat 0, .ofNat 0), (3, .ofNat 1, .ofNat 0), (0, .ofNat 0, .ofNat 0))], [(1, [(.ofNat 0, .ofNat 999999)]), (2, [(.ofNat 0, .ofNat 7)]), (3, [(.ofNat 1, .ofNat 8)]), (4, [(.ofNat 1, .ofNat 8)]), (5, [(.ofNat 0, .ofNat 1000000)]), (6, [(.ofNat 0, .ofNat 1000000)]), (7, [(.negSucc 999999, .negSucc 0)])], [((5, .ofNat 1, .ofNat 0), (6, .negSucc 0, .ofNat 0), (7, .ofNat 1, .ofNat 0))], []),
  (5, [(0, .inr (.inl [98])), (1, .inr (.inl [1])), (2, .inl (false, (1, .ofNat 1, .ofNat 0))), (3, .inl (false, (2, .ofNat 1, .ofNat 1)))], [], [(2, 3, (1, .ofNat 1, .ofNat 0), (7, .negSucc 0, .ofNat 0), (0, .ofNat 0, .ofNat 0)), (2, 2, (7, .ofNat 1, .ofNat 0), (0, .ofNat 0, .ofNat 0), (0, .ofNat 0, .ofNat 0)), (0, 2, (2, .ofNat 1, .ofNat 0), (6, .ofNat 1, .ofNat 0), (0, .ofNat 0, .ofNat 0)), (0, 99, (2, .ofNat 1, .ofNat 0), (5, .ofNat 1, .ofNat 0), (0, .ofNat 0, .ofNat 0)), (2, 2, (2, .ofNat 1, .ofNat 0), (4, .ofNat 1, .ofNat 0), (0, .ofNat 0, .ofNat 0)), (0, 1, (0, .ofNat 0, .ofNat 0), (4, .ofNat 1, .ofNat 0), (0, .ofNat 0, .ofNat 0)), (2, 2, (2, .ofNat 1, .ofNat 0), (3, .ofNat 1, .ofNat 0), (0, .ofNat 0, .ofNat 0)), (0, 98, (0, .ofNat 0, .ofNat 0), (3, .ofNat 1, .ofNat 0), (0, .ofNat 0, .ofNat 0))], [(1, [(.ofNat 1, .ofNat 1000000)]), (2, [(.ofNat 0, .ofNat 7)]), (3, [(.ofNat 1, .ofNat 8)]), (4, [(.ofNat 1, .ofNat 8)]), (5, [(.ofNat 0, .ofNat 1000000)]), (6, [(.ofNat 0, .ofNat 1000000)]), (7, [(.negSucc 999999, .negSucc 0)])], [((5, .ofNat 1, .ofNat 0), (6, .negSucc 0, .ofNat 0), (7, .ofNat 1, .ofNat 0))], [])]
set_option maxRecDepth 1000000 in
theorem sg_gg_x0b_g : sg_go [] [4] 3000 80 4 1 3 [(0, [(.ofNat 0, .ofNat 0)]), (1, [(.ofNat 0, .ofNat 1000000)]), (2, [(.ofNat 0, .ofNat 8)])] [] [] [] [(0, .inr (.inl [98])), (1, .inr (.inl [1])), (2, .inl (false, (1, .ofNat 1, .ofNat 0))), (3, .inl (false, (2, .ofNat 1, .ofNat 0)))] [] [] sg_gg_x0b_Z = true := by decide +kernel
set_option maxRecDepth 100000 in
theorem sg_gg_x0b {Q : Option Value × am_S → Prop} {d : Nat} {S : am_S} {L : am_L} {x1 x2 : Int} (hd : 1 ≤ d) (hP : ax_P0 none S) (l0 : lc L 0 98) (l1 : lc L 1 1) (l2 : li L 2 x1) (l3 : li L 3 x2) (b1 : (0 ≤ x1 ∧ x1 ≤ 1000000)) (b2 : (0 ≤ x2 ∧ x2 ≤ 8))
    (k0 : ∀ (x3 : Int) (i1 : Int32), rd S 98 0 = x3 → x3 ≤ x2 → (0 ≤ x1 ∧ x1 ≤ 1000000) → (0 ≤ x2 ∧ x2 ≤ 8) → (0 ≤ x3 ∧ x3 ≤ 8) → i1.toInt = x1 → Q (some (.int i1), S))
    (k1 : ∀ (x3 x4 : Int) (i1 : Int32), rd S 98 0 = x3 → x2 < x3 → rd S 1 0 = x4 → x4 ≤ x2 → (0 ≤ x1 ∧ x1 ≤ 1000000) → (0 ≤ x2 ∧ x2 ≤ 7) → (1 ≤ x3 ∧ x3 ≤ 8) → (0 ≤ x4 ∧ x4 ≤ 7) → i1.toInt = x1 → Q (some (.int i1), S))
    (k2 : ∀ (x3 x4 x5 x6 x7 : Int) (L' : am_L), rd S 98 0 = x3 → x2 < x3 → rd S 1 0 = x4 → x2 < x4 → rd S 99 x2 = x5 → rd S 2 x2 = x6 → 0 ≤ x7 → x1 < x7 → (0 ≤ x1 ∧ x1 ≤ 999999) → (0 ≤ x2 ∧ x2 ≤ 7) → (1 ≤ x3 ∧ x3 ≤ 8) → (1 ≤ x4 ∧ x4 ≤ 8) → (0 ≤ x5 ∧ x5 ≤ 1000000) → (0 ≤ x6 ∧ x6 ≤ 1000000) → (1 ≤ x7 ∧ x7 ≤ 1000000) → x5 + ((-1) * x6 + 0) = x7 → lc L' 0 98 → lc L' 1 1 → li L' 2 x7 → li L' 3 (x2 + 1) → am_V none d 80 4 L' ([]) S Q)
    (k3 : ∀ (x3 x4 x5 x6 x7 : Int) (L' : am_L), rd S 98 0 = x3 → x2 < x3 → rd S 1 0 = x4 → x2 < x4 → rd S 99 x2 = x5 → rd S 2 x2 = x6 → 0 ≤ x7 → x7 ≤ x1 → (0 ≤ x1 ∧ x1 ≤ 1000000) → (0 ≤ x2 ∧ x2 ≤ 7) → (1 ≤ x3 ∧ x3 ≤ 8) → (1 ≤ x4 ∧ x4 ≤ 8) → (0 ≤ x5 ∧ x5 ≤ 1000000) → (0 ≤ x6 ∧ x6 ≤ 1000000) → (0 ≤ x7 ∧ x7 ≤ 1000000) → x5 + ((-1) * x6 + 0) = x7 → lc L' 0 98 → lc L' 1 1 → li L' 2 x1 → li L' 3 (x2 + 1) → am_V none d 80 4 L' ([]) S Q)
    (k4 : ∀ (x3 x4 x5 x6 x7 : Int) (L' : am_L), rd S 98 0 = x3 → x2 < x3 → rd S 1 0 = x4 → x2 < x4 → rd S 99 x2 = x5 → rd S 2 x2 = x6 → x7 < 0 → x1 < (-1) * x7 + 0 → (0 ≤ x1 ∧ x1 ≤ 999999) → (0 ≤ x2 ∧ x2 ≤ 7) → (1 ≤ x3 ∧ x3 ≤ 8) → (1 ≤ x4 ∧ x4 ≤ 8) → (0 ≤ x5 ∧ x5 ≤ 1000000) → (0 ≤ x6 ∧ x6 ≤ 1000000) → ((-1000000) ≤ x7 ∧ x7 ≤ (-1)) → x5 + ((-1) * x6 + 0) = x7 → lc L' 0 98 → lc L' 1 1 → li L' 2 ((-1) * x7 + 0) → li L' 3 (x2 + 1) → am_V none d 80 4 L' ([]) S Q)
    (k5 : ∀ (x3 x4 x5 x6 x7 : Int) (L' : am_L), rd S 98 0 = x3 → x2 < x3 → rd S 1 0 = x4 → x2 < x4 → rd S 99 x2 = x5 → rd S 2 x2 = x6 → x7 < 0 → (-1) * x7 + 0 ≤ x1 → (1 ≤ x1 ∧ x1 ≤ 1000000) → (0 ≤ x2 ∧ x2 ≤ 7) → (1 ≤ x3 ∧ x3 ≤ 8) → (1 ≤ x4 ∧ x4 ≤ 8) → (0 ≤ x5 ∧ x5 ≤ 1000000) → (0 ≤ x6 ∧ x6 ≤ 1000000) → ((-1000000) ≤ x7 ∧ x7 ≤ (-1)) → x5 + ((-1) * x6 + 0) = x7 → lc L' 0 98 → lc L' 1 1 → li L' 2 x1 → li L' 3 (x2 + 1) → am_V none d 80 4 L' ([]) S Q) : am_V none d 80 4 L ([]) S Q := by
  refine sg_use sg_gg_x0b_g hd hP (sg_xs [0, x1, x2]) ⟨⟨Int.le_refl 0, Int.le_refl 0⟩, b1, b2, trivial⟩ trivial trivial trivial ⟨l0, l1, l2, l3, trivial⟩ trivial ?_
  intro z hz x' L' st' S' hx hP' hW hL' hs' hJ hE' hT' hD'
  have q1 : x' 1 = x1 := hx 1 (by decide)
  subst q1
  have q2 : x' 2 = x2 := hx 2 (by decide)
  subst q2
  have eS : S' = S := hW.1 rfl
  subst eS
  simp only [sg_gg_x0b_Z, List.mem_cons, List.not_mem_nil, or_false] at hz
  rcases hz with rfl | rfl | rfl | rfl | rfl | rfl
  · obtain ⟨f0, f1, hσ⟩ := hJ
    obtain ⟨e0, e1, e2, -⟩ := hE'
    intro v hv
    subst hv
    cases v with
    | none => exact hs'.elim
    | some v1 =>
      obtain ⟨⟨i1, rfl, g1⟩, -⟩ := hs'
      exact k0 (x' 3) i1 f0 f1 e0 e1 e2 g1
  · obtain ⟨f0, f1, f2, f3, hσ⟩ := hJ
    obtain ⟨e0, e1, e2, e3, -⟩ := hE'
    intro v hv
    subst hv
    cases v with
    | none => exact hs'.elim
    | some v1 =>
      obtain ⟨⟨i1, rfl, g1⟩, -⟩ := hs'
      exact k1 (x' 3) (x' 4) i1 f0 f1 f2 f3 e0 e1 e2 e3 g1
  · obtain ⟨f0, f1, f2, f3, f4, f5, f6, f7, hσ⟩ := hJ
    obtain ⟨e0, e1, e2, e3, e4, e5, e6, -⟩ := hE'
    obtain ⟨t0, -⟩ := hT'
    obtain ⟨p0, p1, p2, p3, -⟩ := hL'
    obtain rfl := sg_tn hs'
    exact k2 (x' 3) (x' 4) (x' 5) (x' 6) (x' 7) L' f0 f1 f2 f3 f4 f5 f6 f7 e0 e1 e2 e3 e4 e5 e6 t0 p0 p1 p2 p3
  · obtain ⟨f0, f1, f2, f3, f4, f5, f6, f7, hσ⟩ := hJ
    obtain ⟨e0, e1, e2, e3, e4, e5, e6, -⟩ := hE'
    obtain ⟨t0, -⟩ := hT'
    obtain ⟨p0, p1, p2, p3, -⟩ := hL'
    obtain rfl := sg_tn hs'
    exact k3 (x' 3) (x' 4) (x' 5) (x' 6) (x' 7) L' f0 f1 f2 f3 f4 f5 f6 f7 e0 e1 e2 e3 e4 e5 e6 t0 p0 p1 p2 p3
  · obtain ⟨f0, f1, f2, f3, f4, f5, f6, f7, hσ⟩ := hJ
    obtain ⟨e0, e1, e2, e3, e4, e5, e6, -⟩ := hE'
    obtain ⟨t0, -⟩ := hT'
    obtain ⟨p0, p1, p2, p3, -⟩ := hL'
    obtain rfl := sg_tn hs'
    exact k4 (x' 3) (x' 4) (x' 5) (x' 6) (x' 7) L' f0 f1 f2 f3 f4 f5 f6 f7 e0 e1 e2 e3 e4 e5 e6 t0 p0 p1 p2 p3
  · obtain ⟨f0, f1, f2, f3, f4, f5, f6, f7, hσ⟩ := hJ
    obtain ⟨e0, e1, e2, e3, e4, e5, e6, -⟩ := hE'
    obtain ⟨t0, -⟩ := hT'
    obtain ⟨p0, p1, p2, p3, -⟩ := hL'
    obtain rfl := sg_tn hs'
    exact k5 (x' 3) (x' 4) (x' 5) (x' 6) (x' 7) L' f0 f1 f2 f3 f4 f5 f6 f7 e0 e1 e2 e3 e4 e5 e6 t0 p0 p1 p2 p3
def sg_gg_x1a_Z : List sg_z := [(5, [(0, .inr (.inl [102])), (1, .inr (.inl [1])), (2, .inl (false, (0, .ofNat 0, .ofNat 0))), (3, .inl (false, (0, .ofNat 0, .ofNat 0)))], [], [], [], [], [])]
set_option maxRecDepth 1000000 in
theorem sg_gg_x1a_g : sg_go [] [4] 3000 80 0 0 1 [(0, [(.ofNat 0, .ofNat 0)])] [] [] [] [(0, .inr (.inl [102])), (1, .inr (.inl [1]))] [] [] sg_gg_x1a_Z = true := by decide +kernel
set_option maxRecDepth 100000 in
theorem sg_gg_x1a {Q : Option Value × am_S → Prop} {d : Nat} {S : am_S} {L : am_L} (hd : 0 ≤ d) (hP : ax_P0 none S) (l0 : lc L 0 102) (l1 : lc L 1 1)
    (k0 : ∀ (L' : am_L), lc L' 0 102 → lc L' 1 1 → li L' 2 0 → li L' 3 0 → am_V none d 80 4 L' ([]) S Q) : am_V none d 80 0 L ([]) S Q := by
  refine sg_use sg_gg_x1a_g hd hP (sg_xs [0]) ⟨⟨Int.le_refl 0, Int.le_refl 0⟩, trivial⟩ trivial trivial trivial ⟨l0, l1, trivial⟩ trivial ?_
  intro z hz x' L' st' S' hx hP' hW hL' hs' hJ hE' hT' hD'
  have eS : S' = S := hW.1 rfl
  subst eS
  simp only [sg_gg_x1a_Z, List.mem_cons, List.not_mem_nil, or_false] at hz
  rcases hz with rfl
  · have hσ := hJ
    obtain ⟨p0, p1, p2, p3, -⟩ := hL'
    obtain rfl := sg_tn hs'
    exact k0 L' p0 p1 p2 p3
def sg_gg_x1b_Z : List sg_z := [(0, [], [.inl (false, (1, .ofNat 1, .ofNat 0))], [(2, 3, (2, .ofNat 1, .ofNat 0), (3, .ofNat 1, .ofNat 0), (0, .ofNat 0, .ofNat 0)), (0, 102, (0, .ofNat 0, .ofNat 0), (3, .ofNat 1, .ofNat 0), (0, .ofNat 0, .ofNat 0))], [(1, [(.ofNat 0, .ofNat 1000000)]), (2, [(.ofNat 0, .ofNat 8)]), (3, [(.ofNat 0, .ofNat 8)])], [], []),
  (0, [], [.inl (false, (1, .ofNat 1, .ofNat 0))], [(2, 3, (2, .ofNat 1, .ofNat 0), (4, .ofNat 1, .ofNat 0), (0, .ofNat 0, .ofNat 0)), (0, 1, (0, .ofNat 0, .ofNat 0), (4, .ofNat 1, .ofNat 0), (0, .ofNat 0, .ofNat 0)), (2, 2, (2, .ofNat 1, .ofNat 0), (3, .ofNat 1, .ofNat 0), (0, .ofNat 0, .ofNat 0)), (0, 102, (0, .ofNat 0, .ofNat 0), (3, .ofNat 1, .ofNat 0), (0, .ofNat 0, .ofNat 0))], [(1, [(.ofNat 0, .ofNat 1000000)]), (2, [(.ofNat 0, .ofNat 7)]), (3, [(.ofNat 1, .ofNat 8)]), (4, [(.ofNat 0, .ofNat 7)])], [], []),
  (5, [(0, .inr (.inl [102])), (1, .inr (.inl [1])), (2, .inl (false, (7, .ofNat 1, .ofNat 0))), (3, .inl (false, (2, .ofNat 1, .ofNat 1)))], [], [(2, 2, (1, .ofNat 1, .ofNat 0), (7, .ofNat 1, .ofNat 0), (0, .ofNat 0, .ofNat 0)), (2, 3, (7, .ofNat 1, .ofNat 0), (0, .ofNat 0, .ofNat 0), (0, .ofNat 0, .ofNat 0)), (0, 2, (2, .ofNat 1, .ofNat 0), (6, .ofNat 1, .ofNat 0), (0, .ofNat 0, .ofNat 0)), (0, 103, (2, .ofNat 1, .ofNat 0), (5, .ofNat 1, .ofNat 0), (0, .ofNat 0, .ofNat 0)), (2, 2, (2, .ofNat 1, .ofNat 0), (4, .ofNat 1, .ofNat 0), (0, .ofNat 0, .ofNat 0)), (0, 1, (0, .ofNat 0, .ofNat 0), (4, .ofNat 1, .ofNat 0), (0, .ofNat 0, .ofNat 0)), (2, 2, (2, .ofNat 1, .ofNat 0), (3, .ofNat 1, .ofNat 0), (0, .ofNat 0, .ofNat 0)), (0, 102, (0, .ofNat 0, .ofNat 0), (3, .ofNat 1, .ofNat 0), (0, .ofNat 0, .ofNat 0))], [(1, [(.ofNat 0, .ofNat 999999)]), (2, [(.ofNat 0, .ofNat 7)]), (3, [(.ofNat 1, .ofNat 8)]), (4, [(.ofNat 1, .ofNat 8)]), (5, [(.ofNat 0, .ofNat 1000000)]), (6, [(.ofNat 0, .ofNat 1000000)]), (7, [(.ofNat 1, .ofNat 1000000)])], [((5, .ofNat 1, .ofNat 0), (6, .negSucc 0, .ofNat 0), (7, .ofNat 1, .ofNat 0))], []),
  (5, [(0, .inr (.inl [102])), (1, .inr (.inl [1])), (2, .inl (false, (1, .ofNat 1, .ofNat 0))), (3, .inl (false, (2, .ofNat 1, .ofNat 1)))], [], [(2, 3, (1, .ofNat 1, .ofNat 0), (7, .ofNat 1, .ofNat 0), (0, .ofNat 0, .ofNat 0)), (2, 3, (7, .ofNat 1, .ofNat 0), (0, .ofNat 0, .ofNat 0), (0, .ofNat 0, .ofNat 0)), (0, 2, (2, .ofNat 1, .ofNat 0), (6, .ofNat 1, .ofNat 0), (0, .ofNat 0, .ofNat 0)), (0, 103, (2, .ofNat 1, .ofNat 0), (5, .ofNat 1, .ofNat 0), (0, .ofNat 0, .ofNat 0)), (2, 2, (2, .ofNat 1, .ofNat 0), (4, .ofNat 1, .ofNat 0), (0, .ofNat 0, .ofNat 0)), (0, 1, (0, .ofNat 0, .ofNat 0), (4, .ofNat 1, .ofNat 0), (0, .ofNat 0, .ofNat 0)), (2, 2, (2, .ofNat 1, .ofNat 0), (3, .ofNat 1, .ofNat 0), (0, .ofNat 0, .ofNat 0)), (0, 102, (0, .ofNat 0, .ofNat 0), (3, .ofNat 1, .ofNat 0), (0, .ofNat 0, .ofNat 0))], [(1, [(.ofNat 0, .ofNat 1000000)]), (2, [(.ofNat 0, .ofNat 7)]), (3, [(.ofNat 1, .ofNat 8)]), (4, [(.ofNat 1, .ofNat 8)]), (5, [(.ofNat 0, .ofNat 1000000)]), (6, [(.ofNat 0, .ofNat 1000000)]), (7, [(.ofNat 0, .ofNat 1000000)])], [((5, .ofNat 1, .ofNat 0), (6, .negSucc 0, .ofNat 0), (7, .ofNat 1, .ofNat 0))], []),
  (5, [(0, .inr (.inl [102])), (1, .inr (.inl [1])), (2, .inl (false, (7, .negSucc 0, .ofNat 0))), (3, .inl (false, (2, .ofNat 1, .ofNat 1)))], [], [(2, 2, (1, .ofNat 1, .ofNat 0), (7, .negSucc 0, .ofNat 0), (0, .ofNat 0, .ofNat 0)), (2, 2, (7, .ofNat 1, .ofNat 0), (0, .ofNat 0, .ofNat 0), (0, .ofNat 0, .ofNat 0)), (0, 2, (2, .ofNat 1, .ofNat 0), (6, .ofNat 1, .ofNat 0), (0, .ofNat 0, .ofNat 0)), (0, 103, (2, .ofNat 1, .ofNat 0), (5, .ofNat 1, .ofNat 0), (0, .ofNat 0, .ofNat 0)), (2, 2, (2, .ofNat 1, .ofNat 0), (4, .ofNat 1, .ofNat 0), (0, .ofNat 0, .ofNat 0)), (0, 1, (0, .ofNat 0, .ofNat 0), (4, .ofNat 1, .ofNat 0), (0, .ofNat 0, .ofNat 0)), (2, 2, (2, .ofNat 1, .ofNat 0), (3, .ofNat 1, .ofNat 0), (0, .ofNat 0, .ofNat 0)), (0, 102, (0, .ofNat 0, .ofNat 0), (3, .ofNat 1, .ofNat 0), (0, .ofNat 0, .ofNat 0))], [(1, [(.ofNat 0, .ofNat 999999)]), (2, [(.ofNat 0, .ofNat 7)]), (3, [(.ofNat 1, .ofNat 8)]), (4, [(.ofNat 1, .ofNat 8)]), (5, [(.ofNat 0, .ofNat 1000000)]), (6, [(.ofNat 0, .ofNat 1000000)]), (7, [(.negSucc 999999, .negSucc 0)])], [((5, .ofNat 1, .ofNat 0), (6, .negSucc 0, .ofNat 0), (7, .ofNat 1, .ofNat 0))], []),
  (5, [(0, .inr (.inl [102])), (1, .inr (.inl [1])), (2, .inl (false, (1, .ofNat 1, .ofNat 0))), (3, .inl (false, (2, .ofNat 1, .ofNat 1)))], [], [(2, 3, (1, .ofNat 1, .ofNat 0), (7, .negSucc 0, .ofNat 0), (0, .ofNat 0, .ofNat 0)), (2, 2, (7, .ofNat 1, .ofNat 0), (0, .ofNat 0, .ofNat 0), (0, .ofNat 0, .ofNat 0)), (0, 2, (2, .ofNat 1, .ofNat 0), (6, .ofNat 1, .ofNat 0), (0, .ofNat 0, .ofNat 0)), (0, 103, (2, .ofNat 1, .ofNat 0), (5, .ofNat 1, .ofNat 0), (0, .ofNat 0, .ofNat 0)), (2, 2, (2, .ofNat 1, .ofNat 0), (4, .ofNat 1, .ofNat 0), (0, .ofNat 0, .ofNat 0)), (0, 1, (0, .ofNat 0, .ofNat 0), (4, .ofNat 1, .ofNat 0), (0, .ofNat 0, .ofNat 0)), (2, 2, (2, .ofNat 1, .ofNat 0), (3, .ofNat 1, .ofNat 0), (0, .ofNat 0, .ofNat 0)), (0, 102, (0, .ofNat 0, .ofNat 0), (3, .ofNat 1, .ofNat 0), (0, .ofNat 0, .ofNat 0))], [(1, [(.ofNat 1, .ofNat 1000000)]), (2, [(.ofNat 0, .ofNat 7)]), (3, [(.ofNat 1, .ofNat 8)]), (4, [(.ofNat 1, .ofNat 8)]), (5, [(.ofNat 0, .ofNat 1000000)]), (6, [(.ofNat 0, .ofNat 1000000)]), (7, [(.negSucc 999999, .negSucc 0)])], [((5, .ofNat 1, .ofNat 0), (6, .negSucc 0, .ofNat 0), (7, .ofNat 1, .ofNat 0))], [])]
set_option maxRecDepth 1000000 in
theorem sg_gg_x1b_g : sg_go [] [4] 3000 80 4 1 3 [(0, [(.ofNat 0, .ofNat 0)]), (1, [(.ofNat 0, .ofNat 1000000)]), (2, [(.ofNat 0, .ofNat 8)])] [] [] [] [(0, .inr (.inl [102])), (1, .inr (.inl [1])), (2, .inl (false, (1, .ofNat 1, .ofNat 0))), (3, .inl (false, (2, .ofNat 1, .ofNat 0)))] [] [] sg_gg_x1b_Z = true := by decide +kernel
set_option maxRecDepth 100000 in
theorem sg_gg_x1b {Q : Option Value × am_S → Prop} {d : Nat} {S : am_S} {L : am_L} {x1 x2 : Int} (hd : 1 ≤ d) (hP : ax_P0 none S) (l0 : lc L 0 102) (l1 : lc L 1 1) (l2 : li L 2 x1) (l3 : li L 3 x2) (b1 : (0 ≤ x1 ∧ x1 ≤ 1000000)) (b2 : (0 ≤ x2 ∧ x2 ≤ 8))
    (k0 : ∀ (x3 : Int) (i1 : Int32), rd S 102 0 = x3 → x3 ≤ x2 → (0 ≤ x1 ∧ x1 ≤ 1000000) → (0 ≤ x2 ∧ x2 ≤ 8) → (0 ≤ x3 ∧ x3 ≤ 8) → i1.toInt = x1 → Q (some (.int i1), S))
    (k1 : ∀ (x3 x4 : Int) (i1 : Int32), rd S 102 0 = x3 → x2 < x3 → rd S 1 0 = x4 → x4 ≤ x2 → (0 ≤ x1 ∧ x1 ≤ 1000000) → (0 ≤ x2 ∧ x2 ≤ 7) → (1 ≤ x3 ∧ x3 ≤ 8) → (0 ≤ x4 ∧ x4 ≤ 7) → i1.toInt = x1 → Q (some (.int i1), S))
    (k2 : ∀ (x3 x4 x5 x6 x7 : Int) (L' : am_L), rd S 102 0 = x3 → x2 < x3 → rd S 1 0 = x4 → x2 < x4 → rd S 103 x2 = x5 → rd S 2 x2 = x6 → 0 ≤ x7 → x1 < x7 → (0 ≤ x1 ∧ x1 ≤ 999999) → (0 ≤ x2 ∧ x2 ≤ 7) → (1 ≤ x3 ∧ x3 ≤ 8) → (1 ≤ x4 ∧ x4 ≤ 8) → (0 ≤ x5 ∧ x5 ≤ 1000000) → (0 ≤ x6 ∧ x6 ≤ 1000000) → (1 ≤ x7 ∧ x7 ≤ 1000000) → x5 + ((-1) * x6 + 0) = x7 → lc L' 0 102 → lc L' 1 1 → li L' 2 x7 → li L' 3 (x2 + 1) → am_V none d 80 4 L' ([]) S Q)
    (k3 : ∀ (x3 x4 x5 x6 x7 : Int) (L' : am_L), rd S 102 0 = x3 → x2 < x3 → rd S 1 0 = x4 → x2 < x4 → rd S 103 x2 = x5 → rd S 2 x2 = x6 → 0 ≤ x7 → x7 ≤ x1 → (0 ≤ x1 ∧ x1 ≤ 1000000) → (0 ≤ x2 ∧ x2 ≤ 7) → (1 ≤ x3 ∧ x3 ≤ 8) → (1 ≤ x4 ∧ x4 ≤ 8) → (0 ≤ x5 ∧ x5 ≤ 1000000) → (0 ≤ x6 ∧ x6 ≤ 1000000) → (0 ≤ x7 ∧ x7 ≤ 1000000) → x5 + ((-1) * x6 + 0) = x7 → lc L' 0 102 → lc L' 1 1 → li L' 2 x1 → li L' 3 (x2 + 1) → am_V none d 80 4 L' ([]) S Q)
    (k4 : ∀ (x3 x4 x5 x6 x7 : Int) (L' : am_L), rd S 102 0 = x3 → x2 < x3 → rd S 1 0 = x4 → x2 < x4 → rd S 103 x2 = x5 → rd S 2 x2 = x6 → x7 < 0 → x1 < (-1) * x7 + 0 → (0 ≤ x1 ∧ x1 ≤ 999999) → (0 ≤ x2 ∧ x2 ≤ 7) → (1 ≤ x3 ∧ x3 ≤ 8) → (1 ≤ x4 ∧ x4 ≤ 8) → (0 ≤ x5 ∧ x5 ≤ 1000000) → (0 ≤ x6 ∧ x6 ≤ 1000000) → ((-1000000) ≤ x7 ∧ x7 ≤ (-1)) → x5 + ((-1) * x6 + 0) = x7 → lc L' 0 102 → lc L' 1 1 → li L' 2 ((-1) * x7 + 0) → li L' 3 (x2 + 1) → am_V none d 80 4 L' ([]) S Q)
    (k5 : ∀ (x3 x4 x5 x6 x7 : Int) (L' : am_L), rd S 102 0 = x3 → x2 < x3 → rd S 1 0 = x4 → x2 < x4 → rd S 103 x2 = x5 → rd S 2 x2 = x6 → x7 < 0 → (-1) * x7 + 0 ≤ x1 → (1 ≤ x1 ∧ x1 ≤ 1000000) → (0 ≤ x2 ∧ x2 ≤ 7) → (1 ≤ x3 ∧ x3 ≤ 8) → (1 ≤ x4 ∧ x4 ≤ 8) → (0 ≤ x5 ∧ x5 ≤ 1000000) → (0 ≤ x6 ∧ x6 ≤ 1000000) → ((-1000000) ≤ x7 ∧ x7 ≤ (-1)) → x5 + ((-1) * x6 + 0) = x7 → lc L' 0 102 → lc L' 1 1 → li L' 2 x1 → li L' 3 (x2 + 1) → am_V none d 80 4 L' ([]) S Q) : am_V none d 80 4 L ([]) S Q := by
  refine sg_use sg_gg_x1b_g hd hP (sg_xs [0, x1, x2]) ⟨⟨Int.le_refl 0, Int.le_refl 0⟩, b1, b2, trivial⟩ trivial trivial trivial ⟨l0, l1, l2, l3, trivial⟩ trivial ?_
  intro z hz x' L' st' S' hx hP' hW hL' hs' hJ hE' hT' hD'
  have q1 : x' 1 = x1 := hx 1 (by decide)
  subst q1
  have q2 : x' 2 = x2 := hx 2 (by decide)
  subst q2
  have eS : S' = S := hW.1 rfl
  subst eS
  simp only [sg_gg_x1b_Z, List.mem_cons, List.not_mem_nil, or_false] at hz
  rcases hz with rfl | rfl | rfl | rfl | rfl | rfl
  · obtain ⟨f0, f1, hσ⟩ := hJ
    obtain ⟨e0, e1, e2, -⟩ := hE'
    intro v hv
    subst hv
    cases v with
    | none => exact hs'.elim
    | some v1 =>
      obtain ⟨⟨i1, rfl, g1⟩, -⟩ := hs'
      exact k0 (x' 3) i1 f0 f1 e0 e1 e2 g1
  · obtain ⟨f0, f1, f2, f3, hσ⟩ := hJ
    obtain ⟨e0, e1, e2, e3, -⟩ := hE'
    intro v hv
    subst hv
    cases v with
    | none => exact hs'.elim
    | some v1 =>
      obtain ⟨⟨i1, rfl, g1⟩, -⟩ := hs'
      exact k1 (x' 3) (x' 4) i1 f0 f1 f2 f3 e0 e1 e2 e3 g1
  · obtain ⟨f0, f1, f2, f3, f4, f5, f6, f7, hσ⟩ := hJ
    obtain ⟨e0, e1, e2, e3, e4, e5, e6, -⟩ := hE'
    obtain ⟨t0, -⟩ := hT'
    obtain ⟨p0, p1, p2, p3, -⟩ := hL'
    obtain rfl := sg_tn hs'
    exact k2 (x' 3) (x' 4) (x' 5) (x' 6) (x' 7) L' f0 f1 f2 f3 f4 f5 f6 f7 e0 e1 e2 e3 e4 e5 e6 t0 p0 p1 p2 p3
  · obtain ⟨f0, f1, f2, f3, f4, f5, f6, f7, hσ⟩ := hJ
    obtain ⟨e0, e1, e2, e3, e4, e5, e6, -⟩ := hE'
    obtain ⟨t0, -⟩ := hT'
    obtain ⟨p0, p1, p2, p3, -⟩ := hL'
    obtain rfl := sg_tn hs'
    exact k3 (x' 3) (x' 4) (x' 5) (x' 6) (x' 7) L' f0 f1 f2 f3 f4 f5 f6 f7 e0 e1 e2 e3 e4 e5 e6 t0 p0 p1 p2 p3
  · obtain ⟨f0, f1, f2, f3, f4, f5, f6, f7, hσ⟩ := hJ
    obtain ⟨e0, e1, e2, e3, e4, e5, e6, -⟩ := hE'
    obtain ⟨t0, -⟩ := hT'
    obtain ⟨p0, p1, p2, p3, -⟩ := hL'
    obtain rfl := sg_tn hs'
    exact k4 (x' 3) (x' 4) (x' 5) (x' 6) (x' 7) L' f0 f1 f2 f3 f4 f5 f6 f7 e0 e1 e2 e3 e4 e5 e6 t0 p0 p1 p2 p3
  · obtain ⟨f0, f1, f2, f3, f4, f5, f6, f7, hσ⟩ := hJ
    obtain ⟨e0, e1, e2, e3, e4, e5, e6, -⟩ := hE'
    obtain ⟨t0, -⟩ := hT'
    obtain ⟨p0, p1, p2, p3, -⟩ := hL'
    obtain rfl := sg_tn hs'
    exact k5 (x' 3) (x' 4) (x' 5) (x' 6) (x' 7) L' f0 f1 f2 f3 f4 f5 f6 f7 e0 e1 e2 e3 e4 e5 e6 t0 p0 p1 p2 p3
def sg_gg_x2a_Z : List sg_z := [(5, [(0, .inr (.inl [106])), (1, .inr (.inl [1])), (2, .inl (false, (0, .ofNat 0, .ofNat 0))), (3, .inl (false, (0, .ofNat 0, .ofNat 0)))], [], [], [], [], [])]
set_option maxRecDepth 1000000 in
theorem sg_gg_x2a_g : sg_go [] [4] 3000 80 0 0 1 [(0, [(.ofNat 0, .ofNat 0)])] [] [] [] [(0, .inr (.inl [106])), (1, .inr (.inl [1]))] [] [] sg_gg_x2a_Z = true := by decide +kernel
set_option maxRecDepth 100000 in
theorem sg_gg_x2a {Q : Option Value × am_S → Prop} {d : Nat} {S : am_S} {L : am_L} (hd : 0 ≤ d) (hP : ax_P0 none S) (l0 : lc L 0 106) (l1 : lc L 1 1)
    (k0 : ∀ (L' : am_L), lc L' 0 106 → lc L' 1 1 → li L' 2 0 → li L' 3 0 → am_V none d 80 4 L' ([]) S Q) : am_V none d 80 0 L ([]) S Q := by
  refine sg_use sg_gg_x2a_g hd hP (sg_xs [0]) ⟨⟨Int.le_refl 0, Int.le_refl 0⟩, trivial⟩ trivial trivial trivial ⟨l0, l1, trivial⟩ trivial ?_
  intro z hz x' L' st' S' hx hP' hW hL' hs' hJ hE' hT' hD'
  have eS : S' = S := hW.1 rfl
  subst eS
  simp only [sg_gg_x2a_Z, List.mem_cons, List.not_mem_nil, or_false] at hz
  rcases hz with rfl
  · have hσ := hJ
    obtain ⟨p0, p1, p2, p3, -⟩ := hL'
    obtain rfl := sg_tn hs'
    exact k0 L' p0 p1 p2 p3
def sg_gg_x2b_Z : List sg_z := [(0, [], [.inl (false, (1, .ofNat 1, .ofNat 0))], [(2, 3, (2, .ofNat 1, .ofNat 0), (3, .ofNat 1, .ofNat 0), (0, .ofNat 0, .ofNat 0)), (0, 106, (0, .ofNat 0, .ofNat 0), (3, .ofNat 1, .ofNat 0), (0, .ofNat 0, .ofNat 0))], [(1, [(.ofNat 0, .ofNat 1000000)]), (2, [(.ofNat 0, .ofNat 8)]), (3, [(.ofNat 0, .ofNat 8)])], [], []),
  (0, [], [.inl (false, (1, .ofNat 1, .ofNat 0))], [(2, 3, (2, .ofNat 1, .ofNat 0), (4, .ofNat 1, .ofNat 0), (0, .ofNat 0, .ofNat 0)), (0, 1, (0, .ofNat 0, .ofNat 0), (4, .ofNat 1, .ofNat 0), (0, .ofNat 0, .ofNat 0)), (2, 2, (2, .ofNat 1, .ofNat 0), (3, .ofNat 1, .ofNat 0), (0, .ofNat 0, .ofNat 0)), (0, 106, (0, .ofNat 0, .ofNat 0), (3, .ofNat 1, .ofNat 0), (0, .ofNat 0, .ofNat 0))], [(1, [(.ofNat 0, .ofNat 1000000)]), (2, [(.ofNat 0, .ofNat 7)]), (3, [(.ofNat 1, .ofNat 8)]), (4, [(.ofNat 0, .ofNat 7)])], [], []),
  (5, [(0, .inr (.inl [106])), (1, .inr (.inl [1])), (2, .inl (false, (7, .ofNat 1, .ofNat 0))), (3, .inl (false, (2, .ofNat 1, .ofNat 1)))], [], [(2, 2, (1, .ofNat 1, .ofNat 0), (7, .ofNat 1, .ofNat 0), (0, .ofNat 0, .ofNat 0)), (2, 3, (7, .ofNat 1, .ofNat 0), (0, .ofNat 0, .ofNat 0), (0, .ofNat 0, .ofNat 0)), (0, 2, (2, .ofNat 1, .ofNat 0), (6, .ofNat 1, .ofNat 0), (0, .ofNat 0, .ofNat 0)), (0, 107, (2, .ofNat 1, .ofNat 0), (5, .ofNat 1, .ofNat 0), (0, .ofNat 0, .ofNat 0)), (2, 2, (2, .ofNat 1, .ofNat 0), (4, .ofNat 1, .ofNat 0), (0, .ofNat 0, .ofNat 0)), (0, 1, (0, .ofNat 0, .ofNat 0), (4, .ofNat 1, .ofNat 0), (0, .ofNat 0, .ofNat 0)), (2, 2, (2, .ofNat 1, .ofNat 0), (3, .ofNat 1, .ofNat 0), (0, .ofNat 0, .ofNat 0)), (0, 106, (0, .ofNat 0, .ofNat 0), (3, .ofNat 1, .ofNat 0), (0, .ofNat 0, .ofNat 0))], [(1, [(.ofNat 0, .ofNat 999999)]), (2, [(.ofNat 0, .ofNat 7)]), (3, [(.ofNat 1, .ofNat 8)]), (4, [(.ofNat 1, .ofNat 8)]), (5, [(.ofNat 0, .ofNat 1000000)]), (6, [(.ofNat 0, .ofNat 1000000)]), (7, [(.ofNat 1, .ofNat 1000000)])], [((5, .ofNat 1, .ofNat 0), (6, .negSucc 0, .ofNat 0), (7, .ofNat 1, .ofNat 0))], []),
  (5, [(0, .inr (.inl [106])), (1, .inr (.inl [1])), (2, .inl (false, (1, .ofNat 1, .ofNat 0))), (3, .inl (false, (2, .ofNat 1, .ofNat 1)))], [], [(2, 3, (1, .ofNat 1, .ofNat 0), (7, .ofNat 1, .ofNat 0), (0, .ofNat 0, .ofNat 0)), (2, 3, (7, .ofNat 1, .ofNat 0), (0, .ofNat 0, .ofNat 0), (0, .ofNat 0, .ofNat 0)), (0, 2, (2, .ofNat 1, .ofNat 0), (6, .ofNat 1, .ofNat 0), (0, .ofNat 0, .ofNat 0)), (0, 107, (2, .ofNat 1, .ofNat 0), (5, .ofNat 1, .ofNat 0), (0, .ofNat 0, .ofNat 0)), (2, 2, (2, .ofNat 1, .ofNat 0), (4, .ofNat 1, .ofNat 0), (0, .ofNat 0, .ofNat 0)), (0, 1, (0, .ofNat 0, .ofNat 0), (4, .ofNat 1, .ofNat 0), (0, .ofNat 0, .ofNat 0)), (2, 2, (2, .ofNat 1, .ofNat 0), (3, .ofNat 1, .ofNat 0), (0, .ofNat 0, .ofNat 0)), (0, 106, (0, .ofNat 0, .ofNat 0), (3, .ofNat 1, .ofNat 0), (0, .ofNat 0, .ofNat 0))], [(1, [(.ofNat 0, .ofNat 1000000)]), (2, [(.ofNat 0, .ofNat 7)]), (3, [(.ofNat 1, .ofNat 8)]), (4, [(.ofNat 1, .ofNat 8)]), (5, [(.ofNat 0, .ofNat 1000000)]), (6, [(.ofNat 0, .ofNat 1000000)]), (7, [(.ofNat 0, .ofNat 1000000)])], [((5, .ofNat 1, .ofNat 0), (6, .negSucc 0, .ofNat 0), (7, .ofNat 1, .ofNat 0))], []),
  (5, [(0, .inr (.inl [106])), (1, .inr (.inl [1])), (2, .inl (false, (7, .negSucc 0, .ofNat 0))), (3, .inl (false, (2, .ofNat 1, .ofNat 1)))], [], [(2, 2, (1, .ofNat 1, .ofNat 0), (7, .negSucc 0, .ofNat 0), (0, .ofNat 0, .ofNat 0)), (2, 2, (7, .ofNat 1, .ofNat 0), (0, .ofNat 0, .ofNat 0), (0, .ofNat 0, .ofNat 0)), (0, 2, (2, .ofNat 1, .ofNat 0), (6, .ofNat 1, .ofNat 0), (0, .ofNat 0, .ofNat 0)), (0, 107, (2, .ofNat 1, .ofNat 0), (5, .ofNat 1, .ofNat 0), (0, .ofNat 0, .ofNat 0)), (2, 2, (2, .ofNat 1, .ofNat 0), (4, .ofNat 1, .ofNat 0), (0, .ofNat 0, .ofNat 0)), (0, 1, (0, .ofNat 0, .ofNat 0), (4, .ofNat 1, .ofNat 0), (0, .ofNat 0, .ofNat 0)), (2, 2, (2, .ofNat 1, .ofNat 0), (3, .ofNat 1, .ofNat 0), (0, .ofNat 0, .ofNat 0)), (0, 106, (0, .ofNat 0, .ofNat 0), (3, .ofNat 1, .ofNat 0), (0, .ofNat 0, .ofNat 0))], [(1, [(.ofNat 0, .ofNat 999999)]), (2, [(.ofNat 0, .ofNat 7)]), (3, [(.ofNat 1, .ofNat 8)]), (4, [(.ofNat 1, .ofNat 8)]), (5, [(.ofNat 0, .ofNat 1000000)]), (6, [(.ofNat 0, .ofNat 1000000)]), (7, [(.negSucc 999999, .negSucc 0)])], [((5, .ofNat 1, .ofNat 0), (6, .negSucc 0, .ofNat 0), (7, .ofNat 1, .ofNat 0))], []),
  (5, [(0, .inr (.inl [106])), (1, .inr (.inl [1])), (2, .inl (false, (1, .ofNat 1, .ofNat 0))), (3, .inl (false, (2, .ofNat 1, .ofNat 1)))], [], [(2, 3, (1, .ofNat 1, .ofNat 0), (7, .negSucc 0, .ofNat 0), (0, .ofNat 0, .ofNat 0)), (2, 2, (7, .ofNat 1, .ofNat 0), (0, .ofNat 0, .ofNat 0), (0, .ofNat 0, .ofNat 0)), (0, 2, (2, .ofNat 1, .ofNat 0), (6, .ofNat 1, .ofNat 0), (0, .ofNat 0, .ofNat 0)), (0, 107, (2, .ofNat 1, .ofNat 0), (5, .ofNat 1, .ofNat 0), (0, .ofNat 0, .ofNat 0)), (2, 2, (2, .ofNat 1, .ofNat 0), (4, .ofNat 1, .ofNat 0), (0, .ofNat 0, .ofNat 0)), (0, 1, (0, .ofNat 0, .ofNat 0), (4, .ofNat 1, .ofNat 0), (0, .ofNat 0, .ofNat 0)), (2, 2, (2, .ofNat 1, .ofNat 0), (3, .ofNat 1, .ofNat 0), (0, .ofNat 0, .ofNat 0)), (0, 106, (0, .ofNat 0, .ofNat 0), (3, .ofNat 1, .ofNat 0), (0, .ofNat 0, .ofNat 0))], [(1, [(.ofNat 1, .ofNat 1000000)]), (2, [(.ofNat 0, .ofNat 7)]), (3, [(.ofNat 1, .ofNat 8)]), (4, [(.ofNat 1, .ofNat 8)]), (5, [(.ofNat 0, .ofNat 1000000)]), (6, [(.ofNat 0, .ofNat 1000000)]), (7, [(.negSucc 999999, .negSucc 0)])], [((5, .ofNat 1, .ofNat 0), (6, .negSucc 0, .ofNat 0), (7, .ofNat 1, .ofNat 0))], [])]
set_option maxRecDepth 1000000 in
theorem sg_gg_x2b_g : sg_go [] [4] 3000 80 4 1 3 [(0, [(.ofNat 0, .ofNat 0)]), (1, [(.ofNat 0, .ofNat 1000000)]), (2, [(.ofNat 0, .ofNat 8)])] [] [] [] [(0, .inr (.inl [106])), (1, .inr (.inl [1])), (2, .inl (false, (1, .ofNat 1, .ofNat 0))), (3, .inl (false, (2, .ofNat 1, .ofNat 0)))] [] [] sg_gg_x2b_Z = true := by decide +kernel
set_option maxRecDepth 100000 in
theorem sg_gg_x2b {Q : Option Value × am_S → Prop} {d : Nat} {S : am_S} {L : am_L} {x1 x2 : Int} (hd : 1 ≤ d) (hP : ax_P0 none S) (l0 : lc L 0 106) (l1 : lc L 1 1) (l2 : li L 2 x1) (l3 : li L 3 x2) (b1 : (0 ≤ x1 ∧ x1 ≤ 1000000)) (b2 : (0 ≤ x2 ∧ x2 ≤ 8))
    (k0 : ∀ (x3 : Int) (i1 : Int32), rd S 106 0 = x3 → x3 ≤ x2 → (0 ≤ x1 ∧ x1 ≤ 1000000) → (0 ≤ x2 ∧ x2 ≤ 8) → (0 ≤ x3 ∧ x3 ≤ 8) → i1.toInt = x1 → Q (some (.int i1), S))
    (k1 : ∀ (x3 x4 : Int) (i1 : Int32), rd S 106 0 = x3 → x2 < x3 → rd S 1 0 = x4 → x4 ≤ x2 → (0 ≤ x1 ∧ x1 ≤ 1000000) → (0 ≤ x2 ∧ x2 ≤ 7) → (1 ≤ x3 ∧ x3 ≤ 8) → (0 ≤ x4 ∧ x4 ≤ 7) → i1.toInt = x1 → Q (some (.int i1), S))
    (k2 : ∀ (x3 x4 x5 x6 x7 : Int) (L' : am_L), rd S 106 0 = x3 → x2 < x3 → rd S 1 0 = x4 → x2 < x4 → rd S 107 x2 = x5 → rd S 2 x2 = x6 → 0 ≤ x7 → x1 < x7 → (0 ≤ x1 ∧ x1 ≤ 999999) → (0 ≤ x2 ∧ x2 ≤ 7) → (1 ≤ x3 ∧ x3 ≤ 8) → (1 ≤ x4 ∧ x4 ≤ 8) → (0 ≤ x5 ∧ x5 ≤ 1000000) → (0 ≤ x6 ∧ x6 ≤ 1000000) → (1 ≤ x7 ∧ x7 ≤ 1000000) → x5 + ((-1) * x6 + 0) = x7 → lc L' 0 106 → lc L' 1 1 → li L' 2 x7 → li L' 3 (x2 + 1) → am_V none d 80 4 L' ([]) S Q)
    (k3 : ∀ (x3 x4 x5 x6 x7 : Int) (L' : am_L), rd S 106 0 = x3 → x2 < x3 → rd S 1 0 = x4 → x2 < x4 → rd S 107 x2 = x5 → rd S 2 x2 = x6 → 0 ≤ x7 → x7 ≤ x1 → (0 ≤ x1 ∧ x1 ≤ 1000000) → (0 ≤ x2 ∧ x2 ≤ 7) → (1 ≤ x3 ∧ x3 ≤ 8) → (1 ≤ x4 ∧ x4 ≤ 8) → (0 ≤ x5 ∧ x5 ≤ 1000000) → (0 ≤ x6 ∧ x6 ≤ 1000000) → (0 ≤ x7 ∧ x7 ≤ 1000000) → x5 + ((-1) * x6 + 0) = x7 → lc L' 0 106 → lc L' 1 1 → li L' 2 x1 → li L' 3 (x2 + 1) → am_V none d 80 4 L' ([]) S Q)
    (k4 : ∀ (x3 x4 x5 x6 x7 : Int) (L' : am_L), rd S 106 0 = x3 → x2 < x3 → rd S 1 0 = x4 → x2 < x4 → rd S 107 x2 = x5 → rd S 2 x2 = x6 → x7 < 0 → x1 < (-1) * x7 + 0 → (0 ≤ x1 ∧ x1 ≤ 999999) → (0 ≤ x2 ∧ x2 ≤ 7) → (1 ≤ x3 ∧ x3 ≤ 8) → (1 ≤ x4 ∧ x4 ≤ 8) → (0 ≤ x5 ∧ x5 ≤ 1000000) → (0 ≤ x6 ∧ x6 ≤ 1000000) → ((-1000000) ≤ x7 ∧ x7 ≤ (-1)) → x5 + ((-1) * x6 + 0) = x7 → lc L' 0 106 → lc L' 1 1 → li L' 2 ((-1) * x7 + 0) → li L' 3 (x2 + 1) → am_V none d 80 4 L' ([]) S Q)
    (k5 : ∀ (x3 x4 x5 x6 x7 : Int) (L' : am_L), rd S 106 0 = x3 → x2 < x3 → rd S 1 0 = x4 → x2 < x4 → rd S 107 x2 = x5 → rd S 2 x2 = x6 → x7 < 0 → (-1) * x7 + 0 ≤ x1 → (1 ≤ x1 ∧ x1 ≤ 1000000) → (0 ≤ x2 ∧ x2 ≤ 7) → (1 ≤ x3 ∧ x3 ≤ 8) → (1 ≤ x4 ∧ x4 ≤ 8) → (0 ≤ x5 ∧ x5 ≤ 1000000) → (0 ≤ x6 ∧ x6 ≤ 1000000) → ((-1000000) ≤ x7 ∧ x7 ≤ (-1)) → x5 + ((-1) * x6 + 0) = x7 → lc L' 0 106 → lc L' 1 1 → li L' 2 x1 → li L' 3 (x2 + 1) → am_V none d 80 4 L' ([]) S Q) : am_V none d 80 4 L ([]) S Q := by
  refine sg_use sg_gg_x2b_g hd hP (sg_xs [0, x1, x2]) ⟨⟨Int.le_refl 0, Int.le_refl 0⟩, b1, b2, trivial⟩ trivial trivial trivial ⟨l0, l1, l2, l3, trivial⟩ trivial ?_
  intro z hz x' L' st' S' hx hP' hW hL' hs' hJ hE' hT' hD'
  have q1 : x' 1 = x1 := hx 1 (by decide)
  subst q1
  have q2 : x' 2 = x2 := hx 2 (by decide)
  subst q2
  have eS : S' = S := hW.1 rfl
  subst eS
  simp only [sg_gg_x2b_Z, List.mem_cons, List.not_mem_nil, or_false] at hz
  rcases hz with rfl | rfl | rfl | rfl | rfl | rfl
  · obtain ⟨f0, f1, hσ⟩ := hJ
    obtain ⟨e0, e1, e2, -⟩ := hE'
    intro v hv
    subst hv
    cases v with
    | none => exact hs'.elim
    | some v1 =>
      obtain ⟨⟨i1, rfl, g1⟩, -⟩ := hs'
      exact k0 (x' 3) i1 f0 f1 e0 e1 e2 g1
  · obtain ⟨f0, f1, f2, f3, hσ⟩ := hJ
    obtain ⟨e0, e1, e2, e3, -⟩ := hE'
    intro v hv
    subst hv
    cases v with
    | none => exact hs'.elim
    | some v1 =>
      obtain ⟨⟨i1, rfl, g1⟩, -⟩ := hs'
      exact k1 (x' 3) (x' 4) i1 f0 f1 f2 f3 e0 e1 e2 e3 g1
  · obtain ⟨f0, f1, f2, f3, f4, f5, f6, f7, hσ⟩ := hJ
    obtain ⟨e0, e1, e2, e3, e4, e5, e6, -⟩ := hE'
    obtain ⟨t0, -⟩ := hT'
    obtain ⟨p0, p1, p2, p3, -⟩ := hL'
    obtain rfl := sg_tn hs'
    exact k2 (x' 3) (x' 4) (x' 5) (x' 6) (x' 7) L' f0 f1 f2 f3 f4 f5 f6 f7 e0 e1 e2 e3 e4 e5 e6 t0 p0 p1 p2 p3
  · obtain ⟨f0, f1, f2, f3, f4, f5, f6, f7, hσ⟩ := hJ
    obtain ⟨e0, e1, e2, e3, e4, e5, e6, -⟩ := hE'
    obtain ⟨t0, -⟩ := hT'
    obtain ⟨p0, p1, p2, p3, -⟩ := hL'
    obtain rfl := sg_tn hs'
    exact k3 (x' 3) (x' 4) (x' 5) (x' 6) (x' 7) L' f0 f1 f2 f3 f4 f5 f6 f7 e0 e1 e2 e3 e4 e5 e6 t0 p0 p1 p2 p3
  · obtain ⟨f0, f1, f2, f3, f4, f5, f6, f7, hσ⟩ := hJ
    obtain ⟨e0, e1, e2, e3, e4, e5, e6, -⟩ := hE'
    obtain ⟨t0, -⟩ := hT'
    obtain ⟨p0, p1, p2, p3, -⟩ := hL'
    obtain rfl := sg_tn hs'
    exact k4 (x' 3) (x' 4) (x' 5) (x' 6) (x' 7) L' f0 f1 f2 f3 f4 f5 f6 f7 e0 e1 e2 e3 e4 e5 e6 t0 p0 p1 p2 p3
  · obtain ⟨f0, f1, f2, f3, f4, f5, f6, f7, hσ⟩ := hJ
    obtain ⟨e0, e1, e2, e3, e4, e5, e6, -⟩ := hE'
    obtain ⟨t0, -⟩ := hT'
    obtain ⟨p0, p1, p2, p3, -⟩ := hL'
    obtain rfl := sg_tn hs'
    exact k5 (x' 3) (x' 4) (x' 5) (x' 6) (x' 7) L' f0 f1 f2 f3 f4 f5 f6 f7 e0 e1 e2 e3 e4 e5 e6 t0 p0 p1 p2 p3
def sg_gg_x3a_Z : List sg_z := [(5, [(0, .inr (.inl [110])), (1, .inr (.inl [1])), (2, .inl (false, (0, .ofNat 0, .ofNat 0))), (3, .inl (false, (0, .ofNat 0, .ofNat 0)))], [], [], [], [], [])]
set_option maxRecDepth 1000000 in
theorem sg_gg_x3a_g : sg_go [] [4] 3000 80 0 0 1 [(0, [(.ofNat 0, .ofNat 0)])] [] [] [] [(0, .inr (.inl [110])), (1, .inr (.inl [1]))] [] [] sg_gg_x3a_Z = true := by decide +kernel
set_option maxRecDepth 100000 in
theorem sg_gg_x3a {Q : Option Value × am_S → Prop} {d : Nat} {S : am_S} {L : am_L} (hd : 0 ≤ d) (hP : ax_P0 none S) (l0 : lc L 0 110) (l1 : lc L 1 1)
    (k0 : ∀ (L' : am_L), lc L' 0 110 → lc L' 1 1 → li L' 2 0 → li L' 3 0 → am_V none d 80 4 L' ([]) S Q) : am_V none d 80 0 L ([]) S Q := by
  refine sg_use sg_gg_x3a_g hd hP (sg_xs [0]) ⟨⟨Int.le_refl 0, Int.le_refl 0⟩, trivial⟩ trivial trivial trivial ⟨l0, l1, trivial⟩ trivial ?_
  intro z hz x' L' st' S' hx hP' hW hL' hs' hJ hE' hT' hD'
  have eS : S' = S := hW.1 rfl
  subst eS
  simp only [sg_gg_x3a_Z, List.mem_cons, List.not_mem_nil, or_false] at hz
  rcases hz with rfl
  · have hσ := hJ
    obtain ⟨p0, p1, p2, p3, -⟩ := hL'
    obtain rfl := sg_tn hs'
    exact k0 L' p0 p1 p2 p3
def sg_gg_x3b_Z : List sg_z := [(0, [], [.inl (false, (1, .ofNat 1, .ofNat 0))], [(2, 3, (2, .ofNat 1, .ofNat 0), (3, .ofNat 1, .ofNat 0), (0, .ofNat 0, .ofNat 0)), (0, 110, (0, .ofNat 0, .ofNat 0), (3, .ofNat 1, .ofNat 0), (0, .ofNat 0, .ofNat 0))], [(1, [(.ofNat 0, .ofNat 1000000)]), (2, [(.ofNat 0, .ofNat 8)]), (3, [(.ofNat 0, .ofNat 8)])], [], []),
  (0, [], [.inl (false, (1, .ofNat 1, .ofNat 0))], [(2, 3, (2, .ofNat 1, .ofNat 0), (4, .ofNat 1, .ofNat 0), (0, .ofNat 0, .ofNat 0)), (0, 1, (0, .ofNat 0, .ofNat 0), (4, .ofNat 1, .ofNat 0), (0, .ofNat 0, .ofNat 0)), (2, 2, (2, .ofNat 1, .ofNat 0), (3, .ofNat 1, .ofNat 0), (0, .ofNat 0, .ofNat 0)), (0, 110, (0, .ofNat 0, .ofNat 0), (3, .ofNat 1, .ofNat 0), (0, .ofNat 0, .ofNat 0))], [(1, [(.ofNat 0, .ofNat 1000000)]), (2, [(.ofNat 0, .ofNat 7)]), (3, [(.ofNat 1, .ofNat 8)]), (4, [(.ofNat 0, .ofNat 7)])], [], []),
  (5, [(0, .inr (.inl [110])), (1, .inr (.inl [1])), (2, .inl (false, (7, .ofNat 1, .ofNat 0))), (3, .inl (false, (2, .ofNat 1, .ofNat 1)))], [], [(2, 2, (1, .ofNat 1, .ofNat 0), (7, .ofNat 1, .ofNat 0), (0, .ofNat 0, .ofNat 0)), (2, 3, (7, .ofNat 1, .ofNat 0), (0, .ofNat 0, .ofNat 0), (0, .ofNat 0, .ofNat 0)), (0, 2, (2, .ofNat 1, .ofNat 0), (6, .ofNat 1, .ofNat 0), (0, .ofNat 0, .ofNat 0)), (0, 111, (2, .ofNat 1, .ofNat 0), (5, .ofNat 1, .ofNat 0), (0, .ofNat 0, .ofNat 0)), (2, 2, (2, .ofNat 1, .ofNat 0), (4, .ofNat 1, .ofNat 0), (0, .ofNat 0, .ofNat 0)), (0, 1, (0, .ofNat 0, .ofNat 0), (4, .ofNat 1, .ofNat 0), (0, .ofNat 0, .ofNat 0)), (2, 2, (2, .ofNat 1, .ofNat 0), (3, .ofNat 1, .ofNat 0), (0, .ofNat 0, .ofNat 0)), (0, 110, (0, .ofNat 0, .ofNat 0), (3, .ofNat 1, .ofNat 0), (0, .ofNat 0, .ofNat 0))], [(1, [(.ofNat 0, .ofNat 999999)]), (2, [(.ofNat 0, .ofNat 7)]), (3, [(.ofNat 1, .ofNat 8)]), (4, [(.ofNat 1, .ofNat 8)]), (5, [(.ofNat 0, .ofNat 1000000)]), (6, [(.ofNat 0, .ofNat 1000000)]), (7, [(.ofNat 1, .ofNat 1000000)])], [((5, .ofNat 1, .ofNat 0), (6, .negSucc 0, .ofNat 0), (7, .ofNat 1, .ofNat 0))], []),
  (5, [(0, .inr (.inl [110])), (1, .inr (.inl [1])), (2, .inl (false, (1, .ofNat 1, .ofNat 0))), (3, .inl (false, (2, .ofNat 1, .ofNat 1)))], [], [(2, 3, (1, .ofNat 1, .ofNat 0), (7, .ofNat 1, .ofNat 0), (0, .ofNat 0, .ofNat 0)), (2, 3, (7, .ofNat 1, .ofNat 0), (0, .ofNat 0, .ofNat 0), (0, .ofNat 0, .ofNat 0)), (0, 2, (2, .ofNat 1, .ofNat 0), (6, .ofNat 1, .ofNat 0), (0, .ofNat 0, .ofNat 0)), (0, 111, (2, .ofNat 1, .ofNat 0), (5, .ofNat 1, .ofNat 0), (0, .ofNat 0, .ofNat 0)), (2, 2, (2, .ofNat 1, .ofNat 0), (4, .ofNat 1, .ofNat 0), (0, .ofNat 0, .ofNat 0)), (0, 1, (0, .ofNat 0, .ofNat 0), (4, .ofNat 1, .ofNat 0), (0, .ofNat 0, .ofNat 0)), (2, 2, (2, .ofNat 1, .ofNat 0), (3, .ofNat 1, .ofNat 0), (0, .ofNat 0, .ofNat 0)), (0, 110, (0, .ofNat 0, .ofNat 0), (3, .ofNat 1, .ofNat 0), (0, .ofNat 0, .ofNat 0))], [(1, [(.ofNat 0, .ofNat 1000000)]), (2, [(.ofNat 0, .ofNat 7)]), (3, [(.ofNat 1, .ofNat 8)]), (4, [(.ofNat 1, .ofNat 8)]), (5, [(.ofNat 0, .ofNat 1000000)]), (6, [(.ofNat 0, .ofNat 1000000)]), (7, [(.ofNat 0, .ofNat 1000000)])], [((5, .ofNat 1, .ofNat 0), (6, .negSucc 0, .ofNat 0), (7, .ofNat 1, .ofNat 0))], []),
  (5, [(0, .inr (.inl [110])), (1, .inr (.inl [1])), (2, .inl (false, (7, .negSucc 0, .ofNat 0))), (3, .inl (false, (2, .ofNat 1, .ofNat 1)))], [], [(2, 2, (1, .ofNat 1, .ofNat 0), (7, .negSucc 0, .ofNat 0), (0, .ofNat 0, .ofNat 0)), (2, 2, (7, .ofNat 1, .ofNat 0), (0, .ofNat 0, .ofNat 0), (0, .ofNat 0, .ofNat 0)), (0, 2, (2, .ofNat 1, .ofNat 0), (6, .ofNat 1, .ofNat 0), (0, .ofNat 0, .ofNat 0)), (0, 111, (2, .ofNat 1, .ofNat 0), (5, .ofNat 1, .ofNat 0), (0, .ofNat 0, .ofNat 0)), (2, 2, (2, .ofNat 1, .ofNat 0), (4, .ofNat 1, .ofNat 0), (0, .ofNat 0, .ofNat 0)), (0, 1, (0, .ofNat 0, .ofNat 0), (4, .ofNat 1, .ofNat 0), (0, .ofNat 0, .ofNat 0)), (2, 2, (2, .ofNat 1, .ofNat 0), (3, .ofNat 1, .ofNat 0), (0, .ofNat 0, .ofNat 0)), (0, 110, (0, .ofNat 0, .ofNat 0), (3, .ofNat 1, .ofNat 0), (0, .ofNat 0, .ofNat 0))], [(1, [(.ofNat 0, .ofNat 999999)]), (2, [(.ofNat 0, .ofNat 7)]), (3, [(.ofNat 1, .ofNat 8)]), (4, [(.ofNat 1, .ofNat 8)]), (5, [(.ofNat 0, .ofNat 1000000)]), (6, [(.ofNat 0, .ofNat 1000000)]), (7, [(.negSucc 999999, .negSucc 0)])], [((5, .ofNat 1, .ofNat 0), (6, .negSucc 0, .ofNat 0), (7, .ofNat 1, .ofNat 0))], []),
  (5, [(0, .inr (.inl [110])), (1, .inr (.inl [1])), (2, .inl (false, (1, .ofNat 1, .ofNat 0))), (3, .inl (false, (2, .ofNat 1, .ofNat 1)))], [], [(2, 3, (1, .ofNat 1, .ofNat 0), (7, .negSucc 0, .ofNat 0), (0, .ofNat 0, .ofNat 0)), (2, 2, (7, .ofNat 1, .ofNat 0), (0, .ofNat 0, .ofNat 0), (0, .ofNat 0, .ofNat 0)), (0, 2, (2, .ofNat 1, .ofNat 0), (6, .ofNat 1, .ofNat 0), (0, .ofNat 0, .ofNat 0)), (0, 111, (2, .ofNat 1, .ofNat 0), (5, .ofNat 1, .ofNat 0), (0, .ofNat 0, .ofNat 0)), (2, 2, (2, .ofNat 1, .ofNat 0), (4, .ofNat 1, .ofNat 0), (0, .ofNat 0, .ofNat 0)), (0, 1, (0, .ofNat 0, .ofNat 0), (4, .ofNat 1, .ofNat 0), (0, .ofNat 0, .ofNat 0)), (2, 2, (2, .ofNat 1, .ofNat 0), (3, .ofNat 1, .ofNat 0), (0, .ofNat 0, .ofNat 0)), (0, 110, (0, .ofNat 0, .ofNat 0), (3, .ofNat 1, .ofNat 0), (0, .ofNat 0, .ofNat 0))], [(1, [(.ofNat 1, .ofNat 1000000)]), (2, [(.ofNat 0, .ofNat 7)]), (3, [(.ofNat 1, .ofNat 8)]), (4, [(.ofNat 1, .ofNat 8)]), (5, [(.ofNat 0, .ofNat 1000000)]), (6, [(.ofNat 0, .ofNat 1000000)]), (7, [(.negSucc 999999, .negSucc 0)])], [((5, .ofNat 1, .ofNat 0), (6, .negSucc 0, .ofNat 0), (7, .ofNat 1, .ofNat 0))], [])]
set_option maxRecDepth 1000000 in
theorem sg_gg_x3b_g : sg_go [] [4] 3000 80 4 1 3 [(0, [(.ofNat 0, .ofNat 0)]), (1, [(.ofNat 0, .ofNat 1000000)]), (2, [(.ofNat 0, .ofNat 8)])] [] [] [] [(0, .inr (.inl [110])), (1, .inr (.inl [1])), (2, .inl (false, (1, .ofNat 1, .ofNat 0))), (3, .inl (false, (2, .ofNat 1, .ofNat 0)))] [] [] sg_gg_x3b_Z = true := by decide +kernel
set_option maxRecDepth 100000 in
theorem sg_gg_x3b {Q : Option Value × am_S → Prop} {d : Nat} {S : am_S} {L : am_L} {x1 x2 : Int} (hd : 1 ≤ d) (hP : ax_P0 none S) (l0 : lc L 0 110) (l1 : lc L 1 1) (l2 : li L 2 x1) (l3 : li L 3 x2) (b1 : (0 ≤ x1 ∧ x1 ≤ 1000000)) (b2 : (0 ≤ x2 ∧ x2 ≤ 8))
    (k0 : ∀ (x3 : Int) (i1 : Int32), rd S 110 0 = x3 → x3 ≤ x2 → (0 ≤ x1 ∧ x1 ≤ 1000000) → (0 ≤ x2 ∧ x2 ≤ 8) → (0 ≤ x3 ∧ x3 ≤ 8) → i1.toInt = x1 → Q (some (.int i1), S))
    (k1 : ∀ (x3 x4 : Int) (i1 : Int32), rd S 110 0 = x3 → x2 < x3 → rd S 1 0 = x4 → x4 ≤ x2 → (0 ≤ x1 ∧ x1 ≤ 1000000) → (0 ≤ x2 ∧ x2 ≤ 7) → (1 ≤ x3 ∧ x3 ≤ 8) → (0 ≤ x4 ∧ x4 ≤ 7) → i1.toInt = x1 → Q (some (.int i1), S))
    (k2 : ∀ (x3 x4 x5 x6 x7 : Int) (L' : am_L), rd S 110 0 = x3 → x2 < x3 → rd S 1 0 = x4 → x2 < x4 → rd S 111 x2 = x5 → rd S 2 x2 = x6 → 0 ≤ x7 → x1 < x7 → (0 ≤ x1 ∧ x1 ≤ 999999) → (0 ≤ x2 ∧ x2 ≤ 7) → (1 ≤ x3 ∧ x3 ≤ 8) → (1 ≤ x4 ∧ x4 ≤ 8) → (0 ≤ x5 ∧ x5 ≤ 1000000) → (0 ≤ x6 ∧ x6 ≤ 1000000) → (1 ≤ x7 ∧ x7 ≤ 1000000) → x5 + ((-1) * x6 + 0) = x7 → lc L' 0 110 → lc L' 1 1 → li L' 2 x7 → li L' 3 (x2 + 1) → am_V none d 80 4 L' ([]) S Q)
    (k3 : ∀ (x3 x4 x5 x6 x7 : Int) (L' : am_L), rd S 110 0 = x3 → x2 < x3 → rd S 1 0 = x4 → x2 < x4 → rd S 111 x2 = x5 → rd S 2 x2 = x6 → 0 ≤ x7 → x7 ≤ x1 → (0 ≤ x1 ∧ x1 ≤ 1000000) → (0 ≤ x2 ∧ x2 ≤ 7) → (1 ≤ x3 ∧ x3 ≤ 8) → (1 ≤ x4 ∧ x4 ≤ 8) → (0 ≤ x5 ∧ x5 ≤ 1000000) → (0 ≤ x6 ∧ x6 ≤ 1000000) → (0 ≤ x7 ∧ x7 ≤ 1000000) → x5 + ((-1) * x6 + 0) = x7 → lc L' 0 110 → lc L' 1 1 → li L' 2 x1 → li L' 3 (x2 + 1) → am_V none d 80 4 L' ([]) S Q)
    (k4 : ∀ (x3 x4 x5 x6 x7 : Int) (L' : am_L), rd S 110 0 = x3 → x2 < x3 → rd S 1 0 = x4 → x2 < x4 → rd S 111 x2 = x5 → rd S 2 x2 = x6 → x7 < 0 → x1 < (-1) * x7 + 0 → (0 ≤ x1 ∧ x1 ≤ 999999) → (0 ≤ x2 ∧ x2 ≤ 7) → (1 ≤ x3 ∧ x3 ≤ 8) → (1 ≤ x4 ∧ x4 ≤ 8) → (0 ≤ x5 ∧ x5 ≤ 1000000) → (0 ≤ x6 ∧ x6 ≤ 1000000) → ((-1000000) ≤ x7 ∧ x7 ≤ (-1)) → x5 + ((-1) * x6 + 0) = x7 → lc L' 0 110 → lc L' 1 1 → li L' 2 ((-1) * x7 + 0) → li L' 3 (x2 + 1) → am_V none d 80 4 L' ([]) S Q)
    (k5 : ∀ (x3 x4 x5 x6 x7 : Int) (L' : am_L), rd S 110 0 = x3 → x2 < x3 → rd S 1 0 = x4 → x2 < x4 → rd S 111 x2 = x5 → rd S 2 x2 = x6 → x7 < 0 → (-1) * x7 + 0 ≤ x1 → (1 ≤ x1 ∧ x1 ≤ 1000000) → (0 ≤ x2 ∧ x2 ≤ 7) → (1 ≤ x3 ∧ x3 ≤ 8) → (1 ≤ x4 ∧ x4 ≤ 8) → (0 ≤ x5 ∧ x5 ≤ 1000000) → (0 ≤ x6 ∧ x6 ≤ 1000000) → ((-1000000) ≤ x7 ∧ x7 ≤ (-1)) → x5 + ((-1) * x6 + 0) = x7 → lc L' 0 110 → lc L' 1 1 → li L' 2 x1 → li L' 3 (x2 + 1) → am_V none d 80 4 L' ([]) S Q) : am_V none d 80 4 L ([]) S Q := by
  refine sg_use sg_gg_x3b_g hd hP (sg_xs [0, x1, x2]) ⟨⟨Int.le_refl 0, Int.le_refl 0⟩, b1, b2, trivial⟩ trivial trivial trivial ⟨l0, l1, l2, l3, trivial⟩ trivial ?_
  intro z hz x' L' st' S' hx hP' hW hL' hs' hJ hE' hT' hD'
  have q1 : x' 1 = x1 := hx 1 (by decide)
  subst q1
  have q2 : x' 2 = x2 := hx 2 (by decide)
  subst q2
  have eS : S' = S := hW.1 rfl
  subst eS
  simp only [sg_gg_x3b_Z, List.mem_cons, List.not_mem_nil, or_false] at hz
  rcases hz with rfl | rfl | rfl | rfl | rfl | rfl
  · obtain ⟨f0, f1, hσ⟩ := hJ
    obtain ⟨e0, e1, e2, -⟩ := hE'
    intro v hv
    subst hv
    cases v with
    | none => exact hs'.elim
    | some v1 =>
      obtain ⟨⟨i1, rfl, g1⟩, -⟩ := hs'
      exact k0 (x' 3) i1 f0 f1 e0 e1 e2 g1
  · obtain ⟨f0, f1, f2, f3, hσ⟩ := hJ
    obtain ⟨e0, e1, e2, e3, -⟩ := hE'
    intro v hv
    subst hv
    cases v with
    | none => exact hs'.elim
    | some v1 =>
      obtain ⟨⟨i1, rfl, g1⟩, -⟩ := hs'
      exact k1 (x' 3) (x' 4) i1 f0 f1 f2 f3 e0 e1 e2 e3 g1
  · obtain ⟨f0, f1, f2, f3, f4, f5, f6, f7, hσ⟩ := hJ
    obtain ⟨e0, e1, e2, e3, e4, e5, e6, -⟩ := hE'
    obtain ⟨t0, -⟩ := hT'
    obtain ⟨p0, p1, p2, p3, -⟩ := hL'
    obtain rfl := sg_tn hs'
    exact k2 (x' 3) (x' 4) (x' 5) (x' 6) (x' 7) L' f0 f1 f2 f3 f4 f5 f6 f7 e0 e1 e2 e3 e4 e5 e6 t0 p0 p1 p2 p3
  · obtain ⟨f0, f1, f2, f3, f4, f5, f6, f7, hσ⟩ := hJ
    obtain ⟨e0, e1, e2, e3, e4, e5, e6, -⟩ := hE'
    obtain ⟨t0, -⟩ := hT'
    obtain ⟨p0, p1, p2, p3, -⟩ := hL'
    obtain rfl := sg_tn hs'
    exact k3 (x' 3) (x' 4) (x' 5) (x' 6) (x' 7) L' f0 f1 f2 f3 f4 f5 f6 f7 e0 e1 e2 e3 e4 e5 e6 t0 p0 p1 p2 p3
  · obtain ⟨f0, f1, f2, f3, f4, f5, f6, f7, hσ⟩ := hJ
    obtain ⟨e0, e1, e2, e3, e4, e5, e6, -⟩ := hE'
    obtain ⟨t0, -⟩ := hT'
    obtain ⟨p0, p1, p2, p3, -⟩ := hL'
    obtain rfl := sg_tn hs'
    exact k4 (x' 3) (x' 4) (x' 5) (x' 6) (x' 7) L' f0 f1 f2 f3 f4 f5 f6 f7 e0 e1 e2 e3 e4 e5 e6 t0 p0 p1 p2 p3
  · obtain ⟨f0, f1, f2, f3, f4, f5, f6, f7, hσ⟩ := hJ
    obtain ⟨e0, e1, e2, e3, e4, e5, e6, -⟩ := hE'
    obtain ⟨t0, -⟩ := hT'
    obtain ⟨p0, p1, p2, p3, -⟩ := hL'
    obtain rfl := sg_tn hs'
    exact k5 (x' 3) (x' 4) (x' 5) (x' 6) (x' 7) L' f0 f1 f2 f3 f4 f5 f6 f7 e0 e1 e2 e3 e4 e5 e6 t0 p0 p1 p2 p3
