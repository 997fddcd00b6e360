/-! ===== sheet, lay, scan: what happens from place to place ===== -/
def sg_sh_x0_Z : List sg_z := [(0, [], [.inl (false, (0, .ofNat 0, .negSucc 0))], [(2, 0, (0, .ofNat 0, .ofNat 0), (0, .ofNat 0, .ofNat 0), (0, .ofNat 0, .ofNat 0)), (2, 2, (1, .ofNat 1, .ofNat 0), (0, .ofNat 0, .ofNat 0), (0, .ofNat 0, .ofNat 0))], [(1, [(.negSucc 2147483647, .negSucc 0)])], [], []),
  (0, [], [.inl (false, (0, .ofNat 0, .negSucc 0))], [(2, 0, (0, .ofNat 0, .ofNat 0), (0, .ofNat 0, .ofNat 0), (0, .ofNat 0, .ofNat 0)), (2, 3, (1, .ofNat 1, .ofNat 0), (0, .ofNat 0, .ofNat 4), (0, .ofNat 0, .ofNat 0)), (2, 3, (1, .ofNat 1, .ofNat 0), (0, .ofNat 0, .ofNat 0), (0, .ofNat 0, .ofNat 0))], [(1, [(.ofNat 4, .ofNat 2147483647)])], [], []),
  (0, [], [.inl (false, (0, .ofNat 0, .negSucc 0))], [(2, 0, (0, .ofNat 0, .ofNat 0), (0, .ofNat 0, .ofNat 0), (0, .ofNat 0, .ofNat 0)), (2, 2, (2, .ofNat 1, .ofNat 0), (0, .ofNat 0, .ofNat 0), (0, .ofNat 0, .ofNat 0)), (2, 1, (0, .ofNat 0, .ofNat 1), (0, .ofNat 0, .ofNat 0), (0, .ofNat 0, .ofNat 0)), (2, 2, (1, .ofNat 1, .ofNat 0), (0, .ofNat 0, .ofNat 4), (0, .ofNat 0, .ofNat 0)), (2, 3, (1, .ofNat 1, .ofNat 0), (0, .ofNat 0, .ofNat 0), (0, .ofNat 0, .ofNat 0))], [(1, [(.ofNat 0, .ofNat 3)]), (2, [(.negSucc 2147483647, .negSucc 0)])], [], []),
  (0, [], [.inl (false, (0, .ofNat 0, .negSucc 0))], [(2, 0, (0, .ofNat 0, .ofNat 0), (0, .ofNat 0, .ofNat 0), (0, .ofNat 0, .ofNat 0)), (2, 3, (2, .ofNat 1, .ofNat 0), (0, .ofNat 0, .ofNat 3), (0, .ofNat 0, .ofNat 0)), (2, 3, (2, .ofNat 1, .ofNat 0), (0, .ofNat 0, .ofNat 0), (0, .ofNat 0, .ofNat 0)), (2, 1, (0, .ofNat 0, .ofNat 1), (0, .ofNat 0, .ofNat 0), (0, .ofNat 0, .ofNat 0)), (2, 2, (1, .ofNat 1, .ofNat 0), (0, .ofNat 0, .ofNat 4), (0, .ofNat 0, .ofNat 0)), (2, 3, (1, .ofNat 1, .ofNat 0), (0, .ofNat 0, .ofNat 0), (0, .ofNat 0, .ofNat 0))], [(1, [(.ofNat 0, .ofNat 3)]), (2, [(.ofNat 3, .ofNat 2147483647)])], [], []),
  (38, [(0, .inr (.inl [0])), (1, .inl (false, (0, .ofNat 0, .ofNat 3))), (2, .inl (false, (2, .ofNat 1, .ofNat 0))), (3, .inl (false, (3, .ofNat 1, .ofNat 0)))], [.inl (false, (3, .ofNat 1, .ofNat 0)), .inl (false, (2, .ofNat 1, .ofNat 0)), .inr (.inl [120])], [(2, 3, (3, .ofNat 1, .ofNat 0), (0, .ofNat 0, .ofNat 0), (0, .ofNat 0, .ofNat 0)), (2, 5, (3, .ofNat 1, .ofNat 0), (0, .ofNat 0, .ofNat 60), (0, .ofNat 0, .ofNat 0)), (2, 1, (0, .ofNat 0, .ofNat 1), (0, .ofNat 0, .ofNat 0), (0, .ofNat 0, .ofNat 0)), (2, 2, (2, .ofNat 1, .ofNat 0), (0, .ofNat 0, .ofNat 3), (0, .ofNat 0, .ofNat 0)), (2, 3, (2, .ofNat 1, .ofNat 0), (0, .ofNat 0, .ofNat 0), (0, .ofNat 0, .ofNat 0)), (2, 1, (0, .ofNat 0, .ofNat 1), (0, .ofNat 0, .ofNat 0), (0, .ofNat 0, .ofNat 0)), (2, 2, (1, .ofNat 1, .ofNat 0), (0, .ofNat 0, .ofNat 4), (0, .ofNat 0, .ofNat 0)), (2, 3, (1, .ofNat 1, .ofNat 0), (0, .ofNat 0, .ofNat 0), (0, .ofNat 0, .ofNat 0))], [(1, [(.ofNat 3, .ofNat 3)]), (2, [(.ofNat 0, .ofNat 2)]), (3, [(.ofNat 0, .ofNat 60)])], [], []),
  (38, [(0, .inr (.inl [0])), (1, .inl (false, (0, .ofNat 0, .ofNat 2))), (2, .inl (false, (2, .ofNat 1, .ofNat 0))), (3, .inl (false, (3, .ofNat 1, .ofNat 0)))], [.inl (false, (3, .ofNat 1, .ofNat 0)), .inl (false, (2, .ofNat 1, .ofNat 0)), .inr (.inl [118])], [(2, 3, (3, .ofNat 1, .ofNat 0), (0, .ofNat 0, .ofNat 0), (0, .ofNat 0, .ofNat 0)), (2, 5, (3, .ofNat 1, .ofNat 0), (0, .ofNat 0, .ofNat 60), (0, .ofNat 0, .ofNat 0)), (2, 1, (0, .ofNat 0, .ofNat 1), (0, .ofNat 0, .ofNat 0), (0, .ofNat 0, .ofNat 0)), (2, 2, (2, .ofNat 1, .ofNat 0), (0, .ofNat 0, .ofNat 3), (0, .ofNat 0, .ofNat 0)), (2, 3, (2, .ofNat 1, .ofNat 0), (0, .ofNat 0, .ofNat 0), (0, .ofNat 0, .ofNat 0)), (2, 1, (0, .ofNat 0, .ofNat 1), (0, .ofNat 0, .ofNat 0), (0, .ofNat 0, .ofNat 0)), (2, 2, (1, .ofNat 1, .ofNat 0), (0, .ofNat 0, .ofNat 4), (0, .ofNat 0, .ofNat 0)), (2, 3, (1, .ofNat 1, .ofNat 0), (0, .ofNat 0, .ofNat 0), (0, .ofNat 0, .ofNat 0))], [(1, [(.ofNat 2, .ofNat 2)]), (2, [(.ofNat 0, .ofNat 2)]), (3, [(.ofNat 0, .ofNat 60)])], [], []),
  (38, [(0, .inr (.inl [0])), (1, .inl (false, (0, .ofNat 0, .ofNat 1))), (2, .inl (false, (2, .ofNat 1, .ofNat 0))), (3, .inl (false, (3, .ofNat 1, .ofNat 0)))], [.inl (false, (3, .ofNat 1, .ofNat 0)), .inl (false, (2, .ofNat 1, .ofNat 0)), .inr (.inl [116])], [(2, 3, (3, .ofNat 1, .ofNat 0), (0, .ofNat 0, .ofNat 0), (0, .ofNat 0, .ofNat 0)), (2, 5, (3, .ofNat 1, .ofNat 0), (0, .ofNat 0, .ofNat 60), (0, .ofNat 0, .ofNat 0)), (2, 1, (0, .ofNat 0, .ofNat 1), (0, .ofNat 0, .ofNat 0), (0, .ofNat 0, .ofNat 0)), (2, 2, (2, .ofNat 1, .ofNat 0), (0, .ofNat 0, .ofNat 3), (0, .ofNat 0, .ofNat 0)), (2, 3, (2, .ofNat 1, .ofNat 0), (0, .ofNat 0, .ofNat 0), (0, .ofNat 0, .ofNat 0)), (2, 1, (0, .ofNat 0, .ofNat 1), (0, .ofNat 0, .ofNat 0), (0, .ofNat 0, .ofNat 0)), (2, 2, (1, .ofNat 1, .ofNat 0), (0, .ofNat 0, .ofNat 4), (0, .ofNat 0, .ofNat 0)), (2, 3, (1, .ofNat 1, .ofNat 0), (0, .ofNat 0, .ofNat 0), (0, .ofNat 0, .ofNat 0))], [(1, [(.ofNat 1, .ofNat 1)]), (2, [(.ofNat 0, .ofNat 2)]), (3, [(.ofNat 0, .ofNat 60)])], [], []),
  (38, [(0, .inr (.inl [0])), (1, .inl (false, (0, .ofNat 0, .ofNat 0))), (2, .inl (false, (2, .ofNat 1, .ofNat 0))), (3, .inl (false, (3, .ofNat 1, .ofNat 0)))], [.inl (false, (3, .ofNat 1, .ofNat 0)), .inl (false, (2, .ofNat 1, .ofNat 0)), .inr (.inl [114])], [(2, 3, (3, .ofNat 1, .ofNat 0), (0, .ofNat 0, .ofNat 0), (0, .ofNat 0, .ofNat 0)), (2, 5, (3, .ofNat 1, .ofNat 0), (0, .ofNat 0, .ofNat 60), (0, .ofNat 0, .ofNat 0)), (2, 1, (0, .ofNat 0, .ofNat 1), (0, .ofNat 0, .ofNat 0), (0, .ofNat 0, .ofNat 0)), (2, 2, (2, .ofNat 1, .ofNat 0), (0, .ofNat 0, .ofNat 3), (0, .ofNat 0, .ofNat 0)), (2, 3, (2, .ofNat 1, .ofNat 0), (0, .ofNat 0, .ofNat 0), (0, .ofNat 0, .ofNat 0)), (2, 1, (0, .ofNat 0, .ofNat 1), (0, .ofNat 0, .ofNat 0), (0, .ofNat 0, .ofNat 0)), (2, 2, (1, .ofNat 1, .ofNat 0), (0, .ofNat 0, .ofNat 4), (0, .ofNat 0, .ofNat 0)), (2, 3, (1, .ofNat 1, .ofNat 0), (0, .ofNat 0, .ofNat 0), (0, .ofNat 0, .ofNat 0))], [(1, [(.ofNat 0, .ofNat 0)]), (2, [(.ofNat 0, .ofNat 2)]), (3, [(.ofNat 0, .ofNat 60)])], [], []),
  (0, [], [.inl (false, (0, .ofNat 0, .negSucc 13))], [(2, 2, (3, .ofNat 1, .ofNat 0), (0, .ofNat 0, .ofNat 0), (0, .ofNat 0, .ofNat 0)), (2, 5, (3, .ofNat 1, .ofNat 0), (0, .ofNat 0, .ofNat 60), (0, .ofNat 0, .ofNat 0)), (2, 1, (0, .ofNat 0, .ofNat 1), (0, .ofNat 0, .ofNat 0), (0, .ofNat 0, .ofNat 0)), (2, 2, (2, .ofNat 1, .ofNat 0), (0, .ofNat 0, .ofNat 3), (0, .ofNat 0, .ofNat 0)), (2, 3, (2, .ofNat 1, .ofNat 0), (0, .ofNat 0, .ofNat 0), (0, .ofNat 0, .ofNat 0)), (2, 1, (0, .ofNat 0, .ofNat 1), (0, .ofNat 0, .ofNat 0), (0, .ofNat 0, .ofNat 0)), (2, 2, (1, .ofNat 1, .ofNat 0), (0, .ofNat 0, .ofNat 4), (0, .ofNat 0, .ofNat 0)), (2, 3, (1, .ofNat 1, .ofNat 0), (0, .ofNat 0, .ofNat 0), (0, .ofNat 0, .ofNat 0))], [(1, [(.ofNat 0, .ofNat 3)]), (2, [(.ofNat 0, .ofNat 2)]), (3, [(.negSucc 2147483647, .negSucc 0)])], [], []),
  (0, [], [.inl (false, (0, .ofNat 0, .negSucc 0))], [(2, 4, (3, .ofNat 1, .ofNat 0), (0, .ofNat 0, .ofNat 60), (0, .ofNat 0, .ofNat 0)), (2, 1, (0, .ofNat 0, .ofNat 1), (0, .ofNat 0, .ofNat 0), (0, .ofNat 0, .ofNat 0)), (2, 2, (2, .ofNat 1, .ofNat 0), (0, .ofNat 0, .ofNat 3), (0, .ofNat 0, .ofNat 0)), (2, 3, (2, .ofNat 1, .ofNat 0), (0, .ofNat 0, .ofNat 0), (0, .ofNat 0, .ofNat 0)), (2, 1, (0, .ofNat 0, .ofNat 1), (0, .ofNat 0, .ofNat 0), (0, .ofNat 0, .ofNat 0)), (2, 2, (1, .ofNat 1, .ofNat 0), (0, .ofNat 0, .ofNat 4), (0, .ofNat 0, .ofNat 0)), (2, 3, (1, .ofNat 1, .ofNat 0), (0, .ofNat 0, .ofNat 0), (0, .ofNat 0, .ofNat 0))], [(1, [(.ofNat 0, .ofNat 3)]), (2, [(.ofNat 0, .ofNat 2)]), (3, [(.ofNat 61, .ofNat 2147483647)])], [], [])]
set_option maxRecDepth 1000000 in
theorem sg_sh_x0_g : sg_go [(9043997, .inr 1)] [37] 3000 138 0 1 4 [(0, [(.ofNat 0, .ofNat 0)]), (1, [(.negSucc 2147483647, .ofNat 2147483647)]), (2, [(.negSucc 2147483647, .ofNat 2147483647)]), (3, [(.negSucc 2147483647, .ofNat 2147483647)])] [] [] [] [(0, .inr (.inl [0])), (1, .inl (false, (1, .ofNat 1, .ofNat 0))), (2, .inl (false, (2, .ofNat 1, .ofNat 0))), (3, .inl (false, (3, .ofNat 1, .ofNat 0)))] [] [] sg_sh_x0_Z = true := by decide +kernel
theorem sg_sh_x0 {Q : Option Value × am_S → Prop} {d : Nat} {S : am_S} {L : am_L} {x1 x2 x3 : Int} (hd : 1 ≤ d) (hP : ax_P0 none S) (l0 : lc L 0 0) (l1 : li L 1 x1) (l2 : li L 2 x2) (l3 : li L 3 x3) (b1 : ((-2147483648) ≤ x1 ∧ x1 ≤ 2147483647)) (b2 : ((-2147483648) ≤ x2 ∧ x2 ≤ 2147483647)) (b3 : ((-2147483648) ≤ x3 ∧ x3 ≤ 2147483647))
    (k0 : ∀ (i1 : Int32), x1 < 0 → ((-2147483648) ≤ x1 ∧ x1 ≤ (-1)) → i1.toInt = (-1) → Q (some (.int i1), S))
    (k1 : ∀ (i1 : Int32), 0 ≤ x1 → 4 ≤ x1 → (4 ≤ x1 ∧ x1 ≤ 2147483647) → i1.toInt = (-1) → Q (some (.int i1), S))
    (k2 : ∀ (i1 : Int32), 0 ≤ x1 → x1 < 4 → x2 < 0 → (0 ≤ x1 ∧ x1 ≤ 3) → ((-2147483648) ≤ x2 ∧ x2 ≤ (-1)) → i1.toInt = (-1) → Q (some (.int i1), S))
    (k3 : ∀ (i1 : Int32), 0 ≤ x1 → x1 < 4 → 0 ≤ x2 → 3 ≤ x2 → (0 ≤ x1 ∧ x1 ≤ 3) → (3 ≤ x2 ∧ x2 ≤ 2147483647) → i1.toInt = (-1) → Q (some (.int i1), S))
    (k4 : ∀ (L' : am_L) (i1 : Int32) (i2 : Int32), 0 ≤ x1 → x1 < 4 → 0 ≤ x2 → x2 < 3 → x3 ≤ 60 → 0 ≤ x3 → (3 ≤ x1 ∧ x1 ≤ 3) → (0 ≤ x2 ∧ x2 ≤ 2) → (0 ≤ x3 ∧ x3 ≤ 60) → lc L' 0 0 → li L' 1 3 → li L' 2 x2 → li L' 3 x3 → i1.toInt = x3 → i2.toInt = x2 → am_V none d 138 37 L' ((.int i1) :: (.int i2) :: (.ref 120) :: []) S Q)
    (k5 : ∀ (L' : am_L) (i1 : Int32) (i2 : Int32), 0 ≤ x1 → x1 < 4 → 0 ≤ x2 → x2 < 3 → x3 ≤ 60 → 0 ≤ x3 → (2 ≤ x1 ∧ x1 ≤ 2) → (0 ≤ x2 ∧ x2 ≤ 2) → (0 ≤ x3 ∧ x3 ≤ 60) → lc L' 0 0 → li L' 1 2 → li L' 2 x2 → li L' 3 x3 → i1.toInt = x3 → i2.toInt = x2 → am_V none d 138 37 L' ((.int i1) :: (.int i2) :: (.ref 118) :: []) S Q)
    (k6 : ∀ (L' : am_L) (i1 : Int32) (i2 : Int32), 0 ≤ x1 → x1 < 4 → 0 ≤ x2 → x2 < 3 → x3 ≤ 60 → 0 ≤ x3 → (1 ≤ x1 ∧ x1 ≤ 1) → (0 ≤ x2 ∧ x2 ≤ 2) → (0 ≤ x3 ∧ x3 ≤ 60) → lc L' 0 0 → li L' 1 1 → li L' 2 x2 → li L' 3 x3 → i1.toInt = x3 → i2.toInt = x2 → am_V none d 138 37 L' ((.int i1) :: (.int i2) :: (.ref 116) :: []) S Q)
    (k7 : ∀ (L' : am_L) (i1 : Int32) (i2 : Int32), 0 ≤ x1 → x1 < 4 → 0 ≤ x2 → x2 < 3 → x3 ≤ 60 → 0 ≤ x3 → (0 ≤ x1 ∧ x1 ≤ 0) → (0 ≤ x2 ∧ x2 ≤ 2) → (0 ≤ x3 ∧ x3 ≤ 60) → lc L' 0 0 → li L' 1 0 → li L' 2 x2 → li L' 3 x3 → i1.toInt = x3 → i2.toInt = x2 → am_V none d 138 37 L' ((.int i1) :: (.int i2) :: (.ref 114) :: []) S Q)
    (k8 : ∀ (i1 : Int32), 0 ≤ x1 → x1 < 4 → 0 ≤ x2 → x2 < 3 → x3 ≤ 60 → x3 < 0 → (0 ≤ x1 ∧ x1 ≤ 3) → (0 ≤ x2 ∧ x2 ≤ 2) → ((-2147483648) ≤ x3 ∧ x3 ≤ (-1)) → i1.toInt = (-14) → Q (some (.int i1), S))
    (k9 : ∀ (i1 : Int32), 0 ≤ x1 → x1 < 4 → 0 ≤ x2 → x2 < 3 → 60 < x3 → (0 ≤ x1 ∧ x1 ≤ 3) → (0 ≤ x2 ∧ x2 ≤ 2) → (61 ≤ x3 ∧ x3 ≤ 2147483647) → i1.toInt = (-1) → Q (some (.int i1), S)) : am_V none d 138 0 L ([]) S Q := by
  refine sg_use sg_sh_x0_g hd hP (sg_xs [0, x1, x2, x3]) ⟨⟨Int.le_refl 0, Int.le_refl 0⟩, b1, b2, b3, trivial⟩ trivial trivial trivial ⟨l0, l1, l2, l3, trivial⟩ trivial ?_
  intro z hz x' L' st' S' hx hP' hW hL' hs' hJ hE' hT' hD'
  have q1 : x' 1 = x1 := hx 1 (by decide)
  subst q1
  have q2 : x' 2 = x2 := hx 2 (by decide)
  subst q2
  have q3 : x' 3 = x3 := hx 3 (by decide)
  subst q3
  have eS : S' = S := hW.1 rfl
  subst eS
  simp only [sg_sh_x0_Z, List.mem_cons, List.not_mem_nil, or_false] at hz
  rcases hz with rfl | rfl | rfl | rfl | rfl | rfl | rfl | rfl | rfl | rfl
  · obtain ⟨f0, -, hσ⟩ := hJ
    obtain ⟨e0, -⟩ := hE'
    intro v hv
    subst hv
    cases v with
    | none => exact hs'.elim
    | some v1 =>
      obtain ⟨⟨i1, rfl, g1⟩, -⟩ := hs'
      exact k0 i1 f0 e0 g1
  · obtain ⟨f0, f1, -, hσ⟩ := hJ
    obtain ⟨e0, -⟩ := hE'
    intro v hv
    subst hv
    cases v with
    | none => exact hs'.elim
    | some v1 =>
      obtain ⟨⟨i1, rfl, g1⟩, -⟩ := hs'
      exact k1 i1 f0 f1 e0 g1
  · obtain ⟨f0, f1, -, f3, -, hσ⟩ := hJ
    obtain ⟨e0, e1, -⟩ := hE'
    intro v hv
    subst hv
    cases v with
    | none => exact hs'.elim
    | some v1 =>
      obtain ⟨⟨i1, rfl, g1⟩, -⟩ := hs'
      exact k2 i1 f0 f1 f3 e0 e1 g1
  · obtain ⟨f0, f1, -, f3, f4, -, hσ⟩ := hJ
    obtain ⟨e0, e1, -⟩ := hE'
    intro v hv
    subst hv
    cases v with
    | none => exact hs'.elim
    | some v1 =>
      obtain ⟨⟨i1, rfl, g1⟩, -⟩ := hs'
      exact k3 i1 f0 f1 f3 f4 e0 e1 g1
  · obtain ⟨f0, f1, -, f3, f4, -, f6, f7, hσ⟩ := hJ
    obtain ⟨e0, e1, e2, -⟩ := hE'
    obtain ⟨p0, p1, p2, p3, -⟩ := hL'
    obtain ⟨v1, r1, rfl, ⟨i1, rfl, g1⟩, hs1⟩ := sg_tc hs'
    obtain ⟨v2, r2, rfl, ⟨i2, rfl, g2⟩, hs2⟩ := sg_tc hs1
    obtain ⟨v3, r3, rfl, rfl, hs3⟩ := sg_tc hs2
    obtain rfl := sg_tn hs3
    exact k4 L' i1 i2 f0 f1 f3 f4 f6 f7 e0 e1 e2 p0 p1 p2 p3 g1 g2
  · obtain ⟨f0, f1, -, f3, f4, -, f6, f7, hσ⟩ := hJ
    obtain ⟨e0, e1, e2, -⟩ := hE'
    obtain ⟨p0, p1, p2, p3, -⟩ := hL'
    obtain ⟨v1, r1, rfl, ⟨i1, rfl, g1⟩, hs1⟩ := sg_tc hs'
    obtain ⟨v2, r2, rfl, ⟨i2, rfl, g2⟩, hs2⟩ := sg_tc hs1
    obtain ⟨v3, r3, rfl, rfl, hs3⟩ := sg_tc hs2
    obtain rfl := sg_tn hs3
    exact k5 L' i1 i2 f0 f1 f3 f4 f6 f7 e0 e1 e2 p0 p1 p2 p3 g1 g2
  · obtain ⟨f0, f1, -, f3, f4, -, f6, f7, hσ⟩ := hJ
    obtain ⟨e0, e1, e2, -⟩ := hE'
    obtain ⟨p0, p1, p2, p3, -⟩ := hL'
    obtain ⟨v1, r1, rfl, ⟨i1, rfl, g1⟩, hs1⟩ := sg_tc hs'
    obtain ⟨v2, r2, rfl, ⟨i2, rfl, g2⟩, hs2⟩ := sg_tc hs1
    obtain ⟨v3, r3, rfl, rfl, hs3⟩ := sg_tc hs2
    obtain rfl := sg_tn hs3
    exact k6 L' i1 i2 f0 f1 f3 f4 f6 f7 e0 e1 e2 p0 p1 p2 p3 g1 g2
  · obtain ⟨f0, f1, -, f3, f4, -, f6, f7, hσ⟩ := hJ
    obtain ⟨e0, e1, e2, -⟩ := hE'
    obtain ⟨p0, p1, p2, p3, -⟩ := hL'
    obtain ⟨v1, r1, rfl, ⟨i1, rfl, g1⟩, hs1⟩ := sg_tc hs'
    obtain ⟨v2, r2, rfl, ⟨i2, rfl, g2⟩, hs2⟩ := sg_tc hs1
    obtain ⟨v3, r3, rfl, rfl, hs3⟩ := sg_tc hs2
    obtain rfl := sg_tn hs3
    exact k7 L' i1 i2 f0 f1 f3 f4 f6 f7 e0 e1 e2 p0 p1 p2 p3 g1 g2
  · obtain ⟨f0, f1, -, f3, f4, -, f6, f7, hσ⟩ := hJ
    obtain ⟨e0, e1, e2, -⟩ := hE'
    intro v hv
    subst hv
    cases v with
    | none => exact hs'.elim
    | some v1 =>
      obtain ⟨⟨i1, rfl, g1⟩, -⟩ := hs'
      exact k8 i1 f0 f1 f3 f4 f6 f7 e0 e1 e2 g1
  · obtain ⟨f0, f1, -, f3, f4, -, f6, hσ⟩ := hJ
    obtain ⟨e0, e1, e2, -⟩ := hE'
    intro v hv
    subst hv
    cases v with
    | none => exact hs'.elim
    | some v1 =>
      obtain ⟨⟨i1, rfl, g1⟩, -⟩ := hs'
      exact k9 i1 f0 f1 f3 f4 f6 e0 e1 e2 g1
def sg_sh_x1_Z : List sg_z := [(0, [], [.inl (false, (0, .ofNat 0, .ofNat 1))], [], [], [], [])]
set_option maxRecDepth 1000000 in
theorem sg_sh_x1_g : sg_go [] [] 3000 138 40 0 1 [(0, [(.ofNat 0, .ofNat 0)])] [] [] [] [] [] [] sg_sh_x1_Z = true := by decide +kernel
theorem sg_sh_x1 {Q : Option Value × am_S → Prop} {d : Nat} {S : am_S} {L : am_L} (hd : 0 ≤ d) (hP : ax_P0 none S) 
    (k0 : ∀ (i1 : Int32), i1.toInt = 1 → Q (some (.int i1), S)) : am_V none d 138 40 L ([]) S Q := by
  refine sg_use sg_sh_x1_g hd hP (sg_xs [0]) ⟨⟨Int.le_refl 0, Int.le_refl 0⟩, trivial⟩ trivial trivial trivial trivial trivial ?_
  intro z hz x' L' st' S' hx hP' hW hL' hs' hJ hE' hT' hD'
  have eS : S' = S := hW.1 rfl
  subst eS
  simp only [sg_sh_x1_Z, List.mem_cons, List.not_mem_nil, or_false] at hz
  rcases hz with rfl
  · have hσ := hJ
    intro v hv
    subst hv
    cases v with
    | none => exact hs'.elim
    | some v1 =>
      obtain ⟨⟨i1, rfl, g1⟩, -⟩ := hs'
      exact k0 i1 g1
def sg_sh_m0_Z : List sg_z := [(0, [], [.inl (false, (0, .ofNat 0, .negSucc 0))], [(2, 0, (0, .ofNat 0, .ofNat 0), (0, .ofNat 0, .ofNat 0), (0, .ofNat 0, .ofNat 0)), (2, 2, (1, .ofNat 1, .ofNat 0), (0, .ofNat 0, .ofNat 0), (0, .ofNat 0, .ofNat 0))], [(1, [(.negSucc 2147483647, .negSucc 0)])], [], []),
  (0, [], [.inl (false, (0, .ofNat 0, .negSucc 0))], [(2, 0, (0, .ofNat 0, .ofNat 0), (0, .ofNat 0, .ofNat 0), (0, .ofNat 0, .ofNat 0)), (2, 4, (1, .ofNat 1, .ofNat 0), (0, .ofNat 0, .ofNat 3), (0, .ofNat 0, .ofNat 0)), (2, 3, (1, .ofNat 1, .ofNat 0), (0, .ofNat 0, .ofNat 0), (0, .ofNat 0, .ofNat 0))], [(1, [(.ofNat 4, .ofNat 2147483647)])], [], []),
  (0, [], [.inl (false, (0, .ofNat 0, .negSucc 0))], [(2, 0, (0, .ofNat 0, .ofNat 0), (0, .ofNat 0, .ofNat 0), (0, .ofNat 0, .ofNat 0)), (2, 2, (2, .ofNat 1, .ofNat 0), (0, .ofNat 0, .ofNat 0), (0, .ofNat 0, .ofNat 0)), (2, 1, (0, .ofNat 0, .ofNat 1), (0, .ofNat 0, .ofNat 0), (0, .ofNat 0, .ofNat 0)), (2, 5, (1, .ofNat 1, .ofNat 0), (0, .ofNat 0, .ofNat 3), (0, .ofNat 0, .ofNat 0)), (2, 3, (1, .ofNat 1, .ofNat 0), (0, .ofNat 0, .ofNat 0), (0, .ofNat 0, .ofNat 0))], [(1, [(.ofNat 0, .ofNat 3)]), (2, [(.negSucc 2147483647, .negSucc 0)])], [], []),
  (0, [], [.inl (false, (0, .ofNat 0, .negSucc 0))], [(2, 0, (0, .ofNat 0, .ofNat 0), (0, .ofNat 0, .ofNat 0), (0, .ofNat 0, .ofNat 0)), (2, 4, (2, .ofNat 1, .ofNat 0), (0, .ofNat 0, .ofNat 2), (0, .ofNat 0, .ofNat 0)), (2, 3, (2, .ofNat 1, .ofNat 0), (0, .ofNat 0, .ofNat 0), (0, .ofNat 0, .ofNat 0)), (2, 1, (0, .ofNat 0, .ofNat 1), (0, .ofNat 0, .ofNat 0), (0, .ofNat 0, .ofNat 0)), (2, 5, (1, .ofNat 1, .ofNat 0), (0, .ofNat 0, .ofNat 3), (0, .ofNat 0, .ofNat 0)), (2, 3, (1, .ofNat 1, .ofNat 0), (0, .ofNat 0, .ofNat 0), (0, .ofNat 0, .ofNat 0))], [(1, [(.ofNat 0, .ofNat 3)]), (2, [(.ofNat 3, .ofNat 2147483647)])], [], []),
  (57, [(0, .inr (.inl [122])), (1, .inl (false, (1, .ofNat 1, .ofNat 0))), (2, .inl (false, (2, .ofNat 1, .ofNat 0))), (3, .inl (false, (3, .ofNat 1, .ofNat 0))), (4, .inl (false, (0, .ofNat 0, .ofNat 0)))], [], [(1, 159, (1, .ofNat 1, .ofNat 0), (3, .ofNat 1, .ofNat 0), (0, .ofNat 0, .ofNat 0)), (1, 158, (1, .ofNat 1, .ofNat 0), (2, .ofNat 1, .ofNat 0), (0, .ofNat 0, .ofNat 0)), (2, 3, (3, .ofNat 1, .ofNat 0), (0, .ofNat 0, .ofNat 0), (0, .ofNat 0, .ofNat 0)), (2, 5, (3, .ofNat 1, .ofNat 0), (0, .ofNat 0, .ofNat 60), (0, .ofNat 0, .ofNat 0)), (2, 1, (0, .ofNat 0, .ofNat 1), (0, .ofNat 0, .ofNat 0), (0, .ofNat 0, .ofNat 0)), (2, 5, (2, .ofNat 1, .ofNat 0), (0, .ofNat 0, .ofNat 2), (0, .ofNat 0, .ofNat 0)), (2, 3, (2, .ofNat 1, .ofNat 0), (0, .ofNat 0, .ofNat 0), (0, .ofNat 0, .ofNat 0)), (2, 1, (0, .ofNat 0, .ofNat 1), (0, .ofNat 0, .ofNat 0), (0, .ofNat 0, .ofNat 0)), (2, 5, (1, .ofNat 1, .ofNat 0), (0, .ofNat 0, .ofNat 3), (0, .ofNat 0, .ofNat 0)), (2, 3, (1, .ofNat 1, .ofNat 0), (0, .ofNat 0, .ofNat 0), (0, .ofNat 0, .ofNat 0))], [(1, [(.ofNat 0, .ofNat 3)]), (2, [(.ofNat 0, .ofNat 2)]), (3, [(.ofNat 0, .ofNat 60)])], [], []),
  (0, [], [.inl (false, (0, .ofNat 0, .negSucc 13))], [(2, 2, (3, .ofNat 1, .ofNat 0), (0, .ofNat 0, .ofNat 0), (0, .ofNat 0, .ofNat 0)), (2, 5, (3, .ofNat 1, .ofNat 0), (0, .ofNat 0, .ofNat 60), (0, .ofNat 0, .ofNat 0)), (2, 1, (0, .ofNat 0, .ofNat 1), (0, .ofNat 0, .ofNat 0), (0, .ofNat 0, .ofNat 0)), (2, 5, (2, .ofNat 1, .ofNat 0), (0, .ofNat 0, .ofNat 2), (0, .ofNat 0, .ofNat 0)), (2, 3, (2, .ofNat 1, .ofNat 0), (0, .ofNat 0, .ofNat 0), (0, .ofNat 0, .ofNat 0)), (2, 1, (0, .ofNat 0, .ofNat 1), (0, .ofNat 0, .ofNat 0), (0, .ofNat 0, .ofNat 0)), (2, 5, (1, .ofNat 1, .ofNat 0), (0, .ofNat 0, .ofNat 3), (0, .ofNat 0, .ofNat 0)), (2, 3, (1, .ofNat 1, .ofNat 0), (0, .ofNat 0, .ofNat 0), (0, .ofNat 0, .ofNat 0))], [(1, [(.ofNat 0, .ofNat 3)]), (2, [(.ofNat 0, .ofNat 2)]), (3, [(.negSucc 2147483647, .negSucc 0)])], [], []),
  (0, [], [.inl (false, (0, .ofNat 0, .negSucc 0))], [(2, 4, (3, .ofNat 1, .ofNat 0), (0, .ofNat 0, .ofNat 60), (0, .ofNat 0, .ofNat 0)), (2, 1, (0, .ofNat 0, .ofNat 1), (0, .ofNat 0, .ofNat 0), (0, .ofNat 0, .ofNat 0)), (2, 5, (2, .ofNat 1, .ofNat 0), (0, .ofNat 0, .ofNat 2), (0, .ofNat 0, .ofNat 0)), (2, 3, (2, .ofNat 1, .ofNat 0), (0, .ofNat 0, .ofNat 0), (0, .ofNat 0, .ofNat 0)), (2, 1, (0, .ofNat 0, .ofNat 1), (0, .ofNat 0, .ofNat 0), (0, .ofNat 0, .ofNat 0)), (2, 5, (1, .ofNat 1, .ofNat 0), (0, .ofNat 0, .ofNat 3), (0, .ofNat 0, .ofNat 0)), (2, 3, (1, .ofNat 1, .ofNat 0), (0, .ofNat 0, .ofNat 0), (0, .ofNat 0, .ofNat 0))], [(1, [(.ofNat 0, .ofNat 3)]), (2, [(.ofNat 0, .ofNat 2)]), (3, [(.ofNat 61, .ofNat 2147483647)])], [], [])]
set_option maxRecDepth 1000000 in
theorem sg_sh_m0_g : sg_go [] [56] 3000 247 0 1 4 [(0, [(.ofNat 0, .ofNat 0)]), (1, [(.negSucc 2147483647, .ofNat 2147483647)]), (2, [(.negSucc 2147483647, .ofNat 2147483647)]), (3, [(.negSucc 2147483647, .ofNat 2147483647)])] [] [] [] [(0, .inr (.inl [122])), (1, .inl (false, (1, .ofNat 1, .ofNat 0))), (2, .inl (false, (2, .ofNat 1, .ofNat 0))), (3, .inl (false, (3, .ofNat 1, .ofNat 0)))] [] [(158, none), (159, none)] sg_sh_m0_Z = true := by decide +kernel
theorem sg_sh_m0 {Q : Option Value × am_S → Prop} {d : Nat} {S : am_S} {L : am_L} {x1 x2 x3 : Int} (hd : 1 ≤ d) (hP : ax_P0 none S) (l0 : lc L 0 122) (l1 : li L 1 x1) (l2 : li L 2 x2) (l3 : li L 3 x3) (b1 : ((-2147483648) ≤ x1 ∧ x1 ≤ 2147483647)) (b2 : ((-2147483648) ≤ x2 ∧ x2 ≤ 2147483647)) (b3 : ((-2147483648) ≤ x3 ∧ x3 ≤ 2147483647))
    (k0 : ∀ (S' : am_S) (i1 : Int32), ax_P0 none S' → rd S' = rd S → x1 < 0 → ((-2147483648) ≤ x1 ∧ x1 ≤ (-1)) → i1.toInt = (-1) → Q (some (.int i1), S'))
    (k1 : ∀ (S' : am_S) (i1 : Int32), ax_P0 none S' → rd S' = rd S → 0 ≤ x1 → 3 < x1 → (4 ≤ x1 ∧ x1 ≤ 2147483647) → i1.toInt = (-1) → Q (some (.int i1), S'))
    (k2 : ∀ (S' : am_S) (i1 : Int32), ax_P0 none S' → rd S' = rd S → 0 ≤ x1 → x1 ≤ 3 → x2 < 0 → (0 ≤ x1 ∧ x1 ≤ 3) → ((-2147483648) ≤ x2 ∧ x2 ≤ (-1)) → i1.toInt = (-1) → Q (some (.int i1), S'))
    (k3 : ∀ (S' : am_S) (i1 : Int32), ax_P0 none S' → rd S' = rd S → 0 ≤ x1 → x1 ≤ 3 → 0 ≤ x2 → 2 < x2 → (0 ≤ x1 ∧ x1 ≤ 3) → (3 ≤ x2 ∧ x2 ≤ 2147483647) → i1.toInt = (-1) → Q (some (.int i1), S'))
    (k4 : ∀ (L' : am_L) (S' : am_S), ax_P0 none S' → rd S' = sg_up (sg_up (rd S) 158 x1 x2) 159 x1 x3 → 0 ≤ x1 → x1 ≤ 3 → 0 ≤ x2 → x2 ≤ 2 → x3 ≤ 60 → 0 ≤ x3 → (0 ≤ x1 ∧ x1 ≤ 3) → (0 ≤ x2 ∧ x2 ≤ 2) → (0 ≤ x3 ∧ x3 ≤ 60) → lc L' 0 122 → li L' 1 x1 → li L' 2 x2 → li L' 3 x3 → li L' 4 0 → am_V none d 247 56 L' ([]) S' Q)
    (k5 : ∀ (S' : am_S) (i1 : Int32), ax_P0 none S' → rd S' = rd S → 0 ≤ x1 → x1 ≤ 3 → 0 ≤ x2 → x2 ≤ 2 → x3 ≤ 60 → x3 < 0 → (0 ≤ x1 ∧ x1 ≤ 3) → (0 ≤ x2 ∧ x2 ≤ 2) → ((-2147483648) ≤ x3 ∧ x3 ≤ (-1)) → i1.toInt = (-14) → Q (some (.int i1), S'))
    (k6 : ∀ (S' : am_S) (i1 : Int32), ax_P0 none S' → rd S' = rd S → 0 ≤ x1 → x1 ≤ 3 → 0 ≤ x2 → x2 ≤ 2 → 60 < x3 → (0 ≤ x1 ∧ x1 ≤ 3) → (0 ≤ x2 ∧ x2 ≤ 2) → (61 ≤ x3 ∧ x3 ≤ 2147483647) → i1.toInt = (-1) → Q (some (.int i1), S')) : am_V none d 247 0 L ([]) S Q := by
  refine sg_use sg_sh_m0_g hd hP (sg_xs [0, x1, x2, x3]) ⟨⟨Int.le_refl 0, Int.le_refl 0⟩, b1, b2, b3, trivial⟩ trivial trivial trivial ⟨l0, l1, l2, l3, trivial⟩ trivial ?_
  intro z hz x' L' st' S' hx hP' hW hL' hs' hJ hE' hT' hD'
  have q1 : x' 1 = x1 := hx 1 (by decide)
  subst q1
  have q2 : x' 2 = x2 := hx 2 (by decide)
  subst q2
  have q3 : x' 3 = x3 := hx 3 (by decide)
  subst q3
  simp only [sg_sh_m0_Z, List.mem_cons, List.not_mem_nil, or_false] at hz
  rcases hz with rfl | rfl | rfl | rfl | rfl | rfl | rfl
  · obtain ⟨f0, -, hσ⟩ := hJ
    obtain ⟨e0, -⟩ := hE'
    intro v hv
    subst hv
    cases v with
    | none => exact hs'.elim
    | some v1 =>
      obtain ⟨⟨i1, rfl, g1⟩, -⟩ := hs'
      exact k0 S' i1 hP' hσ f0 e0 g1
  · obtain ⟨f0, f1, -, hσ⟩ := hJ
    obtain ⟨e0, -⟩ := hE'
    intro v hv
    subst hv
    cases v with
    | none => exact hs'.elim
    | some v1 =>
      obtain ⟨⟨i1, rfl, g1⟩, -⟩ := hs'
      exact k1 S' i1 hP' hσ f0 f1 e0 g1
  · obtain ⟨f0, f1, -, f3, -, hσ⟩ := hJ
    obtain ⟨e0, e1, -⟩ := hE'
    intro v hv
    subst hv
    cases v with
    | none => exact hs'.elim
    | some v1 =>
      obtain ⟨⟨i1, rfl, g1⟩, -⟩ := hs'
      exact k2 S' i1 hP' hσ f0 f1 f3 e0 e1 g1
  · obtain ⟨f0, f1, -, f3, f4, -, hσ⟩ := hJ
    obtain ⟨e0, e1, -⟩ := hE'
    intro v hv
    subst hv
    cases v with
    | none => exact hs'.elim
    | some v1 =>
      obtain ⟨⟨i1, rfl, g1⟩, -⟩ := hs'
      exact k3 S' i1 hP' hσ f0 f1 f3 f4 e0 e1 g1
  · obtain ⟨f0, f1, -, f3, f4, -, f6, f7, hσ⟩ := hJ
    obtain ⟨e0, e1, e2, -⟩ := hE'
    obtain ⟨p0, p1, p2, p3, p4, -⟩ := hL'
    obtain rfl := sg_tn hs'
    exact k4 L' S' hP' hσ f0 f1 f3 f4 f6 f7 e0 e1 e2 p0 p1 p2 p3 p4
  · obtain ⟨f0, f1, -, f3, f4, -, f6, f7, hσ⟩ := hJ
    obtain ⟨e0, e1, e2, -⟩ := hE'
    intro v hv
    subst hv
    cases v with
    | none => exact hs'.elim
    | some v1 =>
      obtain ⟨⟨i1, rfl, g1⟩, -⟩ := hs'
      exact k5 S' i1 hP' hσ f0 f1 f3 f4 f6 f7 e0 e1 e2 g1
  · obtain ⟨f0, f1, -, f3, f4, -, f6, hσ⟩ := hJ
    obtain ⟨e0, e1, e2, -⟩ := hE'
    intro v hv
    subst hv
    cases v with
    | none => exact hs'.elim
    | some v1 =>
      obtain ⟨⟨i1, rfl, g1⟩, -⟩ := hs'
      exact k6 S' i1 hP' hσ f0 f1 f3 f4 f6 e0 e1 e2 g1
def sg_sh_m1_Z : List sg_z := [(0, [], [.inl (false, (0, .ofNat 0, .ofNat 1))], [(2, 3, (2, .ofNat 1, .ofNat 0), (0, .ofNat 0, .ofNat 60), (0, .ofNat 0, .ofNat 0))], [(1, [(.ofNat 0, .ofNat 3)]), (2, [(.ofNat 60, .ofNat 60)])], [], []),
  (57, [(0, .inr (.inl [122])), (1, .inl (false, (1, .ofNat 1, .ofNat 0))), (4, .inl (false, (2, .ofNat 1, .ofNat 1)))], [], [(1, 160, (3, .ofNat 1, .ofNat 0), (0, .ofNat 0, .ofNat 0), (0, .ofNat 0, .ofNat 0)), (2, 2, (2, .ofNat 1, .ofNat 0), (0, .ofNat 0, .ofNat 60), (0, .ofNat 0, .ofNat 0))], [(1, [(.ofNat 0, .ofNat 3)]), (2, [(.ofNat 0, .ofNat 59)]), (3, [(.ofNat 0, .ofNat 239)])], [((1, .ofNat 60, .ofNat 0), (2, .ofNat 1, .ofNat 0), (3, .ofNat 1, .ofNat 0))], [])]
set_option maxRecDepth 1000000 in
theorem sg_sh_m1_g : sg_go [] [56] 3000 247 56 0 3 [(0, [(.ofNat 0, .ofNat 0)]), (1, [(.ofNat 0, .ofNat 3)]), (2, [(.ofNat 0, .ofNat 60)])] [] [] [] [(0, .inr (.inl [122])), (1, .inl (false, (1, .ofNat 1, .ofNat 0))), (4, .inl (false, (2, .ofNat 1, .ofNat 0)))] [] [(160, none)] sg_sh_m1_Z = true := by decide +kernel
theorem sg_sh_m1 {Q : Option Value × am_S → Prop} {d : Nat} {S : am_S} {L : am_L} {x1 x2 : Int} (hd : 0 ≤ d) (hP : ax_P0 none S) (l0 : lc L 0 122) (l1 : li L 1 x1) (l4 : li L 4 x2) (b1 : (0 ≤ x1 ∧ x1 ≤ 3)) (b2 : (0 ≤ x2 ∧ x2 ≤ 60))
    (k0 : ∀ (S' : am_S) (i1 : Int32), ax_P0 none S' → rd S' = rd S → 60 ≤ x2 → (0 ≤ x1 ∧ x1 ≤ 3) → (60 ≤ x2 ∧ x2 ≤ 60) → i1.toInt = 1 → Q (some (.int i1), S'))
    (k1 : ∀ (x3 : Int) (L' : am_L) (S' : am_S), ax_P0 none S' → rd S' = sg_up (rd S) 160 x3 0 → x2 < 60 → (0 ≤ x1 ∧ x1 ≤ 3) → (0 ≤ x2 ∧ x2 ≤ 59) → (0 ≤ x3 ∧ x3 ≤ 239) → (60 * x1 + 0) + x2 = x3 → lc L' 0 122 → li L' 1 x1 → li L' 4 (x2 + 1) → am_V none d 247 56 L' ([]) S' Q) : am_V none d 247 56 L ([]) S Q := by
  refine sg_use sg_sh_m1_g hd hP (sg_xs [0, x1, x2]) ⟨⟨Int.le_refl 0, Int.le_refl 0⟩, b1, b2, trivial⟩ trivial trivial trivial ⟨l0, l1, l4, trivial⟩ trivial ?_
  intro z hz x' L' st' S' hx hP' hW hL' hs' hJ hE' hT' hD'
  have q1 : x' 1 = x1 := hx 1 (by decide)
  subst q1
  have q2 : x' 2 = x2 := hx 2 (by decide)
  subst q2
  simp only [sg_sh_m1_Z, List.mem_cons, List.not_mem_nil, or_false] at hz
  rcases hz with rfl | rfl
  · obtain ⟨f0, hσ⟩ := hJ
    obtain ⟨e0, e1, -⟩ := hE'
    intro v hv
    subst hv
    cases v with
    | none => exact hs'.elim
    | some v1 =>
      obtain ⟨⟨i1, rfl, g1⟩, -⟩ := hs'
      exact k0 S' i1 hP' hσ f0 e0 e1 g1
  · obtain ⟨f0, hσ⟩ := hJ
    obtain ⟨e0, e1, e2, -⟩ := hE'
    obtain ⟨t0, -⟩ := hT'
    obtain ⟨p0, p1, p2, -⟩ := hL'
    obtain rfl := sg_tn hs'
    exact k1 (x' 3) L' S' hP' hσ f0 e0 e1 e2 t0 p0 p1 p2
def sg_ly_x_Z : List sg_z := [(0, [], [.inl (false, (0, .ofNat 0, .negSucc 0))], [(2, 0, (0, .ofNat 0, .ofNat 0), (0, .ofNat 0, .ofNat 0), (0, .ofNat 0, .ofNat 0)), (2, 2, (1, .ofNat 1, .ofNat 0), (0, .ofNat 0, .ofNat 0), (0, .ofNat 0, .ofNat 0))], [(1, [(.negSucc 2147483647, .negSucc 0)])], [], []),
  (0, [], [.inl (false, (0, .ofNat 0, .negSucc 0))], [(2, 0, (0, .ofNat 0, .ofNat 0), (0, .ofNat 0, .ofNat 0), (0, .ofNat 0, .ofNat 0)), (2, 3, (1, .ofNat 1, .ofNat 0), (0, .ofNat 0, .ofNat 4), (0, .ofNat 0, .ofNat 0)), (2, 3, (1, .ofNat 1, .ofNat 0), (0, .ofNat 0, .ofNat 0), (0, .ofNat 0, .ofNat 0))], [(1, [(.ofNat 4, .ofNat 2147483647)])], [], []),
  (0, [], [.inl (false, (0, .ofNat 0, .negSucc 11))], [(2, 0, (0, .ofNat 0, .ofNat 0), (0, .ofNat 0, .ofNat 0), (0, .ofNat 0, .ofNat 0)), (2, 2, (2, .ofNat 1, .ofNat 0), (0, .ofNat 0, .ofNat 0), (0, .ofNat 0, .ofNat 0)), (2, 0, (0, .ofNat 0, .ofNat 0), (0, .ofNat 0, .ofNat 0), (0, .ofNat 0, .ofNat 0)), (2, 1, (4, .ofNat 1, .ofNat 0), (0, .ofNat 0, .negSucc 0), (0, .ofNat 0, .ofNat 0)), (0, 120, (0, .ofNat 0, .ofNat 2), (4, .ofNat 1, .ofNat 0), (0, .ofNat 0, .ofNat 0)), (2, 1, (0, .ofNat 0, .ofNat 1), (0, .ofNat 0, .ofNat 0), (0, .ofNat 0, .ofNat 0)), (2, 2, (1, .ofNat 1, .ofNat 0), (0, .ofNat 0, .ofNat 4), (0, .ofNat 0, .ofNat 0)), (2, 3, (1, .ofNat 1, .ofNat 0), (0, .ofNat 0, .ofNat 0), (0, .ofNat 0, .ofNat 0))], [(1, [(.ofNat 3, .ofNat 3)]), (2, [(.negSucc 2147483647, .negSucc 0)]), (4, [(.ofNat 0, .ofNat 2)])], [], []),
  (0, [], [.inl (false, (0, .ofNat 0, .negSucc 11))], [(2, 0, (0, .ofNat 0, .ofNat 0), (0, .ofNat 0, .ofNat 0), (0, .ofNat 0, .ofNat 0)), (2, 4, (2, .ofNat 1, .ofNat 0), (5, .ofNat 1, .negSucc 0), (0, .ofNat 0, .ofNat 0)), (0, 120, (0, .ofNat 0, .ofNat 0), (5, .ofNat 1, .ofNat 0), (0, .ofNat 0, .ofNat 0)), (2, 3, (2, .ofNat 1, .ofNat 0), (0, .ofNat 0, .ofNat 0), (0, .ofNat 0, .ofNat 0)), (2, 0, (0, .ofNat 0, .ofNat 0), (0, .ofNat 0, .ofNat 0), (0, .ofNat 0, .ofNat 0)), (2, 1, (4, .ofNat 1, .ofNat 0), (0, .ofNat 0, .negSucc 0), (0, .ofNat 0, .ofNat 0)), (0, 120, (0, .ofNat 0, .ofNat 2), (4, .ofNat 1, .ofNat 0), (0, .ofNat 0, .ofNat 0)), (2, 1, (0, .ofNat 0, .ofNat 1), (0, .ofNat 0, .ofNat 0), (0, .ofNat 0, .ofNat 0)), (2, 2, (1, .ofNat 1, .ofNat 0), (0, .ofNat 0, .ofNat 4), (0, .ofNat 0, .ofNat 0)), (2, 3, (1, .ofNat 1, .ofNat 0), (0, .ofNat 0, .ofNat 0), (0, .ofNat 0, .ofNat 0))], [(1, [(.ofNat 3, .ofNat 3)]), (2, [(.ofNat 0, .ofNat 2147483647)]), (4, [(.ofNat 0, .ofNat 2)]), (5, [(.ofNat 0, .ofNat 60)])], [], []),
  (0, [], [.inl (false, (0, .ofNat 0, .ofNat 1))], [(1, 121, (2, .ofNat 1, .ofNat 0), (3, .ofNat 1, .ofNat 0), (0, .ofNat 0, .ofNat 0)), (2, 1, (4, .ofNat 1, .ofNat 0), (0, .ofNat 0, .ofNat 1), (0, .ofNat 0, .ofNat 0)), (0, 120, (0, .ofNat 0, .ofNat 2), (4, .ofNat 1, .ofNat 0), (0, .ofNat 0, .ofNat 0)), (2, 1, (4, .ofNat 1, .ofNat 0), (0, .ofNat 0, .ofNat 0), (0, .ofNat 0, .ofNat 0)), (0, 120, (0, .ofNat 0, .ofNat 2), (4, .ofNat 1, .ofNat 0), (0, .ofNat 0, .ofNat 0)), (2, 1, (0, .ofNat 0, .ofNat 1), (0, .ofNat 0, .ofNat 0), (0, .ofNat 0, .ofNat 0)), (2, 5, (2, .ofNat 1, .ofNat 0), (5, .ofNat 1, .negSucc 0), (0, .ofNat 0, .ofNat 0)), (0, 120, (0, .ofNat 0, .ofNat 0), (5, .ofNat 1, .ofNat 0), (0, .ofNat 0, .ofNat 0)), (2, 3, (2, .ofNat 1, .ofNat 0), (0, .ofNat 0, .ofNat 0), (0, .ofNat 0, .ofNat 0)), (2, 0, (0, .ofNat 0, .ofNat 0), (0, .ofNat 0, .ofNat 0), (0, .ofNat 0, .ofNat 0)), (2, 1, (4, .ofNat 1, .ofNat 0), (0, .ofNat 0, .negSucc 0), (0, .ofNat 0, .ofNat 0)), (0, 120, (0, .ofNat 0, .ofNat 2), (4, .ofNat 1, .ofNat 0), (0, .ofNat 0, .ofNat 0)), (2, 1, (0, .ofNat 0, .ofNat 1), (0, .ofNat 0, .ofNat 0), (0, .ofNat 0, .ofNat 0)), (2, 2, (1, .ofNat 1, .ofNat 0), (0, .ofNat 0, .ofNat 4), (0, .ofNat 0, .ofNat 0)), (2, 3, (1, .ofNat 1, .ofNat 0), (0, .ofNat 0, .ofNat 0), (0, .ofNat 0, .ofNat 0))], [(1, [(.ofNat 3, .ofNat 3)]), (2, [(.ofNat 0, .ofNat 59)]), (4, [(.ofNat 2, .ofNat 2)]), (5, [(.ofNat 1, .ofNat 60)])], [], []),
  (0, [], [.inl (false, (0, .ofNat 0, .ofNat 1))], [(1, 121, (2, .ofNat 1, .ofNat 0), (6, .ofNat 1, .ofNat 0), (0, .ofNat 0, .ofNat 0)), (3, 7, (3, .ofNat 1, .ofNat 0), (0, .ofNat 0, .ofNat 0), (6, .ofNat 1, .ofNat 0)), (2, 0, (4, .ofNat 1, .ofNat 0), (0, .ofNat 0, .ofNat 1), (0, .ofNat 0, .ofNat 0)), (0, 120, (0, .ofNat 0, .ofNat 2), (4, .ofNat 1, .ofNat 0), (0, .ofNat 0, .ofNat 0)), (2, 1, (4, .ofNat 1, .ofNat 0), (0, .ofNat 0, .ofNat 0), (0, .ofNat 0, .ofNat 0)), (0, 120, (0, .ofNat 0, .ofNat 2), (4, .ofNat 1, .ofNat 0), (0, .ofNat 0, .ofNat 0)), (2, 1, (0, .ofNat 0, .ofNat 1), (0, .ofNat 0, .ofNat 0), (0, .ofNat 0, .ofNat 0)), (2, 5, (2, .ofNat 1, .ofNat 0), (5, .ofNat 1, .negSucc 0), (0, .ofNat 0, .ofNat 0)), (0, 120, (0, .ofNat 0, .ofNat 0), (5, .ofNat 1, .ofNat 0), (0, .ofNat 0, .ofNat 0)), (2, 3, (2, .ofNat 1, .ofNat 0), (0, .ofNat 0, .ofNat 0), (0, .ofNat 0, .ofNat 0)), (2, 0, (0, .ofNat 0, .ofNat 0), (0, .ofNat 0, .ofNat 0), (0, .ofNat 0, .ofNat 0)), (2, 1, (4, .ofNat 1, .ofNat 0), (0, .ofNat 0, .negSucc 0), (0, .ofNat 0, .ofNat 0)), (0, 120, (0, .ofNat 0, .ofNat 2), (4, .ofNat 1, .ofNat 0), (0, .ofNat 0, .ofNat 0)), (2, 1, (0, .ofNat 0, .ofNat 1), (0, .ofNat 0, .ofNat 0), (0, .ofNat 0, .ofNat 0)), (2, 2, (1, .ofNat 1, .ofNat 0), (0, .ofNat 0, .ofNat 4), (0, .ofNat 0, .ofNat 0)), (2, 3, (1, .ofNat 1, .ofNat 0), (0, .ofNat 0, .ofNat 0), (0, .ofNat 0, .ofNat 0))], [(1, [(.ofNat 3, .ofNat 3)]), (2, [(.ofNat 0, .ofNat 59)]), (4, [(.ofNat 1, .ofNat 1)]), (5, [(.ofNat 1, .ofNat 60)]), (6, [(.negSucc 32767, .ofNat 32767)])], [], []),
  (0, [], [.inl (false, (0, .ofNat 0, .ofNat 1))], [(1, 121, (2, .ofNat 1, .ofNat 0), (6, .ofNat 1, .ofNat 0), (0, .ofNat 0, .ofNat 0)), (3, 6, (3, .ofNat 1, .ofNat 0), (0, .ofNat 0, .ofNat 0), (6, .ofNat 1, .ofNat 0)), (2, 0, (4, .ofNat 1, .ofNat 0), (0, .ofNat 0, .ofNat 0), (0, .ofNat 0, .ofNat 0)), (0, 120, (0, .ofNat 0, .ofNat 2), (4, .ofNat 1, .ofNat 0), (0, .ofNat 0, .ofNat 0)), (2, 1, (0, .ofNat 0, .ofNat 1), (0, .ofNat 0, .ofNat 0), (0, .ofNat 0, .ofNat 0)), (2, 5, (2, .ofNat 1, .ofNat 0), (5, .ofNat 1, .negSucc 0), (0, .ofNat 0, .ofNat 0)), (0, 120, (0, .ofNat 0, .ofNat 0), (5, .ofNat 1, .ofNat 0), (0, .ofNat 0, .ofNat 0)), (2, 3, (2, .ofNat 1, .ofNat 0), (0, .ofNat 0, .ofNat 0), (0, .ofNat 0, .ofNat 0)), (2, 0, (0, .ofNat 0, .ofNat 0), (0, .ofNat 0, .ofNat 0), (0, .ofNat 0, .ofNat 0)), (2, 1, (4, .ofNat 1, .ofNat 0), (0, .ofNat 0, .negSucc 0), (0, .ofNat 0, .ofNat 0)), (0, 120, (0, .ofNat 0, .ofNat 2), (4, .ofNat 1, .ofNat 0), (0, .ofNat 0, .ofNat 0)), (2, 1, (0, .ofNat 0, .ofNat 1), (0, .ofNat 0, .ofNat 0), (0, .ofNat 0, .ofNat 0)), (2, 2, (1, .ofNat 1, .ofNat 0), (0, .ofNat 0, .ofNat 4), (0, .ofNat 0, .ofNat 0)), (2, 3, (1, .ofNat 1, .ofNat 0), (0, .ofNat 0, .ofNat 0), (0, .ofNat 0, .ofNat 0))], [(1, [(.ofNat 3, .ofNat 3)]), (2, [(.ofNat 0, .ofNat 59)]), (4, [(.ofNat 0, .ofNat 0)]), (5, [(.ofNat 1, .ofNat 60)]), (6, [(.negSucc 127, .ofNat 127)])], [], []),
  (0, [], [.inl (false, (0, .ofNat 0, .negSucc 10))], [(2, 1, (0, .ofNat 0, .ofNat 1), (0, .ofNat 0, .ofNat 0), (0, .ofNat 0, .ofNat 0)), (2, 0, (4, .ofNat 1, .ofNat 0), (0, .ofNat 0, .negSucc 0), (0, .ofNat 0, .ofNat 0)), (0, 120, (0, .ofNat 0, .ofNat 2), (4, .ofNat 1, .ofNat 0), (0, .ofNat 0, .ofNat 0)), (2, 1, (0, .ofNat 0, .ofNat 1), (0, .ofNat 0, .ofNat 0), (0, .ofNat 0, .ofNat 0)), (2, 2, (1, .ofNat 1, .ofNat 0), (0, .ofNat 0, .ofNat 4), (0, .ofNat 0, .ofNat 0)), (2, 3, (1, .ofNat 1, .ofNat 0), (0, .ofNat 0, .ofNat 0), (0, .ofNat 0, .ofNat 0))], [(1, [(.ofNat 3, .ofNat 3)]), (4, [(.negSucc 0, .negSucc 0)])], [], []),
  (0, [], [.inl (false, (0, .ofNat 0, .negSucc 11))], [(2, 0, (0, .ofNat 0, .ofNat 0), (0, .ofNat 0, .ofNat 0), (0, .ofNat 0, .ofNat 0)), (2, 2, (2, .ofNat 1, .ofNat 0), (0, .ofNat 0, .ofNat 0), (0, .ofNat 0, .ofNat 0)), (2, 0, (0, .ofNat 0, .ofNat 0), (0, .ofNat 0, .ofNat 0), (0, .ofNat 0, .ofNat 0)), (2, 1, (4, .ofNat 1, .ofNat 0), (0, .ofNat 0, .negSucc 0), (0, .ofNat 0, .ofNat 0)), (0, 118, (0, .ofNat 0, .ofNat 2), (4, .ofNat 1, .ofNat 0), (0, .ofNat 0, .ofNat 0)), (2, 1, (0, .ofNat 0, .ofNat 1), (0, .ofNat 0, .ofNat 0), (0, .ofNat 0, .ofNat 0)), (2, 2, (1, .ofNat 1, .ofNat 0), (0, .ofNat 0, .ofNat 4), (0, .ofNat 0, .ofNat 0)), (2, 3, (1, .ofNat 1, .ofNat 0), (0, .ofNat 0, .ofNat 0), (0, .ofNat 0, .ofNat 0))], [(1, [(.ofNat 2, .ofNat 2)]), (2, [(.negSucc 2147483647, .negSucc 0)]), (4, [(.ofNat 0, .ofNat 2)])], [], []),
  (0, [], [.inl (false, (0, .ofNat 0, .negSucc 11))], [(2, 0, (0, .ofNat 0, .ofNat 0), (0, .ofNat 0, .ofNat 0), (0, .ofNat 0, .ofNat 0)), (2, 4, (2, .ofNat 1, .ofNat 0), (5, .ofNat 1, .negSucc 0), (0, .ofNat 0, .ofNat 0)), (0, 118, (0, .ofNat 0, .ofNat 0), (5, .ofNat 1, .ofNat 0), (0, .ofNat 0, .ofNat 0)), (2, 3, (2, .ofNat 1, .ofNat 0), (0, .ofNat 0, .ofNat 0), (0, .ofNat 0, .ofNat 0)), (2, 0, (0, .ofNat 0, .ofNat 0), (0, .ofNat 0, .ofNat 0), (0, .ofNat 0, .ofNat 0)), (2, 1, (4, .ofNat 1, .ofNat 0), (0, .ofNat 0, .negSucc 0), (0, .ofNat 0, .ofNat 0)), (0, 118, (0, .ofNat 0, .ofNat 2), (4, .ofNat 1, .ofNat 0), (0, .ofNat 0, .ofNat 0)), (2, 1, (0, .ofNat 0, .ofNat 1), (0, .ofNat 0, .ofNat 0), (0, .ofNat 0, .ofNat 0)), (2, 2, (1, .ofNat 1, .ofNat 0), (0, .ofNat 0, .ofNat 4), (0, .ofNat 0, .ofNat 0)), (2, 3, (1, .ofNat 1, .ofNat 0), (0, .ofNat 0, .ofNat 0), (0, .ofNat 0, .ofNat 0))], [(1, [(.ofNat 2, .ofNat 2)]), (2, [(.ofNat 0, .ofNat 2147483647)]), (4, [(.ofNat 0, .ofNat 2)]), (5, [(.ofNat 0, .ofNat 60)])], [], []),
  (0, [], [.inl (false, (0, .ofNat 0, .ofNat 1))], [(1, 119, (2, .ofNat 1, .ofNat 0), (3, .ofNat 1, .ofNat 0), (0, .ofNat 0, .ofNat 0)), (2, 1, (4, .ofNat 1, .ofNat 0), (0, .ofNat 0, .ofNat 1), (0, .ofNat 0, .ofNat 0)), (0, 118, (0, .ofNat 0, .ofNat 2), (4, .ofNat 1, .ofNat 0), (0, .ofNat 0, .ofNat 0)), (2, 1, (4, .ofNat 1, .ofNat 0), (0, .ofNat 0, .ofNat 0), (0, .ofNat 0, .ofNat 0)), (0, 118, (0, .ofNat 0, .ofNat 2), (4, .ofNat 1, .ofNat 0), (0, .ofNat 0, .ofNat 0)), (2, 1, (0, .ofNat 0, .ofNat 1), (0, .ofNat 0, .ofNat 0), (0, .ofNat 0, .ofNat 0)), (2, 5, (2, .ofNat 1, .ofNat 0), (5, .ofNat 1, .negSucc 0), (0, .ofNat 0, .ofNat 0)), (0, 118, (0, .ofNat 0, .ofNat 0), (5, .ofNat 1, .ofNat 0), (0, .ofNat 0, .ofNat 0)), (2, 3, (2, .ofNat 1, .ofNat 0), (0, .ofNat 0, .ofNat 0), (0, .ofNat 0, .ofNat 0)), (2, 0, (0, .ofNat 0, .ofNat 0), (0, .ofNat 0, .ofNat 0), (0, .ofNat 0, .ofNat 0)), (2, 1, (4, .ofNat 1, .ofNat 0), (0, .ofNat 0, .negSucc 0), (0, .ofNat 0, .ofNat 0)), (0, 118, (0, .ofNat 0, .ofNat 2), (4, .ofNat 1, .ofNat 0), (0, .ofNat 0, .ofNat 0)), (2, 1, (0, .ofNat 0, .ofNat 1), (0, .ofNat 0, .ofNat 0), (0, .ofNat 0, .ofNat 0)), (2, 2, (1, .ofNat 1, .ofNat 0), (0, .ofNat 0, .ofNat 4), (0, .ofNat 0, .ofNat 0)), (2, 3, (1, .ofNat 1, .ofNat 0), (0, .ofNat 0, .ofNat 0), (0, .ofNat 0, .ofNat 0))], [(1, [(.ofNat 2, .ofNat 2)]), (2, [(.ofNat 0, .ofNat 59)]), (4, [(.ofNat 2, .ofNat 2)]), (5, [(.ofNat 1, .ofNat 60)])], [], []),
  (0, [], [.inl (false, (0, .ofNat 0, .ofNat 1))], [(1, 119, (2, .ofNat 1, .ofNat 0), (6, .ofNat 1, .ofNat 0), (0, .ofNat 0, .ofNat 0)), (3, 7, (3, .ofNat 1, .ofNat 0), (0, .ofNat 0, .ofNat 0), (6, .ofNat 1, .ofNat 0)), (2, 0, (4, .ofNat 1, .ofNat 0), (0, .ofNat 0, .ofNat 1), (0, .ofNat 0, .ofNat 0)), (0, 118, (0, .ofNat 0, .ofNat 2), (4, .ofNat 1, .ofNat 0), (0, .ofNat 0, .ofNat 0)), (2, 1, (4, .ofNat 1, .ofNat 0), (0, .ofNat 0, .ofNat 0), (0, .ofNat 0, .ofNat 0)), (0, 118, (0, .ofNat 0, .ofNat 2), (4, .ofNat 1, .ofNat 0), (0, .ofNat 0, .ofNat 0)), (2, 1, (0, .ofNat 0, .ofNat 1), (0, .ofNat 0, .ofNat 0), (0, .ofNat 0, .ofNat 0)), (2, 5, (2, .ofNat 1, .ofNat 0), (5, .ofNat 1, .negSucc 0), (0, .ofNat 0, .ofNat 0)), (0, 118, (0, .ofNat 0, .ofNat 0), (5, .ofNat 1, .ofNat 0), (0, .ofNat 0, .ofNat 0)), (2, 3, (2, .ofNat 1, .ofNat 0), (0, .ofNat 0, .ofNat 0), (0, .ofNat 0, .ofNat 0)), (2, 0, (0, .ofNat 0, .ofNat 0), (0, .ofNat 0, .ofNat 0), (0, .ofNat 0, .ofNat 0)), (2, 1, (4, .ofNat 1, .ofNat 0), (0, .ofNat 0, .negSucc 0), (0, .ofNat 0, .ofNat 0)), (0, 118, (0, .ofNat 0, .ofNat 2), (4, .ofNat 1, .ofNat 0), (0, .ofNat 0, .ofNat 0)), (2, 1, (0, .ofNat 0, .ofNat 1), (0, .ofNat 0, .ofNat 0), (0, .ofNat 0, .ofNat 0)), (2, 2, (1, .ofNat 1, .ofNat 0), (0, .ofNat 0, .ofNat 4), (0, .ofNat 0, .ofNat 0)), (2, 3, (1, .ofNat 1, .ofNat 0), (0, .ofNat 0, .ofNat 0), (0, .ofNat 0, .ofNat 0))], [(1, [(.ofNat 2, .ofNat 2)]), (2, [(.ofNat 0, .ofNat 59)]), (4, [(.ofNat 1, .ofNat 1)]), (5, [(.ofNat 1, .ofNat 60)]), (6, [(.negSucc 32767, .ofNat 32767)])], [], []),
  (0, [], [.inl (false, (0, .ofNat 0, .ofNat 1))], [(1, 119, (2, .ofNat 1, .ofNat 0), (6, .ofNat 1, .ofNat 0), (0, .ofNat 0, .ofNat 0)), (3, 6, (3, .ofNat 1, .ofNat 0), (0, .ofNat 0, .ofNat 0), (6, .ofNat 1, .ofNat 0)), (2, 0, (4, .ofNat 1, .ofNat 0), (0, .ofNat 0, .ofNat 0), (0, .ofNat 0, .ofNat 0)), (0, 118, (0, .ofNat 0, .ofNat 2), (4, .ofNat 1, .ofNat 0), (0, .ofNat 0, .ofNat 0)), (2, 1, (0, .ofNat 0, .ofNat 1), (0, .ofNat 0, .ofNat 0), (0, .ofNat 0, .ofNat 0)), (2, 5, (2, .ofNat 1, .ofNat 0), (5, .ofNat 1, .negSucc 0), (0, .ofNat 0, .ofNat 0)), (0, 118, (0, .ofNat 0, .ofNat 0), (5, .ofNat 1, .ofNat 0), (0, .ofNat 0, .ofNat 0)), (2, 3, (2, .ofNat 1, .ofNat 0), (0, .ofNat 0, .ofNat 0), (0, .ofNat 0, .ofNat 0)), (2, 0, (0, .ofNat 0, .ofNat 0), (0, .ofNat 0, .ofNat 0), (0, .ofNat 0, .ofNat 0)), (2, 1, (4, .ofNat 1, .ofNat 0), (0, .ofNat 0, .negSucc 0), (0, .ofNat 0, .ofNat 0)), (0, 118, (0, .ofNat 0, .ofNat 2), (4, .ofNat 1, .ofNat 0), (0, .ofNat 0, .ofNat 0)), (2, 1, (0, .ofNat 0, .ofNat 1), (0, .ofNat 0, .ofNat 0), (0, .ofNat 0, .ofNat 0)), (2, 2, (1, .ofNat 1, .ofNat 0), (0, .ofNat 0, .ofNat 4), (0, .ofNat 0, .ofNat 0)), (2, 3, (1, .ofNat 1, .ofNat 0), (0, .ofNat 0, .ofNat 0), (0, .ofNat 0, .ofNat 0))], [(1, [(.ofNat 2, .ofNat 2)]), (2, [(.ofNat 0, .ofNat 59)]), (4, [(.ofNat 0, .ofNat 0)]), (5, [(.ofNat 1, .ofNat 60)]), (6, [(.negSucc 127, .ofNat 127)])], [], []),
  (0, [], [.inl (false, (0, .ofNat 0, .negSucc 10))], [(2, 1, (0, .ofNat 0, .ofNat 1), (0, .ofNat 0, .ofNat 0), (0, .ofNat 0, .ofNat 0)), (2, 0, (4, .ofNat 1, .ofNat 0), (0, .ofNat 0, .negSucc 0), (0, .ofNat 0, .ofNat 0)), (0, 118, (0, .ofNat 0, .ofNat 2), (4, .ofNat 1, .ofNat 0), (0, .ofNat 0, .ofNat 0)), (2, 1, (0, .ofNat 0, .ofNat 1), (0, .ofNat 0, .ofNat 0), (0, .ofNat 0, .ofNat 0)), (2, 2, (1, .ofNat 1, .ofNat 0), (0, .ofNat 0, .ofNat 4), (0, .ofNat 0, .ofNat 0)), (2, 3, (1, .ofNat 1, .ofNat 0), (0, .ofNat 0, .ofNat 0), (0, .ofNat 0, .ofNat 0))], [(1, [(.ofNat 2, .ofNat 2)]), (4, [(.negSucc 0, .negSucc 0)])], [], []),
  (0, [], [.inl (false, (0, .ofNat 0, .negSucc 11))], [(2, 0, (0, .ofNat 0, .ofNat 0), (0, .ofNat 0, .ofNat 0), (0, .ofNat 0, .ofNat 0)), (2, 2, (2, .ofNat 1, .ofNat 0), (0, .ofNat 0, .ofNat 0), (0, .ofNat 0, .ofNat 0)), (2, 0, (0, .ofNat 0, .ofNat 0), (0, .ofNat 0, .ofNat 0), (0, .ofNat 0, .ofNat 0)), (2, 1, (4, .ofNat 1, .ofNat 0), (0, .ofNat 0, .negSucc 0), (0, .ofNat 0, .ofNat 0)), (0, 116, (0, .ofNat 0, .ofNat 2), (4, .ofNat 1, .ofNat 0), (0, .ofNat 0, .ofNat 0)), (2, 1, (0, .ofNat 0, .ofNat 1), (0, .ofNat 0, .ofNat 0), (0, .ofNat 0, .ofNat 0)), (2, 2, (1, .ofNat 1, .ofNat 0), (0, .ofNat 0, .ofNat 4), (0, .ofNat 0, .ofNat 0)), (2, 3, (1, .ofNat 1, .ofNat 0), (0, .ofNat 0, .ofNat 0), (0, .ofNat 0, .ofNat 0))], [(1, [(.ofNat 1, .ofNat 1)]), (2, [(.negSucc 2147483647, .negSucc 0)]), (4, [(.ofNat 0, .ofNat 2)])], [], []),
  (0, [], [.inl (false, (0, .ofNat 0, .negSucc 11))], [(2, 0, (0, .ofNat 0, .ofNat 0), (0, .ofNat 0, .ofNat 0), (0, .ofNat 0, .ofNat 0)), (2, 4, (2, .ofNat 1, .ofNat 0), (5, .ofNat 1, .negSucc 0), (0, .ofNat 0, .ofNat 0)), (0, 116, (0, .ofNat 0, .ofNat 0), (5, .ofNat 1, .ofNat 0), (0, .ofNat 0, .ofNat 0)), (2, 3, (2, .ofNat 1, .ofNat 0), (0, .ofNat 0, .ofNat 0), (0, .ofNat 0, .ofNat 0)), (2, 0, (0, .ofNat 0, .ofNat 0), (0, .ofNat 0, .ofNat 0), (0, .ofNat 0, .ofNat 0)), (2, 1, (4, .ofNat 1, .ofNat 0), (0, .ofNat 0, .negSucc 0), (0, .ofNat 0, .ofNat 0)), (0, 116, (0, .ofNat 0, .ofNat 2), (4, .ofNat 1, .ofNat 0), (0, .ofNat 0, .ofNat 0)), (2, 1, (0, .ofNat 0, .ofNat 1), (0, .ofNat 0, .ofNat 0), (0, .ofNat 0, .ofNat 0)), (2, 2, (1, .ofNat 1, .ofNat 0), (0, .ofNat 0, .ofNat 4), (0, .ofNat 0, .ofNat 0)), (2, 3, (1, .ofNat 1, .ofNat 0), (0, .ofNat 0, .ofNat 0), (0, .ofNat 0, .ofNat 0))], [(1, [(.ofNat 1, .ofNat 1)]), (2, [(.ofNat 0, .ofNat 2147483647)]), (4, [(.ofNat 0, .ofNat 2)]), (5, [(.ofNat 0, .ofNat 60)])], [], []),
  (0, [], [.inl (false, (0, .ofNat 0, .ofNat 1))], [(1, 117, (2, .ofNat 1, .ofNat 0), (3, .ofNat 1, .ofNat 0), (0, .ofNat 0, .ofNat 0)), (2, 1, (4, .ofNat 1, .ofNat 0), (0, .ofNat 0, .ofNat 1), (0, .ofNat 0, .ofNat 0)), (0, 116, (0, .ofNat 0, .ofNat 2), (4, .ofNat 1, .ofNat 0), (0, .ofNat 0, .ofNat 0)), (2, 1, (4, .ofNat 1, .ofNat 0), (0, .ofNat 0, .ofNat 0), (0, .ofNat 0, .ofNat 0)), (0, 116, (0, .ofNat 0, .ofNat 2), (4, .ofNat 1, .ofNat 0), (0, .ofNat 0, .ofNat 0)), (2, 1, (0, .ofNat 0, .ofNat 1), (0, .ofNat 0, .ofNat 0), (0, .ofNat 0, .ofNat 0)), (2, 5, (2, .ofNat 1, .ofNat 0), (5, .ofNat 1, .negSucc 0), (0, .ofNat 0, .ofNat 0)), (0, 116, (0, .ofNat 0, .ofNat 0), (5, .ofNat 1, .ofNat 0), (0, .ofNat 0, .ofNat 0)), (2, 3, (2, .ofNat 1, .ofNat 0), (0, .ofNat 0, .ofNat 0), (0, .ofNat 0, .ofNat 0)), (2, 0, (0, .ofNat 0, .ofNat 0), (0, .ofNat 0, .ofNat 0), (0, .ofNat 0, .ofNat 0)), (2, 1, (4, .ofNat 1, .ofNat 0), (0, .ofNat 0, .negSucc 0), (0, .ofNat 0, .ofNat 0)), (0, 116, (0, .ofNat 0, .ofNat 2), (4, .ofNat 1, .ofNat 0), (0, .ofNat 0, .ofNat 0)), (2, 1, (0, .ofNat 0, .ofNat 1), (0, .ofNat 0, .ofNat 0), (0, .ofNat 0, .ofNat 0)), (2, 2, (1, .ofNat 1, .ofNat 0), (0, .ofNat 0, .ofNat 4), (0, .ofNat 0, .ofNat 0)), (2, 3, (1, .ofNat 1, .ofNat 0), (0, .ofNat 0, .ofNat 0), (0, .ofNat 0, .ofNat 0))], [(1, [(.ofNat 1, .ofNat 1)]), (2, [(.ofNat 0, .ofNat 59)]), (4, [(.ofNat 2, .ofNat 2)]), (5, [(.ofNat 1, .ofNat 60)])], [], []),
  (0, [], [.inl (false, (0, .ofNat 0, .ofNat 1))], [(1, 117, (2, .ofNat 1, .ofNat 0), (6, .ofNat 1, .ofNat 0), (0, .ofNat 0, .ofNat 0)), (3, 7, (3, .ofNat 1, .ofNat 0), (0, .ofNat 0, .ofNat 0), (6, .ofNat 1, .ofNat 0)), (2, 0, (4, .ofNat 1, .ofNat 0), (0, .ofNat 0, .ofNat 1), (0, .ofNat 0, .ofNat 0)), (0, 116, (0, .ofNat 0, .ofNat 2), (4, .ofNat 1, .ofNat 0), (0, .ofNat 0, .ofNat 0)), (2, 1, (4, .ofNat 1, .ofNat 0), (0, .ofNat 0, .ofNat 0), (0, .ofNat 0, .ofNat 0)), (0, 116, (0, .ofNat 0, .ofNat 2), (4, .ofNat 1, .ofNat 0), (0, .ofNat 0, .ofNat 0)), (2, 1, (0, .ofNat 0, .ofNat 1), (0, .ofNat 0, .ofNat 0), (0, .ofNat 0, .ofNat 0)), (2, 5, (2, .ofNat 1, .ofNat 0), (5, .ofNat 1, .negSucc 0), (0, .ofNat 0, .ofNat 0)), (0, 116, (0, .ofNat 0, .ofNat 0), (5, .ofNat 1, .ofNat 0), (0, .ofNat 0, .ofNat 0)), (2, 3, (2, .ofNat 1, .ofNat 0), (0, .ofNat 0, .ofNat 0), (0, .ofNat 0, .ofNat 0)), (2, 0, (0, .ofNat 0, .ofNat 0), (0, .ofNat 0, .ofNat 0), (0, .ofNat 0, .ofNat 0)), (2, 1, (4, .ofNat 1, .ofNat 0), (0, .ofNat 0, .negSucc 0), (0, .ofNat 0, .ofNat 0)), (0, 116, (0, .ofNat 0, .ofNat 2), (4, .ofNat 1, .ofNat 0), (0, .ofNat 0, .ofNat 0)), (2, 1, (0, .ofNat 0, .ofNat 1), (0, .ofNat 0, .ofNat 0), (0, .ofNat 0, .ofNat 0)), (2, 2, (1, .ofNat 1, .ofNat 0), (0, .ofNat 0, .ofNat 4), (0, .ofNat 0, .ofNat 0)), (2, 3, (1, .ofNat 1, .ofNat 0), (0, .ofNat 0, .ofNat 0), (0, .ofNat 0, .ofNat 0))], [(1, [(.ofNat 1, .ofNat 1)]), (2, [(.ofNat 0, .ofNat 59)]), (4, [(.ofNat 1, .ofNat 1)]), (5, [(.ofNat 1, .ofNat 60)]), (6, [(.negSucc 32767, .ofNat 32767)])], [], []),
  (0, [], [.inl (false, (0, .ofNat 0, .ofNat 1))], [(1, 117, (2, .ofNat 1, .ofNat 0), (6, .ofNat 1, .ofNat 0), (0, .ofNat 0, .ofNat 0)), (3, 6, (3, .ofNat 1, .ofNat 0), (0, .ofNat 0, .ofNat 0), (6, .ofNat 1, .ofNat 0)), (2, 0, (4, .ofNat 1, .ofNat 0), (0, .ofNat 0, .ofNat 0), (0, .ofNat 0, .ofNat 0)), (0, 116, (0, .ofNat 0, .ofNat 2), (4, .ofNat 1, .ofNat 0), (0, .ofNat 0, .ofNat 0)), (2, 1, (0, .ofNat 0, .ofNat 1), (0, .ofNat 0, .ofNat 0), (0, .ofNat 0, .ofNat 0)), (2, 5, (2, .ofNat 1, .ofNat 0), (5, .ofNat 1, .negSucc 0), (0, .ofNat 0, .ofNat 0)), (0, 116, (0, .ofNat 0, .ofNat 0), (5, .ofNat 1, .ofNat 0), (0, .ofNat 0, .ofNat 0)), (2, 3, (2, .ofNat 1, .ofNat 0), (0, .ofNat 0, .ofNat 0), (0, .ofNat 0, .ofNat 0)), (2, 0, (0, .ofNat 0, .ofNat 0), (0, .ofNat 0, .ofNat 0), (0, .ofNat 0, .ofNat 0)), (2, 1, (4, .ofNat 1, .ofNat 0), (0, .ofNat 0, .negSucc 0), (0, .ofNat 0, .ofNat 0)), (0, 116, (0, .ofNat 0, .ofNat 2), (4, .ofNat 1, .ofNat 0), (0, .ofNat 0, .ofNat 0)), (2, 1, (0, .ofNat 0, .ofNat 1), (0, .ofNat 0, .ofNat 0), (0, .ofNat 0, .ofNat 0)), (2, 2, (1, .ofNat 1, .ofNat 0), (0, .ofNat 0, .ofNat 4), (0, .ofNat 0, .ofNat 0)), (2, 3, (1, .ofNat 1, .ofNat 0), (0, .ofNat 0, .ofNat 0), (0, .ofNat 0, .ofNat 0))], [(1, [(.ofNat 1, .ofNat 1)]), (2, [(.ofNat 0, .ofNat 59)]), (4, [(.ofNat 0, .ofNat 0)]), (5, [(.ofNat 1, .ofNat 60)]), (6, [(.negSucc 127, .ofNat 127)])], [], []),
  (0, [], [.inl (false, (0, .ofNat 0, .negSucc 10))], [(2, 1, (0, .ofNat 0, .ofNat 1), (0, .ofNat 0, .ofNat 0), (0, .ofNat 0, .ofNat 0)), (2, 0, (4, .ofNat 1, .ofNat 0), (0, .ofNat 0, .negSucc 0), (0, .ofNat 0, .ofNat 0)), (0, 116, (0, .ofNat 0, .ofNat 2), (4, .ofNat 1, .ofNat 0), (0, .ofNat 0, .ofNat 0)), (2, 1, (0, .ofNat 0, .ofNat 1), (0, .ofNat 0, .ofNat 0), (0, .ofNat 0, .ofNat 0)), (2, 2, (1, .ofNat 1, .ofNat 0), (0, .ofNat 0, .ofNat 4), (0, .ofNat 0, .ofNat 0)), (2, 3, (1, .ofNat 1, .ofNat 0), (0, .ofNat 0, .ofNat 0), (0, .ofNat 0, .ofNat 0))], [(1, [(.ofNat 1, .ofNat 1)]), (4, [(.negSucc 0, .negSucc 0)])], [], []),
  (0, [], [.inl (false, (0, .ofNat 0, .negSucc 11))], [(2, 0, (0, .ofNat 0, .ofNat 0), (0, .ofNat 0, .ofNat 0), (0, .ofNat 0, .ofNat 0)), (2, 2, (2, .ofNat 1, .ofNat 0), (0, .ofNat 0, .ofNat 0), (0, .ofNat 0, .ofNat 0)), (2, 0, (0, .ofNat 0, .ofNat 0), (0, .ofNat 0, .ofNat 0), (0, .ofNat 0, .ofNat 0)), (2, 1, (4, .ofNat 1, .ofNat 0), (0, .ofNat 0, .negSucc 0), (0, .ofNat 0, .ofNat 0)), (0, 114, (0, .ofNat 0, .ofNat 2), (4, .ofNat 1, .ofNat 0), (0, .ofNat 0, .ofNat 0)), (2, 1, (0, .ofNat 0, .ofNat 1), (0, .ofNat 0, .ofNat 0), (0, .ofNat 0, .ofNat 0)), (2, 2, (1, .ofNat 1, .ofNat 0), (0, .ofNat 0, .ofNat 4), (0, .ofNat 0, .ofNat 0)), (2, 3, (1, .ofNat 1, .ofNat 0), (0, .ofNat 0, .ofNat 0), (0, .ofNat 0, .ofNat 0))], [(1, [(.ofNat 0, .ofNat 0)]), (2, [(.negSucc 2147483647, .negSucc 0)]), (4, [(.ofNat 0, .ofNat 2)])], [], []),
  (0, [], [.inl (false, (0, .ofNat 0, .negSucc 11))], [(2, 0, (0, .ofNat 0, .ofNat 0), (0, .ofNat 0, .ofNat 0), (0, .ofNat 0, .ofNat 0)), (2, 4, (2, .ofNat 1, .ofNat 0), (5, .ofNat 1, .negSucc 0), (0, .ofNat 0, .ofNat 0)), (0, 114, (0, .ofNat 0, .ofNat 0), (5, .ofNat 1, .ofNat 0), (0, .ofNat 0, .ofNat 0)), (2, 3, (2, .ofNat 1, .ofNat 0), (0, .ofNat 0, .ofNat 0), (0, .ofNat 0, .ofNat 0)), (2, 0, (0, .ofNat 0, .ofNat 0), (0, .ofNat 0, .ofNat 0), (0, .ofNat 0, .ofNat 0)), (2, 1, (4, .ofNat 1, .ofNat 0), (0, .ofNat 0, .negSucc 0), (0, .ofNat 0, .ofNat 0)), (0, 114, (0, .ofNat 0, .ofNat 2), (4, .ofNat 1, .ofNat 0), (0, .ofNat 0, .ofNat 0)), (2, 1, (0, .ofNat 0, .ofNat 1), (0, .ofNat 0, .ofNat 0), (0, .ofNat 0, .ofNat 0)), (2, 2, (1, .ofNat 1, .ofNat 0), (0, .ofNat 0, .ofNat 4), (0, .ofNat 0, .ofNat 0)), (2, 3, (1, .ofNat 1, .ofNat 0), (0, .ofNat 0, .ofNat 0), (0, .ofNat 0, .ofNat 0))], [(1, [(.ofNat 0, .ofNat 0)]), (2, [(.ofNat 0, .ofNat 2147483647)]), (4, [(.ofNat 0, .ofNat 2)]), (5, [(.ofNat 0, .ofNat 60)])], [], []),
  (0, [], [.inl (false, (0, .ofNat 0, .ofNat 1))], [(1, 115, (2, .ofNat 1, .ofNat 0), (3, .ofNat 1, .ofNat 0), (0, .ofNat 0, .ofNat 0)), (2, 1, (4, .ofNat 1, .ofNat 0), (0, .ofNat 0, .ofNat 1), (0, .ofNat 0, .ofNat 0)), (0, 114, (0, .ofNat 0, .ofNat 2), (4, .ofNat 1, .ofNat 0), (0, .ofNat 0, .ofNat 0)), (2, 1, (4, .ofNat 1, .ofNat 0), (0, .ofNat 0, .ofNat 0), (0, .ofNat 0, .ofNat 0)), (0, 114, (0, .ofNat 0, .ofNat 2), (4, .ofNat 1, .ofNat 0), (0, .ofNat 0, .ofNat 0)), (2, 1, (0, .ofNat 0, .ofNat 1), (0, .ofNat 0, .ofNat 0), (0, .ofNat 0, .ofNat 0)), (2, 5, (2, .ofNat 1, .ofNat 0), (5, .ofNat 1, .negSucc 0), (0, .ofNat 0, .ofNat 0)), (0, 114, (0, .ofNat 0, .ofNat 0), (5, .ofNat 1, .ofNat 0), (0, .ofNat 0, .ofNat 0)), (2, 3, (2, .ofNat 1, .ofNat 0), (0, .ofNat 0, .ofNat 0), (0, .ofNat 0, .ofNat 0)), (2, 0, (0, .ofNat 0, .ofNat 0), (0, .ofNat 0, .ofNat 0), (0, .ofNat 0, .ofNat 0)), (2, 1, (4, .ofNat 1, .ofNat 0), (0, .ofNat 0, .negSucc 0), (0, .ofNat 0, .ofNat 0)), (0, 114, (0, .ofNat 0, .ofNat 2), (4, .ofNat 1, .ofNat 0), (0, .ofNat 0, .ofNat 0)), (2, 1, (0, .ofNat 0, .ofNat 1), (0, .ofNat 0, .ofNat 0), (0, .ofNat 0, .ofNat 0)), (2, 2, (1, .ofNat 1, .ofNat 0), (0, .ofNat 0, .ofNat 4), (0, .ofNat 0, .ofNat 0)), (2, 3, (1, .ofNat 1, .ofNat 0), (0, .ofNat 0, .ofNat 0), (0, .ofNat 0, .ofNat 0))], [(1, [(.ofNat 0, .ofNat 0)]), (2, [(.ofNat 0, .ofNat 59)]), (4, [(.ofNat 2, .ofNat 2)]), (5, [(.ofNat 1, .ofNat 60)])], [], []),
  (0, [], [.inl (false, (0, .ofNat 0, .ofNat 1))], [(1, 115, (2, .ofNat 1, .ofNat 0), (6, .ofNat 1, .ofNat 0), (0, .ofNat 0, .ofNat 0)), (3, 7, (3, .ofNat 1, .ofNat 0), (0, .ofNat 0, .ofNat 0), (6, .ofNat 1, .ofNat 0)), (2, 0, (4, .ofNat 1, .ofNat 0), (0, .ofNat 0, .ofNat 1), (0, .ofNat 0, .ofNat 0)), (0, 114, (0, .ofNat 0, .ofNat 2), (4, .ofNat 1, .ofNat 0), (0, .ofNat 0, .ofNat 0)), (2, 1, (4, .ofNat 1, .ofNat 0), (0, .ofNat 0, .ofNat 0), (0, .ofNat 0, .ofNat 0)), (0, 114, (0, .ofNat 0, .ofNat 2), (4, .ofNat 1, .ofNat 0), (0, .ofNat 0, .ofNat 0)), (2, 1, (0, .ofNat 0, .ofNat 1), (0, .ofNat 0, .ofNat 0), (0, .ofNat 0, .ofNat 0)), (2, 5, (2, .ofNat 1, .ofNat 0), (5, .ofNat 1, .negSucc 0), (0, .ofNat 0, .ofNat 0)), (0, 114, (0, .ofNat 0, .ofNat 0), (5, .ofNat 1, .ofNat 0), (0, .ofNat 0, .ofNat 0)), (2, 3, (2, .ofNat 1, .ofNat 0), (0, .ofNat 0, .ofNat 0), (0, .ofNat 0, .ofNat 0)), (2, 0, (0, .ofNat 0, .ofNat 0), (0, .ofNat 0, .ofNat 0), (0, .ofNat 0, .ofNat 0)), (2, 1, (4, .ofNat 1, .ofNat 0), (0, .ofNat 0, .negSucc 0), (0, .ofNat 0, .ofNat 0)), (0, 114, (0, .ofNat 0, .ofNat 2), (4, .ofNat 1, .ofNat 0), (0, .ofNat 0, .ofNat 0)), (2, 1, (0, .ofNat 0, .ofNat 1), (0, .ofNat 0, .ofNat 0), (0, .ofNat 0, .ofNat 0)), (2, 2, (1, .ofNat 1, .ofNat 0), (0, .ofNat 0, .ofNat 4), (0, .ofNat 0, .ofNat 0)), (2, 3, (1, .ofNat 1, .ofNat 0), (0, .ofNat 0, .ofNat 0), (0, .ofNat 0, .ofNat 0))], [(1, [(.ofNat 0, .ofNat 0)]), (2, [(.ofNat 0, .ofNat 59)]), (4, [(.ofNat 1, .ofNat 1)]), (5, [(.ofNat 1, .ofNat 60)]), (6, [(.negSucc 32767, .ofNat 32767)])], [], []),
  (0, [], [.inl (false, (0, .ofNat 0, .ofNat 1))], [(1, 115, (2, .ofNat 1, .ofNat 0), (6, .ofNat 1, .ofNat 0), (0, .ofNat 0, .ofNat 0)), (3, 6, (3, .ofNat 1, .ofNat 0), (0, .ofNat 0, .ofNat 0), (6, .ofNat 1, .ofNat 0)), (2, 0, (4, .ofNat 1, .ofNat 0), (0, .ofNat 0, .ofNat 0), (0, .ofNat 0, .ofNat 0)), (0, 114, (0, .ofNat 0, .ofNat 2), (4, .ofNat 1, .ofNat 0), (0, .ofNat 0, .ofNat 0)), (2, 1, (0, .ofNat 0, .ofNat 1), (0, .ofNat 0, .ofNat 0), (0, .ofNat 0, .ofNat 0)), (2, 5, (2, .ofNat 1, .ofNat 0), (5, .ofNat 1, .negSucc 0), (0, .ofNat 0, .ofNat 0)), (0, 114, (0, .ofNat 0, .ofNat 0), (5, .ofNat 1, .ofNat 0), (0, .ofNat 0, .ofNat 0)), (2, 3, (2, .ofNat 1, .ofNat 0), (0, .ofNat 0, .ofNat 0), (0, .ofNat 0, .ofNat 0)), (2, 0, (0, .ofNat 0, .ofNat 0), (0, .ofNat 0, .ofNat 0), (0, .ofNat 0, .ofNat 0)), (2, 1, (4, .ofNat 1, .ofNat 0), (0, .ofNat 0, .negSucc 0), (0, .ofNat 0, .ofNat 0)), (0, 114, (0, .ofNat 0, .ofNat 2), (4, .ofNat 1, .ofNat 0), (0, .ofNat 0, .ofNat 0)), (2, 1, (0, .ofNat 0, .ofNat 1), (0, .ofNat 0, .ofNat 0), (0, .ofNat 0, .ofNat 0)), (2, 2, (1, .ofNat 1, .ofNat 0), (0, .ofNat 0, .ofNat 4), (0, .ofNat 0, .ofNat 0)), (2, 3, (1, .ofNat 1, .ofNat 0), (0, .ofNat 0, .ofNat 0), (0, .ofNat 0, .ofNat 0))], [(1, [(.ofNat 0, .ofNat 0)]), (2, [(.ofNat 0, .ofNat 59)]), (4, [(.ofNat 0, .ofNat 0)]), (5, [(.ofNat 1, .ofNat 60)]), (6, [(.negSucc 127, .ofNat 127)])], [], []),
  (0, [], [.inl (false, (0, .ofNat 0, .negSucc 10))], [(2, 1, (0, .ofNat 0, .ofNat 1), (0, .ofNat 0, .ofNat 0), (0, .ofNat 0, .ofNat 0)), (2, 0, (4, .ofNat 1, .ofNat 0), (0, .ofNat 0, .negSucc 0), (0, .ofNat 0, .ofNat 0)), (0, 114, (0, .ofNat 0, .ofNat 2), (4, .ofNat 1, .ofNat 0), (0, .ofNat 0, .ofNat 0)), (2, 1, (0, .ofNat 0, .ofNat 1), (0, .ofNat 0, .ofNat 0), (0, .ofNat 0, .ofNat 0)), (2, 2, (1, .ofNat 1, .ofNat 0), (0, .ofNat 0, .ofNat 4), (0, .ofNat 0, .ofNat 0)), (2, 3, (1, .ofNat 1, .ofNat 0), (0, .ofNat 0, .ofNat 0), (0, .ofNat 0, .ofNat 0))], [(1, [(.ofNat 0, .ofNat 0)]), (4, [(.negSucc 0, .negSucc 0)])], [], [])]
set_option maxRecDepth 1000000 in
theorem sg_ly_x_g : sg_go [(9109513, .inr 1)] [] 3000 139 0 1 4 [(0, [(.ofNat 0, .ofNat 0)]), (1, [(.negSucc 2147483647, .ofNat 2147483647)]), (2, [(.negSucc 2147483647, .ofNat 2147483647)]), (3, [(.negSucc 2147483647, .ofNat 2147483647)])] [] [] [] [(0, .inr (.inl [0])), (1, .inl (false, (1, .ofNat 1, .ofNat 0))), (2, .inl (false, (2, .ofNat 1, .ofNat 0))), (3, .inl (false, (3, .ofNat 1, .ofNat 0)))] [] [(115, none), (117, none), (119, none), (121, none)] sg_ly_x_Z = true := by decide +kernel
theorem sg_ly_x {Q : Option Value × am_S → Prop} {d : Nat} {S : am_S} {L : am_L} {x1 x2 x3 : Int} (hd : 1 ≤ d) (hP : ax_P0 none S) (l0 : lc L 0 0) (l1 : li L 1 x1) (l2 : li L 2 x2) (l3 : li L 3 x3) (b1 : ((-2147483648) ≤ x1 ∧ x1 ≤ 2147483647)) (b2 : ((-2147483648) ≤ x2 ∧ x2 ≤ 2147483647)) (b3 : ((-2147483648) ≤ x3 ∧ x3 ≤ 2147483647))
    (k0 : ∀ (S' : am_S) (i1 : Int32), ax_P0 none S' → rd S' = rd S → x1 < 0 → ((-2147483648) ≤ x1 ∧ x1 ≤ (-1)) → i1.toInt = (-1) → Q (some (.int i1), S'))
    (k1 : ∀ (S' : am_S) (i1 : Int32), ax_P0 none S' → rd S' = rd S → 0 ≤ x1 → 4 ≤ x1 → (4 ≤ x1 ∧ x1 ≤ 2147483647) → i1.toInt = (-1) → Q (some (.int i1), S'))
    (k2 : ∀ (x4 : Int) (S' : am_S) (i1 : Int32), ax_P0 none S' → rd S' = rd S → 0 ≤ x1 → x1 < 4 → rd S 120 2 = x4 → x4 ≠ (-1) → x2 < 0 → (3 ≤ x1 ∧ x1 ≤ 3) → ((-2147483648) ≤ x2 ∧ x2 ≤ (-1)) → (0 ≤ x4 ∧ x4 ≤ 2) → i1.toInt = (-12) → Q (some (.int i1), S'))
    (k3 : ∀ (x4 x5 : Int) (S' : am_S) (i1 : Int32), ax_P0 none S' → rd S' = rd S → 0 ≤ x1 → x1 < 4 → rd S 120 2 = x4 → x4 ≠ (-1) → 0 ≤ x2 → rd S 120 0 = x5 → x5 + (-1) < x2 → (3 ≤ x1 ∧ x1 ≤ 3) → (0 ≤ x2 ∧ x2 ≤ 2147483647) → (0 ≤ x4 ∧ x4 ≤ 2) → (0 ≤ x5 ∧ x5 ≤ 60) → i1.toInt = (-12) → Q (some (.int i1), S'))
    (k4 : ∀ (x4 x5 : Int) (S' : am_S) (i1 : Int32), ax_P0 none S' → rd S' = sg_up (rd S) 121 x2 x3 → 0 ≤ x1 → x1 < 4 → rd S 120 2 = x4 → x4 ≠ (-1) → 0 ≤ x2 → rd S 120 0 = x5 → x2 ≤ x5 + (-1) → x4 ≠ 0 → x4 ≠ 1 → (3 ≤ x1 ∧ x1 ≤ 3) → (0 ≤ x2 ∧ x2 ≤ 59) → (2 ≤ x4 ∧ x4 ≤ 2) → (1 ≤ x5 ∧ x5 ≤ 60) → i1.toInt = 1 → Q (some (.int i1), S'))
    (k5 : ∀ (x4 x5 x6 : Int) (S' : am_S) (i1 : Int32), ax_P0 none S' → rd S' = sg_up (rd S) 121 x2 x6 → 0 ≤ x1 → x1 < 4 → rd S 120 2 = x4 → x4 ≠ (-1) → 0 ≤ x2 → rd S 120 0 = x5 → x2 ≤ x5 + (-1) → x4 ≠ 0 → x4 = 1 → (∃ a b : Int32, a.toInt = x3 ∧ b.toInt = 0 ∧ (a.toInt16.toInt32).toInt = x6) → (3 ≤ x1 ∧ x1 ≤ 3) → (0 ≤ x2 ∧ x2 ≤ 59) → (1 ≤ x4 ∧ x4 ≤ 1) → (1 ≤ x5 ∧ x5 ≤ 60) → ((-32768) ≤ x6 ∧ x6 ≤ 32767) → i1.toInt = 1 → Q (some (.int i1), S'))
    (k6 : ∀ (x4 x5 x6 : Int) (S' : am_S) (i1 : Int32), ax_P0 none S' → rd S' = sg_up (rd S) 121 x2 x6 → 0 ≤ x1 → x1 < 4 → rd S 120 2 = x4 → x4 ≠ (-1) → 0 ≤ x2 → rd S 120 0 = x5 → x2 ≤ x5 + (-1) → x4 = 0 → (∃ a b : Int32, a.toInt = x3 ∧ b.toInt = 0 ∧ (a.toInt8.toInt32).toInt = x6) → (3 ≤ x1 ∧ x1 ≤ 3) → (0 ≤ x2 ∧ x2 ≤ 59) → (0 ≤ x4 ∧ x4 ≤ 0) → (1 ≤ x5 ∧ x5 ≤ 60) → ((-128) ≤ x6 ∧ x6 ≤ 127) → i1.toInt = 1 → Q (some (.int i1), S'))
    (k7 : ∀ (x4 : Int) (S' : am_S) (i1 : Int32), ax_P0 none S' → rd S' = rd S → 0 ≤ x1 → x1 < 4 → rd S 120 2 = x4 → x4 = (-1) → (3 ≤ x1 ∧ x1 ≤ 3) → ((-1) ≤ x4 ∧ x4 ≤ (-1)) → i1.toInt = (-11) → Q (some (.int i1), S'))
    (k8 : ∀ (x4 : Int) (S' : am_S) (i1 : Int32), ax_P0 none S' → rd S' = rd S → 0 ≤ x1 → x1 < 4 → rd S 118 2 = x4 → x4 ≠ (-1) → x2 < 0 → (2 ≤ x1 ∧ x1 ≤ 2) → ((-2147483648) ≤ x2 ∧ x2 ≤ (-1)) → (0 ≤ x4 ∧ x4 ≤ 2) → i1.toInt = (-12) → Q (some (.int i1), S'))
    (k9 : ∀ (x4 x5 : Int) (S' : am_S) (i1 : Int32), ax_P0 none S' → rd S' = rd S → 0 ≤ x1 → x1 < 4 → rd S 118 2 = x4 → x4 ≠ (-1) → 0 ≤ x2 → rd S 118 0 = x5 → x5 + (-1) < x2 → (2 ≤ x1 ∧ x1 ≤ 2) → (0 ≤ x2 ∧ x2 ≤ 2147483647) → (0 ≤ x4 ∧ x4 ≤ 2) → (0 ≤ x5 ∧ x5 ≤ 60) → i1.toInt = (-12) → Q (some (.int i1), S'))
    (k10 : ∀ (x4 x5 : Int) (S' : am_S) (i1 : Int32), ax_P0 none S' → rd S' = sg_up (rd S) 119 x2 x3 → 0 ≤ x1 → x1 < 4 → rd S 118 2 = x4 → x4 ≠ (-1) → 0 ≤ x2 → rd S 118 0 = x5 → x2 ≤ x5 + (-1) → x4 ≠ 0 → x4 ≠ 1 → (2 ≤ x1 ∧ x1 ≤ 2) → (0 ≤ x2 ∧ x2 ≤ 59) → (2 ≤ x4 ∧ x4 ≤ 2) → (1 ≤ x5 ∧ x5 ≤ 60) → i1.toInt = 1 → Q (some (.int i1), S'))
    (k11 : ∀ (x4 x5 x6 : Int) (S' : am_S) (i1 : Int32), ax_P0 none S' → rd S' = sg_up (rd S) 119 x2 x6 → 0 ≤ x1 → x1 < 4 → rd S 118 2 = x4 → x4 ≠ (-1) → 0 ≤ x2 → rd S 118 0 = x5 → x2 ≤ x5 + (-1) → x4 ≠ 0 → x4 = 1 → (∃ a b : Int32, a.toInt = x3 ∧ b.toInt = 0 ∧ (a.toInt16.toInt32).toInt = x6) → (2 ≤ x1 ∧ x1 ≤ 2) → (0 ≤ x2 ∧ x2 ≤ 59) → (1 ≤ x4 ∧ x4 ≤ 1) → (1 ≤ x5 ∧ x5 ≤ 60) → ((-32768) ≤ x6 ∧ x6 ≤ 32767) → i1.toInt = 1 → Q (some (.int i1), S'))
    (k12 : ∀ (x4 x5 x6 : Int) (S' : am_S) (i1 : Int32), ax_P0 none S' → rd S' = sg_up (rd S) 119 x2 x6 → 0 ≤ x1 → x1 < 4 → rd S 118 2 = x4 → x4 ≠ (-1) → 0 ≤ x2 → rd S 118 0 = x5 → x2 ≤ x5 + (-1) → x4 = 0 → (∃ a b : Int32, a.toInt = x3 ∧ b.toInt = 0 ∧ (a.toInt8.toInt32).toInt = x6) → (2 ≤ x1 ∧ x1 ≤ 2) → (0 ≤ x2 ∧ x2 ≤ 59) → (0 ≤ x4 ∧ x4 ≤ 0) → (1 ≤ x5 ∧ x5 ≤ 60) → ((-128) ≤ x6 ∧ x6 ≤ 127) → i1.toInt = 1 → Q (some (.int i1), S'))
    (k13 : ∀ (x4 : Int) (S' : am_S) (i1 : Int32), ax_P0 none S' → rd S' = rd S → 0 ≤ x1 → x1 < 4 → rd S 118 2 = x4 → x4 = (-1) → (2 ≤ x1 ∧ x1 ≤ 2) → ((-1) ≤ x4 ∧ x4 ≤ (-1)) → i1.toInt = (-11) → Q (some (.int i1), S'))
    (k14 : ∀ (x4 : Int) (S' : am_S) (i1 : Int32), ax_P0 none S' → rd S' = rd S → 0 ≤ x1 → x1 < 4 → rd S 116 2 = x4 → x4 ≠ (-1) → x2 < 0 → (1 ≤ x1 ∧ x1 ≤ 1) → ((-2147483648) ≤ x2 ∧ x2 ≤ (-1)) → (0 ≤ x4 ∧ x4 ≤ 2) → i1.toInt = (-12) → Q (some (.int i1), S'))
    (k15 : ∀ (x4 x5 : Int) (S' : am_S) (i1 : Int32), ax_P0 none S' → rd S' = rd S → 0 ≤ x1 → x1 < 4 → rd S 116 2 = x4 → x4 ≠ (-1) → 0 ≤ x2 → rd S 116 0 = x5 → x5 + (-1) < x2 → (1 ≤ x1 ∧ x1 ≤ 1) → (0 ≤ x2 ∧ x2 ≤ 2147483647) → (0 ≤ x4 ∧ x4 ≤ 2) → (0 ≤ x5 ∧ x5 ≤ 60) → i1.toInt = (-12) → Q (some (.int i1), S'))
    (k16 : ∀ (x4 x5 : Int) (S' : am_S) (i1 : Int32), ax_P0 none S' → rd S' = sg_up (rd S) 117 x2 x3 → 0 ≤ x1 → x1 < 4 → rd S 116 2 = x4 → x4 ≠ (-1) → 0 ≤ x2 → rd S 116 0 = x5 → x2 ≤ x5 + (-1) → x4 ≠ 0 → x4 ≠ 1 → (1 ≤ x1 ∧ x1 ≤ 1) → (0 ≤ x2 ∧ x2 ≤ 59) → (2 ≤ x4 ∧ x4 ≤ 2) → (1 ≤ x5 ∧ x5 ≤ 60) → i1.toInt = 1 → Q (some (.int i1), S'))
    (k17 : ∀ (x4 x5 x6 : Int) (S' : am_S) (i1 : Int32), ax_P0 none S' → rd S' = sg_up (rd S) 117 x2 x6 → 0 ≤ x1 → x1 < 4 → rd S 116 2 = x4 → x4 ≠ (-1) → 0 ≤ x2 → rd S 116 0 = x5 → x2 ≤ x5 + (-1) → x4 ≠ 0 → x4 = 1 → (∃ a b : Int32, a.toInt = x3 ∧ b.toInt = 0 ∧ (a.toInt16.toInt32).toInt = x6) → (1 ≤ x1 ∧ x1 ≤ 1) → (0 ≤ x2 ∧ x2 ≤ 59) → (1 ≤ x4 ∧ x4 ≤ 1) → (1 ≤ x5 ∧ x5 ≤ 60) → ((-32768) ≤ x6 ∧ x6 ≤ 32767) → i1.toInt = 1 → Q (some (.int i1), S'))
    (k18 : ∀ (x4 x5 x6 : Int) (S' : am_S) (i1 : Int32), ax_P0 none S' → rd S' = sg_up (rd S) 117 x2 x6 → 0 ≤ x1 → x1 < 4 → rd S 116 2 = x4 → x4 ≠ (-1) → 0 ≤ x2 → rd S 116 0 = x5 → x2 ≤ x5 + (-1) → x4 = 0 → (∃ a b : Int32, a.toInt = x3 ∧ b.toInt = 0 ∧ (a.toInt8.toInt32).toInt = x6) → (1 ≤ x1 ∧ x1 ≤ 1) → (0 ≤ x2 ∧ x2 ≤ 59) → (0 ≤ x4 ∧ x4 ≤ 0) → (1 ≤ x5 ∧ x5 ≤ 60) → ((-128) ≤ x6 ∧ x6 ≤ 127) → i1.toInt = 1 → Q (some (.int i1), S'))
    (k19 : ∀ (x4 : Int) (S' : am_S) (i1 : Int32), ax_P0 none S' → rd S' = rd S → 0 ≤ x1 → x1 < 4 → rd S 116 2 = x4 → x4 = (-1) → (1 ≤ x1 ∧ x1 ≤ 1) → ((-1) ≤ x4 ∧ x4 ≤ (-1)) → i1.toInt = (-11) → Q (some (.int i1), S'))
    (k20 : ∀ (x4 : Int) (S' : am_S) (i1 : Int32), ax_P0 none S' → rd S' = rd S → 0 ≤ x1 → x1 < 4 → rd S 114 2 = x4 → x4 ≠ (-1) → x2 < 0 → (0 ≤ x1 ∧ x1 ≤ 0) → ((-2147483648) ≤ x2 ∧ x2 ≤ (-1)) → (0 ≤ x4 ∧ x4 ≤ 2) → i1.toInt = (-12) → Q (some (.int i1), S'))
    (k21 : ∀ (x4 x5 : Int) (S' : am_S) (i1 : Int32), ax_P0 none S' → rd S' = rd S → 0 ≤ x1 → x1 < 4 → rd S 114 2 = x4 → x4 ≠ (-1) → 0 ≤ x2 → rd S 114 0 = x5 → x5 + (-1) < x2 → (0 ≤ x1 ∧ x1 ≤ 0) → (0 ≤ x2 ∧ x2 ≤ 2147483647) → (0 ≤ x4 ∧ x4 ≤ 2) → (0 ≤ x5 ∧ x5 ≤ 60) → i1.toInt = (-12) → Q (some (.int i1), S'))
    (k22 : ∀ (x4 x5 : Int) (S' : am_S) (i1 : Int32), ax_P0 none S' → rd S' = sg_up (rd S) 115 x2 x3 → 0 ≤ x1 → x1 < 4 → rd S 114 2 = x4 → x4 ≠ (-1) → 0 ≤ x2 → rd S 114 0 = x5 → x2 ≤ x5 + (-1) → x4 ≠ 0 → x4 ≠ 1 → (0 ≤ x1 ∧ x1 ≤ 0) → (0 ≤ x2 ∧ x2 ≤ 59) → (2 ≤ x4 ∧ x4 ≤ 2) → (1 ≤ x5 ∧ x5 ≤ 60) → i1.toInt = 1 → Q (some (.int i1), S'))
    (k23 : ∀ (x4 x5 x6 : Int) (S' : am_S) (i1 : Int32), ax_P0 none S' → rd S' = sg_up (rd S) 115 x2 x6 → 0 ≤ x1 → x1 < 4 → rd S 114 2 = x4 → x4 ≠ (-1) → 0 ≤ x2 → rd S 114 0 = x5 → x2 ≤ x5 + (-1) → x4 ≠ 0 → x4 = 1 → (∃ a b : Int32, a.toInt = x3 ∧ b.toInt = 0 ∧ (a.toInt16.toInt32).toInt = x6) → (0 ≤ x1 ∧ x1 ≤ 0) → (0 ≤ x2 ∧ x2 ≤ 59) → (1 ≤ x4 ∧ x4 ≤ 1) → (1 ≤ x5 ∧ x5 ≤ 60) → ((-32768) ≤ x6 ∧ x6 ≤ 32767) → i1.toInt = 1 → Q (some (.int i1), S'))
    (k24 : ∀ (x4 x5 x6 : Int) (S' : am_S) (i1 : Int32), ax_P0 none S' → rd S' = sg_up (rd S) 115 x2 x6 → 0 ≤ x1 → x1 < 4 → rd S 114 2 = x4 → x4 ≠ (-1) → 0 ≤ x2 → rd S 114 0 = x5 → x2 ≤ x5 + (-1) → x4 = 0 → (∃ a b : Int32, a.toInt = x3 ∧ b.toInt = 0 ∧ (a.toInt8.toInt32).toInt = x6) → (0 ≤ x1 ∧ x1 ≤ 0) → (0 ≤ x2 ∧ x2 ≤ 59) → (0 ≤ x4 ∧ x4 ≤ 0) → (1 ≤ x5 ∧ x5 ≤ 60) → ((-128) ≤ x6 ∧ x6 ≤ 127) → i1.toInt = 1 → Q (some (.int i1), S'))
    (k25 : ∀ (x4 : Int) (S' : am_S) (i1 : Int32), ax_P0 none S' → rd S' = rd S → 0 ≤ x1 → x1 < 4 → rd S 114 2 = x4 → x4 = (-1) → (0 ≤ x1 ∧ x1 ≤ 0) → ((-1) ≤ x4 ∧ x4 ≤ (-1)) → i1.toInt = (-11) → Q (some (.int i1), S')) : am_V none d 139 0 L ([]) S Q := by
  refine sg_use sg_ly_x_g hd hP (sg_xs [0, x1, x2, x3]) ⟨⟨Int.le_refl 0, Int.le_refl 0⟩, b1, b2, b3, trivial⟩ trivial trivial trivial ⟨l0, l1, l2, l3, trivial⟩ trivial ?_
  intro z hz x' L' st' S' hx hP' hW hL' hs' hJ hE' hT' hD'
  have q1 : x' 1 = x1 := hx 1 (by decide)
  subst q1
  have q2 : x' 2 = x2 := hx 2 (by decide)
  subst q2
  have q3 : x' 3 = x3 := hx 3 (by decide)
  subst q3
  simp only [sg_ly_x_Z, List.mem_cons, List.not_mem_nil, or_false] at hz
  rcases hz with rfl | rfl | rfl | rfl | rfl | rfl | rfl | rfl | rfl | rfl | rfl | rfl | rfl | rfl | rfl | rfl | rfl | rfl | rfl | rfl | rfl | rfl | rfl | rfl | rfl | rfl
  · obtain ⟨f0, -, hσ⟩ := hJ
    obtain ⟨e0, -⟩ := hE'
    intro v hv
    subst hv
    cases v with
    | none => exact hs'.elim
    | some v1 =>
      obtain ⟨⟨i1, rfl, g1⟩, -⟩ := hs'
      exact k0 S' i1 hP' hσ f0 e0 g1
  · obtain ⟨f0, f1, -, hσ⟩ := hJ
    obtain ⟨e0, -⟩ := hE'
    intro v hv
    subst hv
    cases v with
    | none => exact hs'.elim
    | some v1 =>
      obtain ⟨⟨i1, rfl, g1⟩, -⟩ := hs'
      exact k1 S' i1 hP' hσ f0 f1 e0 g1
  · obtain ⟨f0, f1, -, f3, f4, -, f6, -, hσ⟩ := hJ
    obtain ⟨e0, e1, e2, -⟩ := hE'
    intro v hv
    subst hv
    cases v with
    | none => exact hs'.elim
    | some v1 =>
      obtain ⟨⟨i1, rfl, g1⟩, -⟩ := hs'
      exact k2 (x' 4) S' i1 hP' hσ f0 f1 f3 f4 f6 e0 e1 e2 g1
  · obtain ⟨f0, f1, -, f3, f4, -, f6, f7, f8, -, hσ⟩ := hJ
    obtain ⟨e0, e1, e2, e3, -⟩ := hE'
    intro v hv
    subst hv
    cases v with
    | none => exact hs'.elim
    | some v1 =>
      obtain ⟨⟨i1, rfl, g1⟩, -⟩ := hs'
      exact k3 (x' 4) (x' 5) S' i1 hP' hσ f0 f1 f3 f4 f6 f7 f8 e0 e1 e2 e3 g1
  · obtain ⟨f0, f1, -, f3, f4, -, f6, f7, f8, -, -, f11, -, f13, hσ⟩ := hJ
    obtain ⟨e0, e1, e2, e3, -⟩ := hE'
    intro v hv
    subst hv
    cases v with
    | none => exact hs'.elim
    | some v1 =>
      obtain ⟨⟨i1, rfl, g1⟩, -⟩ := hs'
      exact k4 (x' 4) (x' 5) S' i1 hP' hσ f0 f1 f3 f4 f6 f7 f8 f11 f13 e0 e1 e2 e3 g1
  · obtain ⟨f0, f1, -, f3, f4, -, f6, f7, f8, -, -, f11, -, f13, f14, hσ⟩ := hJ
    obtain ⟨e0, e1, e2, e3, e4, -⟩ := hE'
    intro v hv
    subst hv
    cases v with
    | none => exact hs'.elim
    | some v1 =>
      obtain ⟨⟨i1, rfl, g1⟩, -⟩ := hs'
      exact k5 (x' 4) (x' 5) (x' 6) S' i1 hP' hσ f0 f1 f3 f4 f6 f7 f8 f11 f13 f14 e0 e1 e2 e3 e4 g1
  · obtain ⟨f0, f1, -, f3, f4, -, f6, f7, f8, -, -, f11, f12, hσ⟩ := hJ
    obtain ⟨e0, e1, e2, e3, e4, -⟩ := hE'
    intro v hv
    subst hv
    cases v with
    | none => exact hs'.elim
    | some v1 =>
      obtain ⟨⟨i1, rfl, g1⟩, -⟩ := hs'
      exact k6 (x' 4) (x' 5) (x' 6) S' i1 hP' hσ f0 f1 f3 f4 f6 f7 f8 f11 f12 e0 e1 e2 e3 e4 g1
  · obtain ⟨f0, f1, -, f3, f4, -, hσ⟩ := hJ
    obtain ⟨e0, e1, -⟩ := hE'
    intro v hv
    subst hv
    cases v with
    | none => exact hs'.elim
    | some v1 =>
      obtain ⟨⟨i1, rfl, g1⟩, -⟩ := hs'
      exact k7 (x' 4) S' i1 hP' hσ f0 f1 f3 f4 e0 e1 g1
  · obtain ⟨f0, f1, -, f3, f4, -, f6, -, hσ⟩ := hJ
    obtain ⟨e0, e1, e2, -⟩ := hE'
    intro v hv
    subst hv
    cases v with
    | none => exact hs'.elim
    | some v1 =>
      obtain ⟨⟨i1, rfl, g1⟩, -⟩ := hs'
      exact k8 (x' 4) S' i1 hP' hσ f0 f1 f3 f4 f6 e0 e1 e2 g1
  · obtain ⟨f0, f1, -, f3, f4, -, f6, f7, f8, -, hσ⟩ := hJ
    obtain ⟨e0, e1, e2, e3, -⟩ := hE'
    intro v hv
    subst hv
    cases v with
    | none => exact hs'.elim
    | some v1 =>
      obtain ⟨⟨i1, rfl, g1⟩, -⟩ := hs'
      exact k9 (x' 4) (x' 5) S' i1 hP' hσ f0 f1 f3 f4 f6 f7 f8 e0 e1 e2 e3 g1
  · obtain ⟨f0, f1, -, f3, f4, -, f6, f7, f8, -, -, f11, -, f13, hσ⟩ := hJ
    obtain ⟨e0, e1, e2, e3, -⟩ := hE'
    intro v hv
    subst hv
    cases v with
    | none => exact hs'.elim
    | some v1 =>
      obtain ⟨⟨i1, rfl, g1⟩, -⟩ := hs'
      exact k10 (x' 4) (x' 5) S' i1 hP' hσ f0 f1 f3 f4 f6 f7 f8 f11 f13 e0 e1 e2 e3 g1
  · obtain ⟨f0, f1, -, f3, f4, -, f6, f7, f8, -, -, f11, -, f13, f14, hσ⟩ := hJ
    obtain ⟨e0, e1, e2, e3, e4, -⟩ := hE'
    intro v hv
    subst hv
    cases v with
    | none => exact hs'.elim
    | some v1 =>
      obtain ⟨⟨i1, rfl, g1⟩, -⟩ := hs'
      exact k11 (x' 4) (x' 5) (x' 6) S' i1 hP' hσ f0 f1 f3 f4 f6 f7 f8 f11 f13 f14 e0 e1 e2 e3 e4 g1
  · obtain ⟨f0, f1, -, f3, f4, -, f6, f7, f8, -, -, f11, f12, hσ⟩ := hJ
    obtain ⟨e0, e1, e2, e3, e4, -⟩ := hE'
    intro v hv
    subst hv
    cases v with
    | none => exact hs'.elim
    | some v1 =>
      obtain ⟨⟨i1, rfl, g1⟩, -⟩ := hs'
      exact k12 (x' 4) (x' 5) (x' 6) S' i1 hP' hσ f0 f1 f3 f4 f6 f7 f8 f11 f12 e0 e1 e2 e3 e4 g1
  · obtain ⟨f0, f1, -, f3, f4, -, hσ⟩ := hJ
    obtain ⟨e0, e1, -⟩ := hE'
    intro v hv
    subst hv
    cases v with
    | none => exact hs'.elim
    | some v1 =>
      obtain ⟨⟨i1, rfl, g1⟩, -⟩ := hs'
      exact k13 (x' 4) S' i1 hP' hσ f0 f1 f3 f4 e0 e1 g1
  · obtain ⟨f0, f1, -, f3, f4, -, f6, -, hσ⟩ := hJ
    obtain ⟨e0, e1, e2, -⟩ := hE'
    intro v hv
    subst hv
    cases v with
    | none => exact hs'.elim
    | some v1 =>
      obtain ⟨⟨i1, rfl, g1⟩, -⟩ := hs'
      exact k14 (x' 4) S' i1 hP' hσ f0 f1 f3 f4 f6 e0 e1 e2 g1
  · obtain ⟨f0, f1, -, f3, f4, -, f6, f7, f8, -, hσ⟩ := hJ
    obtain ⟨e0, e1, e2, e3, -⟩ := hE'
    intro v hv
    subst hv
    cases v with
    | none => exact hs'.elim
    | some v1 =>
      obtain ⟨⟨i1, rfl, g1⟩, -⟩ := hs'
      exact k15 (x' 4) (x' 5) S' i1 hP' hσ f0 f1 f3 f4 f6 f7 f8 e0 e1 e2 e3 g1
  · obtain ⟨f0, f1, -, f3, f4, -, f6, f7, f8, -, -, f11, -, f13, hσ⟩ := hJ
    obtain ⟨e0, e1, e2, e3, -⟩ := hE'
    intro v hv
    subst hv
    cases v with
    | none => exact hs'.elim
    | some v1 =>
      obtain ⟨⟨i1, rfl, g1⟩, -⟩ := hs'
      exact k16 (x' 4) (x' 5) S' i1 hP' hσ f0 f1 f3 f4 f6 f7 f8 f11 f13 e0 e1 e2 e3 g1
  · obtain ⟨f0, f1, -, f3, f4, -, f6, f7, f8, -, -, f11, -, f13, f14, hσ⟩ := hJ
    obtain ⟨e0, e1, e2, e3, e4, -⟩ := hE'
    intro v hv
    subst hv
    cases v with
    | none => exact hs'.elim
    | some v1 =>
      obtain ⟨⟨i1, rfl, g1⟩, -⟩ := hs'
      exact k17 (x' 4) (x' 5) (x' 6) S' i1 hP' hσ f0 f1 f3 f4 f6 f7 f8 f11 f13 f14 e0 e1 e2 e3 e4 g1
  · obtain ⟨f0, f1, -, f3, f4, -, f6, f7, f8, -, -, f11, f12, hσ⟩ := hJ
    obtain ⟨e0, e1, e2, e3, e4, -⟩ := hE'
    intro v hv
    subst hv
    cases v with
    | none => exact hs'.elim
    | some v1 =>
      obtain ⟨⟨i1, rfl, g1⟩, -⟩ := hs'
      exact k18 (x' 4) (x' 5) (x' 6) S' i1 hP' hσ f0 f1 f3 f4 f6 f7 f8 f11 f12 e0 e1 e2 e3 e4 g1
  · obtain ⟨f0, f1, -, f3, f4, -, hσ⟩ := hJ
    obtain ⟨e0, e1, -⟩ := hE'
    intro v hv
    subst hv
    cases v with
    | none => exact hs'.elim
    | some v1 =>
      obtain ⟨⟨i1, rfl, g1⟩, -⟩ := hs'
      exact k19 (x' 4) S' i1 hP' hσ f0 f1 f3 f4 e0 e1 g1
  · obtain ⟨f0, f1, -, f3, f4, -, f6, -, hσ⟩ := hJ
    obtain ⟨e0, e1, e2, -⟩ := hE'
    intro v hv
    subst hv
    cases v with
    | none => exact hs'.elim
    | some v1 =>
      obtain ⟨⟨i1, rfl, g1⟩, -⟩ := hs'
      exact k20 (x' 4) S' i1 hP' hσ f0 f1 f3 f4 f6 e0 e1 e2 g1
  · obtain ⟨f0, f1, -, f3, f4, -, f6, f7, f8, -, hσ⟩ := hJ
    obtain ⟨e0, e1, e2, e3, -⟩ := hE'
    intro v hv
    subst hv
    cases v with
    | none => exact hs'.elim
    | some v1 =>
      obtain ⟨⟨i1, rfl, g1⟩, -⟩ := hs'
      exact k21 (x' 4) (x' 5) S' i1 hP' hσ f0 f1 f3 f4 f6 f7 f8 e0 e1 e2 e3 g1
  · obtain ⟨f0, f1, -, f3, f4, -, f6, f7, f8, -, -, f11, -, f13, hσ⟩ := hJ
    obtain ⟨e0, e1, e2, e3, -⟩ := hE'
    intro v hv
    subst hv
    cases v with
    | none => exact hs'.elim
    | some v1 =>
      obtain ⟨⟨i1, rfl, g1⟩, -⟩ := hs'
      exact k22 (x' 4) (x' 5) S' i1 hP' hσ f0 f1 f3 f4 f6 f7 f8 f11 f13 e0 e1 e2 e3 g1
  · obtain ⟨f0, f1, -, f3, f4, -, f6, f7, f8, -, -, f11, -, f13, f14, hσ⟩ := hJ
    obtain ⟨e0, e1, e2, e3, e4, -⟩ := hE'
    intro v hv
    subst hv
    cases v with
    | none => exact hs'.elim
    | some v1 =>
      obtain ⟨⟨i1, rfl, g1⟩, -⟩ := hs'
      exact k23 (x' 4) (x' 5) (x' 6) S' i1 hP' hσ f0 f1 f3 f4 f6 f7 f8 f11 f13 f14 e0 e1 e2 e3 e4 g1
  · obtain ⟨f0, f1, -, f3, f4, -, f6, f7, f8, -, -, f11, f12, hσ⟩ := hJ
    obtain ⟨e0, e1, e2, e3, e4, -⟩ := hE'
    intro v hv
    subst hv
    cases v with
    | none => exact hs'.elim
    | some v1 =>
      obtain ⟨⟨i1, rfl, g1⟩, -⟩ := hs'
      exact k24 (x' 4) (x' 5) (x' 6) S' i1 hP' hσ f0 f1 f3 f4 f6 f7 f8 f11 f12 e0 e1 e2 e3 e4 g1
  · obtain ⟨f0, f1, -, f3, f4, -, hσ⟩ := hJ
    obtain ⟨e0, e1, -⟩ := hE'
    intro v hv
    subst hv
    cases v with
    | none => exact hs'.elim
    | some v1 =>
      obtain ⟨⟨i1, rfl, g1⟩, -⟩ := hs'
      exact k25 (x' 4) S' i1 hP' hσ f0 f1 f3 f4 e0 e1 g1
def sg_ly_m_Z : List sg_z := [(0, [], [.inl (false, (0, .ofNat 0, .negSucc 0))], [(2, 0, (0, .ofNat 0, .ofNat 0), (0, .ofNat 0, .ofNat 0), (0, .ofNat 0, .ofNat 0)), (2, 2, (1, .ofNat 1, .ofNat 0), (0, .ofNat 0, .ofNat 0), (0, .ofNat 0, .ofNat 0))], [(1, [(.negSucc 2147483647, .negSucc 0)])], [], []),
  (0, [], [.inl (false, (0, .ofNat 0, .negSucc 0))], [(2, 0, (0, .ofNat 0, .ofNat 0), (0, .ofNat 0, .ofNat 0), (0, .ofNat 0, .ofNat 0)), (2, 4, (1, .ofNat 1, .ofNat 0), (0, .ofNat 0, .ofNat 3), (0, .ofNat 0, .ofNat 0)), (2, 3, (1, .ofNat 1, .ofNat 0), (0, .ofNat 0, .ofNat 0), (0, .ofNat 0, .ofNat 0))], [(1, [(.ofNat 4, .ofNat 2147483647)])], [], []),
  (0, [], [.inl (false, (0, .ofNat 0, .negSucc 11))], [(2, 0, (0, .ofNat 0, .ofNat 0), (0, .ofNat 0, .ofNat 0), (0, .ofNat 0, .ofNat 0)), (2, 2, (2, .ofNat 1, .ofNat 0), (0, .ofNat 0, .ofNat 0), (0, .ofNat 0, .ofNat 0)), (0, 159, (1, .ofNat 1, .ofNat 0), (5, .ofNat 1, .ofNat 0), (0, .ofNat 0, .ofNat 0)), (2, 1, (4, .ofNat 1, .ofNat 0), (0, .ofNat 0, .negSucc 3), (0, .ofNat 0, .ofNat 0)), (0, 158, (1, .ofNat 1, .ofNat 0), (4, .ofNat 1, .ofNat 0), (0, .ofNat 0, .ofNat 0)), (2, 1, (0, .ofNat 0, .ofNat 1), (0, .ofNat 0, .ofNat 0), (0, .ofNat 0, .ofNat 0)), (2, 5, (1, .ofNat 1, .ofNat 0), (0, .ofNat 0, .ofNat 3), (0, .ofNat 0, .ofNat 0)), (2, 3, (1, .ofNat 1, .ofNat 0), (0, .ofNat 0, .ofNat 0), (0, .ofNat 0, .ofNat 0))], [(1, [(.ofNat 0, .ofNat 3)]), (2, [(.negSucc 2147483647, .negSucc 0)]), (4, [(.ofNat 0, .ofNat 2)]), (5, [(.ofNat 0, .ofNat 60)])], [], []),
  (0, [], [.inl (false, (0, .ofNat 0, .negSucc 11))], [(2, 0, (0, .ofNat 0, .ofNat 0), (0, .ofNat 0, .ofNat 0), (0, .ofNat 0, .ofNat 0)), (2, 4, (2, .ofNat 1, .ofNat 0), (5, .ofNat 1, .negSucc 0), (0, .ofNat 0, .ofNat 0)), (2, 3, (2, .ofNat 1, .ofNat 0), (0, .ofNat 0, .ofNat 0), (0, .ofNat 0, .ofNat 0)), (0, 159, (1, .ofNat 1, .ofNat 0), (5, .ofNat 1, .ofNat 0), (0, .ofNat 0, .ofNat 0)), (2, 1, (4, .ofNat 1, .ofNat 0), (0, .ofNat 0, .negSucc 3), (0, .ofNat 0, .ofNat 0)), (0, 158, (1, .ofNat 1, .ofNat 0), (4, .ofNat 1, .ofNat 0), (0, .ofNat 0, .ofNat 0)), (2, 1, (0, .ofNat 0, .ofNat 1), (0, .ofNat 0, .ofNat 0), (0, .ofNat 0, .ofNat 0)), (2, 5, (1, .ofNat 1, .ofNat 0), (0, .ofNat 0, .ofNat 3), (0, .ofNat 0, .ofNat 0)), (2, 3, (1, .ofNat 1, .ofNat 0), (0, .ofNat 0, .ofNat 0), (0, .ofNat 0, .ofNat 0))], [(1, [(.ofNat 0, .ofNat 3)]), (2, [(.ofNat 0, .ofNat 2147483647)]), (4, [(.ofNat 0, .ofNat 2)]), (5, [(.ofNat 0, .ofNat 60)])], [], []),
  (0, [], [.inl (false, (0, .ofNat 0, .ofNat 1))], [(1, 160, (6, .ofNat 1, .ofNat 0), (3, .ofNat 1, .ofNat 0), (0, .ofNat 0, .ofNat 0)), (2, 1, (4, .ofNat 1, .ofNat 0), (0, .ofNat 0, .ofNat 1), (0, .ofNat 0, .ofNat 0)), (0, 158, (1, .ofNat 1, .ofNat 0), (4, .ofNat 1, .ofNat 0), (0, .ofNat 0, .ofNat 0)), (2, 1, (4, .ofNat 1, .ofNat 0), (0, .ofNat 0, .ofNat 0), (0, .ofNat 0, .ofNat 0)), (0, 158, (1, .ofNat 1, .ofNat 0), (4, .ofNat 1, .ofNat 0), (0, .ofNat 0, .ofNat 0)), (2, 1, (0, .ofNat 0, .ofNat 1), (0, .ofNat 0, .ofNat 0), (0, .ofNat 0, .ofNat 0)), (2, 5, (2, .ofNat 1, .ofNat 0), (5, .ofNat 1, .negSucc 0), (0, .ofNat 0, .ofNat 0)), (2, 3, (2, .ofNat 1, .ofNat 0), (0, .ofNat 0, .ofNat 0), (0, .ofNat 0, .ofNat 0)), (0, 159, (1, .ofNat 1, .ofNat 0), (5, .ofNat 1, .ofNat 0), (0, .ofNat 0, .ofNat 0)), (2, 1, (4, .ofNat 1, .ofNat 0), (0, .ofNat 0, .negSucc 3), (0, .ofNat 0, .ofNat 0)), (0, 158, (1, .ofNat 1, .ofNat 0), (4, .ofNat 1, .ofNat 0), (0, .ofNat 0, .ofNat 0)), (2, 1, (0, .ofNat 0, .ofNat 1), (0, .ofNat 0, .ofNat 0), (0, .ofNat 0, .ofNat 0)), (2, 5, (1, .ofNat 1, .ofNat 0), (0, .ofNat 0, .ofNat 3), (0, .ofNat 0, .ofNat 0)), (2, 3, (1, .ofNat 1, .ofNat 0), (0, .ofNat 0, .ofNat 0), (0, .ofNat 0, .ofNat 0))], [(1, [(.ofNat 0, .ofNat 3)]), (2, [(.ofNat 0, .ofNat 59)]), (4, [(.ofNat 2, .ofNat 2)]), (5, [(.ofNat 1, .ofNat 60)]), (6, [(.ofNat 0, .ofNat 239)])], [((1, .ofNat 60, .ofNat 0), (2, .ofNat 1, .ofNat 0), (6, .ofNat 1, .ofNat 0))], []),
  (0, [], [.inl (false, (0, .ofNat 0, .ofNat 1))], [(1, 160, (6, .ofNat 1, .ofNat 0), (8, .ofNat 1, .ofNat 0), (0, .ofNat 0, .ofNat 0)), (3, 5, (7, .ofNat 1, .ofNat 0), (0, .ofNat 0, .ofNat 16), (8, .ofNat 1, .ofNat 0)), (3, 4, (3, .ofNat 1, .ofNat 0), (0, .ofNat 0, .ofNat 16), (7, .ofNat 1, .ofNat 0)), (2, 0, (4, .ofNat 1, .ofNat 0), (0, .ofNat 0, .ofNat 1), (0, .ofNat 0, .ofNat 0)), (0, 158, (1, .ofNat 1, .ofNat 0), (4, .ofNat 1, .ofNat 0), (0, .ofNat 0, .ofNat 0)), (2, 1, (4, .ofNat 1, .ofNat 0), (0, .ofNat 0, .ofNat 0), (0, .ofNat 0, .ofNat 0)), (0, 158, (1, .ofNat 1, .ofNat 0), (4, .ofNat 1, .ofNat 0), (0, .ofNat 0, .ofNat 0)), (2, 1, (0, .ofNat 0, .ofNat 1), (0, .ofNat 0, .ofNat 0), (0, .ofNat 0, .ofNat 0)), (2, 5, (2, .ofNat 1, .ofNat 0), (5, .ofNat 1, .negSucc 0), (0, .ofNat 0, .ofNat 0)), (2, 3, (2, .ofNat 1, .ofNat 0), (0, .ofNat 0, .ofNat 0), (0, .ofNat 0, .ofNat 0)), (0, 159, (1, .ofNat 1, .ofNat 0), (5, .ofNat 1, .ofNat 0), (0, .ofNat 0, .ofNat 0)), (2, 1, (4, .ofNat 1, .ofNat 0), (0, .ofNat 0, .negSucc 3), (0, .ofNat 0, .ofNat 0)), (0, 158, (1, .ofNat 1, .ofNat 0), (4, .ofNat 1, .ofNat 0), (0, .ofNat 0, .ofNat 0)), (2, 1, (0, .ofNat 0, .ofNat 1), (0, .ofNat 0, .ofNat 0), (0, .ofNat 0, .ofNat 0)), (2, 5, (1, .ofNat 1, .ofNat 0), (0, .ofNat 0, .ofNat 3), (0, .ofNat 0, .ofNat 0)), (2, 3, (1, .ofNat 1, .ofNat 0), (0, .ofNat 0, .ofNat 0), (0, .ofNat 0, .ofNat 0))], [(1, [(.ofNat 0, .ofNat 3)]), (2, [(.ofNat 0, .ofNat 59)]), (4, [(.ofNat 1, .ofNat 1)]), (5, [(.ofNat 1, .ofNat 60)]), (6, [(.ofNat 0, .ofNat 239)])], [((1, .ofNat 60, .ofNat 0), (2, .ofNat 1, .ofNat 0), (6, .ofNat 1, .ofNat 0))], []),
  (0, [], [.inl (false, (0, .ofNat 0, .ofNat 1))], [(1, 160, (6, .ofNat 1, .ofNat 0), (8, .ofNat 1, .ofNat 0), (0, .ofNat 0, .ofNat 0)), (3, 5, (7, .ofNat 1, .ofNat 0), (0, .ofNat 0, .ofNat 24), (8, .ofNat 1, .ofNat 0)), (3, 4, (3, .ofNat 1, .ofNat 0), (0, .ofNat 0, .ofNat 24), (7, .ofNat 1, .ofNat 0)), (2, 0, (4, .ofNat 1, .ofNat 0), (0, .ofNat 0, .ofNat 0), (0, .ofNat 0, .ofNat 0)), (0, 158, (1, .ofNat 1, .ofNat 0), (4, .ofNat 1, .ofNat 0), (0, .ofNat 0, .ofNat 0)), (2, 1, (0, .ofNat 0, .ofNat 1), (0, .ofNat 0, .ofNat 0), (0, .ofNat 0, .ofNat 0)), (2, 5, (2, .ofNat 1, .ofNat 0), (5, .ofNat 1, .negSucc 0), (0, .ofNat 0, .ofNat 0)), (2, 3, (2, .ofNat 1, .ofNat 0), (0, .ofNat 0, .ofNat 0), (0, .ofNat 0, .ofNat 0)), (0, 159, (1, .ofNat 1, .ofNat 0), (5, .ofNat 1, .ofNat 0), (0, .ofNat 0, .ofNat 0)), (2, 1, (4, .ofNat 1, .ofNat 0), (0, .ofNat 0, .negSucc 3), (0, .ofNat 0, .ofNat 0)), (0, 158, (1, .ofNat 1, .ofNat 0), (4, .ofNat 1, .ofNat 0), (0, .ofNat 0, .ofNat 0)), (2, 1, (0, .ofNat 0, .ofNat 1), (0, .ofNat 0, .ofNat 0), (0, .ofNat 0, .ofNat 0)), (2, 5, (1, .ofNat 1, .ofNat 0), (0, .ofNat 0, .ofNat 3), (0, .ofNat 0, .ofNat 0)), (2, 3, (1, .ofNat 1, .ofNat 0), (0, .ofNat 0, .ofNat 0), (0, .ofNat 0, .ofNat 0))], [(1, [(.ofNat 0, .ofNat 3)]), (2, [(.ofNat 0, .ofNat 59)]), (4, [(.ofNat 0, .ofNat 0)]), (5, [(.ofNat 1, .ofNat 60)]), (6, [(.ofNat 0, .ofNat 239)])], [((1, .ofNat 60, .ofNat 0), (2, .ofNat 1, .ofNat 0), (6, .ofNat 1, .ofNat 0))], []),
  (0, [], [.inl (false, (0, .ofNat 0, .negSucc 10))], [(2, 0, (4, .ofNat 1, .ofNat 0), (0, .ofNat 0, .negSucc 3), (0, .ofNat 0, .ofNat 0)), (0, 158, (1, .ofNat 1, .ofNat 0), (4, .ofNat 1, .ofNat 0), (0, .ofNat 0, .ofNat 0)), (2, 1, (0, .ofNat 0, .ofNat 1), (0, .ofNat 0, .ofNat 0), (0, .ofNat 0, .ofNat 0)), (2, 5, (1, .ofNat 1, .ofNat 0), (0, .ofNat 0, .ofNat 3), (0, .ofNat 0, .ofNat 0)), (2, 3, (1, .ofNat 1, .ofNat 0), (0, .ofNat 0, .ofNat 0), (0, .ofNat 0, .ofNat 0))], [(1, [(.ofNat 0, .ofNat 3)]), (4, [(.negSucc 3, .negSucc 3)])], [], [])]
set_option maxRecDepth 1000000 in
theorem sg_ly_m_g : sg_go [] [] 3000 248 0 1 4 [(0, [(.ofNat 0, .ofNat 0)]), (1, [(.negSucc 2147483647, .ofNat 2147483647)]), (2, [(.negSucc 2147483647, .ofNat 2147483647)]), (3, [(.negSucc 2147483647, .ofNat 2147483647)])] [] [] [] [(0, .inr (.inl [122])), (1, .inl (false, (1, .ofNat 1, .ofNat 0))), (2, .inl (false, (2, .ofNat 1, .ofNat 0))), (3, .inl (false, (3, .ofNat 1, .ofNat 0)))] [] [(160, none)] sg_ly_m_Z = true := by decide +kernel
theorem sg_ly_m {Q : Option Value × am_S → Prop} {d : Nat} {S : am_S} {L : am_L} {x1 x2 x3 : Int} (hd : 1 ≤ d) (hP : ax_P0 none S) (l0 : lc L 0 122) (l1 : li L 1 x1) (l2 : li L 2 x2) (l3 : li L 3 x3) (b1 : ((-2147483648) ≤ x1 ∧ x1 ≤ 2147483647)) (b2 : ((-2147483648) ≤ x2 ∧ x2 ≤ 2147483647)) (b3 : ((-2147483648) ≤ x3 ∧ x3 ≤ 2147483647))
    (k0 : ∀ (S' : am_S) (i1 : Int32), ax_P0 none S' → rd S' = rd S → x1 < 0 → ((-2147483648) ≤ x1 ∧ x1 ≤ (-1)) → i1.toInt = (-1) → Q (some (.int i1), S'))
    (k1 : ∀ (S' : am_S) (i1 : Int32), ax_P0 none S' → rd S' = rd S → 0 ≤ x1 → 3 < x1 → (4 ≤ x1 ∧ x1 ≤ 2147483647) → i1.toInt = (-1) → Q (some (.int i1), S'))
    (k2 : ∀ (x4 x5 : Int) (S' : am_S) (i1 : Int32), ax_P0 none S' → rd S' = rd S → 0 ≤ x1 → x1 ≤ 3 → rd S 158 x1 = x4 → x4 ≠ (-4) → rd S 159 x1 = x5 → x2 < 0 → (0 ≤ x1 ∧ x1 ≤ 3) → ((-2147483648) ≤ x2 ∧ x2 ≤ (-1)) → (0 ≤ x4 ∧ x4 ≤ 2) → (0 ≤ x5 ∧ x5 ≤ 60) → i1.toInt = (-12) → Q (some (.int i1), S'))
    (k3 : ∀ (x4 x5 : Int) (S' : am_S) (i1 : Int32), ax_P0 none S' → rd S' = rd S → 0 ≤ x1 → x1 ≤ 3 → rd S 158 x1 = x4 → x4 ≠ (-4) → rd S 159 x1 = x5 → 0 ≤ x2 → x5 + (-1) < x2 → (0 ≤ x1 ∧ x1 ≤ 3) → (0 ≤ x2 ∧ x2 ≤ 2147483647) → (0 ≤ x4 ∧ x4 ≤ 2) → (0 ≤ x5 ∧ x5 ≤ 60) → i1.toInt = (-12) → Q (some (.int i1), S'))
    (k4 : ∀ (x4 x5 x6 : Int) (S' : am_S) (i1 : Int32), ax_P0 none S' → rd S' = sg_up (rd S) 160 x6 x3 → 0 ≤ x1 → x1 ≤ 3 → rd S 158 x1 = x4 → x4 ≠ (-4) → rd S 159 x1 = x5 → 0 ≤ x2 → x2 ≤ x5 + (-1) → x4 ≠ 0 → x4 ≠ 1 → (0 ≤ x1 ∧ x1 ≤ 3) → (0 ≤ x2 ∧ x2 ≤ 59) → (2 ≤ x4 ∧ x4 ≤ 2) → (1 ≤ x5 ∧ x5 ≤ 60) → (0 ≤ x6 ∧ x6 ≤ 239) → (60 * x1 + 0) + x2 = x6 → i1.toInt = 1 → Q (some (.int i1), S'))
    (k5 : ∀ (x4 x5 x6 x7 x8 : Int) (S' : am_S) (i1 : Int32), ax_P0 none S' → rd S' = sg_up (rd S) 160 x6 x8 → 0 ≤ x1 → x1 ≤ 3 → rd S 158 x1 = x4 → x4 ≠ (-4) → rd S 159 x1 = x5 → 0 ≤ x2 → x2 ≤ x5 + (-1) → x4 ≠ 0 → x4 = 1 → (∃ a b : Int32, a.toInt = x3 ∧ b.toInt = 16 ∧ (a <<< (b &&& 31)).toInt = x7) → (∃ a b : Int32, a.toInt = x7 ∧ b.toInt = 16 ∧ (a >>> (b &&& 31)).toInt = x8) → (0 ≤ x1 ∧ x1 ≤ 3) → (0 ≤ x2 ∧ x2 ≤ 59) → (1 ≤ x4 ∧ x4 ≤ 1) → (1 ≤ x5 ∧ x5 ≤ 60) → (0 ≤ x6 ∧ x6 ≤ 239) → (60 * x1 + 0) + x2 = x6 → i1.toInt = 1 → Q (some (.int i1), S'))
    (k6 : ∀ (x4 x5 x6 x7 x8 : Int) (S' : am_S) (i1 : Int32), ax_P0 none S' → rd S' = sg_up (rd S) 160 x6 x8 → 0 ≤ x1 → x1 ≤ 3 → rd S 158 x1 = x4 → x4 ≠ (-4) → rd S 159 x1 = x5 → 0 ≤ x2 → x2 ≤ x5 + (-1) → x4 = 0 → (∃ a b : Int32, a.toInt = x3 ∧ b.toInt = 24 ∧ (a <<< (b &&& 31)).toInt = x7) → (∃ a b : Int32, a.toInt = x7 ∧ b.toInt = 24 ∧ (a >>> (b &&& 31)).toInt = x8) → (0 ≤ x1 ∧ x1 ≤ 3) → (0 ≤ x2 ∧ x2 ≤ 59) → (0 ≤ x4 ∧ x4 ≤ 0) → (1 ≤ x5 ∧ x5 ≤ 60) → (0 ≤ x6 ∧ x6 ≤ 239) → (60 * x1 + 0) + x2 = x6 → i1.toInt = 1 → Q (some (.int i1), S'))
    (k7 : ∀ (x4 : Int) (S' : am_S) (i1 : Int32), ax_P0 none S' → rd S' = rd S → 0 ≤ x1 → x1 ≤ 3 → rd S 158 x1 = x4 → x4 = (-4) → (0 ≤ x1 ∧ x1 ≤ 3) → ((-4) ≤ x4 ∧ x4 ≤ (-4)) → i1.toInt = (-11) → Q (some (.int i1), S')) : am_V none d 248 0 L ([]) S Q := by
  refine sg_use sg_ly_m_g hd hP (sg_xs [0, x1, x2, x3]) ⟨⟨Int.le_refl 0, Int.le_refl 0⟩, b1, b2, b3, trivial⟩ trivial trivial trivial ⟨l0, l1, l2, l3, trivial⟩ trivial ?_
  intro z hz x' L' st' S' hx hP' hW hL' hs' hJ hE' hT' hD'
  have q1 : x' 1 = x1 := hx 1 (by decide)
  subst q1
  have q2 : x' 2 = x2 := hx 2 (by decide)
  subst q2
  have q3 : x' 3 = x3 := hx 3 (by decide)
  subst q3
  simp only [sg_ly_m_Z, List.mem_cons, List.not_mem_nil, or_false] at hz
  rcases hz with rfl | rfl | rfl | rfl | rfl | rfl | rfl | rfl
  · obtain ⟨f0, -, hσ⟩ := hJ
    obtain ⟨e0, -⟩ := hE'
    intro v hv
    subst hv
    cases v with
    | none => exact hs'.elim
    | some v1 =>
      obtain ⟨⟨i1, rfl, g1⟩, -⟩ := hs'
      exact k0 S' i1 hP' hσ f0 e0 g1
  · obtain ⟨f0, f1, -, hσ⟩ := hJ
    obtain ⟨e0, -⟩ := hE'
    intro v hv
    subst hv
    cases v with
    | none => exact hs'.elim
    | some v1 =>
      obtain ⟨⟨i1, rfl, g1⟩, -⟩ := hs'
      exact k1 S' i1 hP' hσ f0 f1 e0 g1
  · obtain ⟨f0, f1, -, f3, f4, f5, f6, -, hσ⟩ := hJ
    obtain ⟨e0, e1, e2, e3, -⟩ := hE'
    intro v hv
    subst hv
    cases v with
    | none => exact hs'.elim
    | some v1 =>
      obtain ⟨⟨i1, rfl, g1⟩, -⟩ := hs'
      exact k2 (x' 4) (x' 5) S' i1 hP' hσ f0 f1 f3 f4 f5 f6 e0 e1 e2 e3 g1
  · obtain ⟨f0, f1, -, f3, f4, f5, f6, f7, -, hσ⟩ := hJ
    obtain ⟨e0, e1, e2, e3, -⟩ := hE'
    intro v hv
    subst hv
    cases v with
    | none => exact hs'.elim
    | some v1 =>
      obtain ⟨⟨i1, rfl, g1⟩, -⟩ := hs'
      exact k3 (x' 4) (x' 5) S' i1 hP' hσ f0 f1 f3 f4 f5 f6 f7 e0 e1 e2 e3 g1
  · obtain ⟨f0, f1, -, f3, f4, f5, f6, f7, -, -, f10, -, f12, hσ⟩ := hJ
    obtain ⟨e0, e1, e2, e3, e4, -⟩ := hE'
    obtain ⟨t0, -⟩ := hT'
    intro v hv
    subst hv
    cases v with
    | none => exact hs'.elim
    | some v1 =>
      obtain ⟨⟨i1, rfl, g1⟩, -⟩ := hs'
      exact k4 (x' 4) (x' 5) (x' 6) S' i1 hP' hσ f0 f1 f3 f4 f5 f6 f7 f10 f12 e0 e1 e2 e3 e4 t0 g1
  · obtain ⟨f0, f1, -, f3, f4, f5, f6, f7, -, -, f10, -, f12, f13, f14, hσ⟩ := hJ
    obtain ⟨e0, e1, e2, e3, e4, -⟩ := hE'
    obtain ⟨t0, -⟩ := hT'
    intro v hv
    subst hv
    cases v with
    | none => exact hs'.elim
    | some v1 =>
      obtain ⟨⟨i1, rfl, g1⟩, -⟩ := hs'
      exact k5 (x' 4) (x' 5) (x' 6) (x' 7) (x' 8) S' i1 hP' hσ f0 f1 f3 f4 f5 f6 f7 f10 f12 f13 f14 e0 e1 e2 e3 e4 t0 g1
  · obtain ⟨f0, f1, -, f3, f4, f5, f6, f7, -, -, f10, f11, f12, hσ⟩ := hJ
    obtain ⟨e0, e1, e2, e3, e4, -⟩ := hE'
    obtain ⟨t0, -⟩ := hT'
    intro v hv
    subst hv
    cases v with
    | none => exact hs'.elim
    | some v1 =>
      obtain ⟨⟨i1, rfl, g1⟩, -⟩ := hs'
      exact k6 (x' 4) (x' 5) (x' 6) (x' 7) (x' 8) S' i1 hP' hσ f0 f1 f3 f4 f5 f6 f7 f10 f11 f12 e0 e1 e2 e3 e4 t0 g1
  · obtain ⟨f0, f1, -, f3, f4, hσ⟩ := hJ
    obtain ⟨e0, e1, -⟩ := hE'
    intro v hv
    subst hv
    cases v with
    | none => exact hs'.elim
    | some v1 =>
      obtain ⟨⟨i1, rfl, g1⟩, -⟩ := hs'
      exact k7 (x' 4) S' i1 hP' hσ f0 f1 f3 f4 e0 e1 g1
def sg_sc_x0_Z : List sg_z := [(0, [], [.inl (false, (0, .ofNat 0, .negSucc 0))], [(2, 0, (0, .ofNat 0, .ofNat 0), (0, .ofNat 0, .ofNat 0), (0, .ofNat 0, .ofNat 0)), (2, 2, (1, .ofNat 1, .ofNat 0), (0, .ofNat 0, .ofNat 0), (0, .ofNat 0, .ofNat 0))], [(1, [(.negSucc 2147483647, .negSucc 0)])], [], []),
  (0, [], [.inl (false, (0, .ofNat 0, .negSucc 0))], [(2, 0, (0, .ofNat 0, .ofNat 0), (0, .ofNat 0, .ofNat 0), (0, .ofNat 0, .ofNat 0)), (2, 3, (1, .ofNat 1, .ofNat 0), (0, .ofNat 0, .ofNat 4), (0, .ofNat 0, .ofNat 0)), (2, 3, (1, .ofNat 1, .ofNat 0), (0, .ofNat 0, .ofNat 0), (0, .ofNat 0, .ofNat 0))], [(1, [(.ofNat 4, .ofNat 2147483647)])], [], []),
  (0, [], [.inl (false, (0, .ofNat 0, .negSucc 0))], [(2, 0, (0, .ofNat 0, .ofNat 0), (0, .ofNat 0, .ofNat 0), (0, .ofNat 0, .ofNat 0)), (2, 2, (2, .ofNat 1, .ofNat 0), (0, .ofNat 0, .ofNat 0), (0, .ofNat 0, .ofNat 0)), (2, 1, (0, .ofNat 0, .ofNat 1), (0, .ofNat 0, .ofNat 0), (0, .ofNat 0, .ofNat 0)), (2, 2, (1, .ofNat 1, .ofNat 0), (0, .ofNat 0, .ofNat 4), (0, .ofNat 0, .ofNat 0)), (2, 3, (1, .ofNat 1, .ofNat 0), (0, .ofNat 0, .ofNat 0), (0, .ofNat 0, .ofNat 0))], [(1, [(.ofNat 0, .ofNat 3)]), (2, [(.negSucc 2147483647, .negSucc 0)])], [], []),
  (0, [], [.inl (false, (0, .ofNat 0, .negSucc 0))], [(2, 0, (0, .ofNat 0, .ofNat 0), (0, .ofNat 0, .ofNat 0), (0, .ofNat 0, .ofNat 0)), (2, 3, (2, .ofNat 1, .ofNat 0), (0, .ofNat 0, .ofNat 3), (0, .ofNat 0, .ofNat 0)), (2, 3, (2, .ofNat 1, .ofNat 0), (0, .ofNat 0, .ofNat 0), (0, .ofNat 0, .ofNat 0)), (2, 1, (0, .ofNat 0, .ofNat 1), (0, .ofNat 0, .ofNat 0), (0, .ofNat 0, .ofNat 0)), (2, 2, (1, .ofNat 1, .ofNat 0), (0, .ofNat 0, .ofNat 4), (0, .ofNat 0, .ofNat 0)), (2, 3, (1, .ofNat 1, .ofNat 0), (0, .ofNat 0, .ofNat 0), (0, .ofNat 0, .ofNat 0))], [(1, [(.ofNat 0, .ofNat 3)]), (2, [(.ofNat 3, .ofNat 2147483647)])], [], []),
  (0, [], [.inl (false, (0, .ofNat 0, .negSucc 0))], [(2, 2, (4, .ofNat 1, .ofNat 0), (0, .ofNat 0, .ofNat 0), (0, .ofNat 0, .ofNat 0)), (2, 1, (0, .ofNat 0, .ofNat 1), (0, .ofNat 0, .ofNat 0), (0, .ofNat 0, .ofNat 0)), (2, 2, (2, .ofNat 1, .ofNat 0), (0, .ofNat 0, .ofNat 3), (0, .ofNat 0, .ofNat 0)), (2, 3, (2, .ofNat 1, .ofNat 0), (0, .ofNat 0, .ofNat 0), (0, .ofNat 0, .ofNat 0)), (2, 1, (0, .ofNat 0, .ofNat 1), (0, .ofNat 0, .ofNat 0), (0, .ofNat 0, .ofNat 0)), (2, 2, (1, .ofNat 1, .ofNat 0), (0, .ofNat 0, .ofNat 4), (0, .ofNat 0, .ofNat 0)), (2, 3, (1, .ofNat 1, .ofNat 0), (0, .ofNat 0, .ofNat 0), (0, .ofNat 0, .ofNat 0))], [(1, [(.ofNat 0, .ofNat 3)]), (2, [(.ofNat 0, .ofNat 2)]), (4, [(.negSucc 2147483647, .negSucc 0)])], [], []),
  (0, [], [.inl (false, (0, .ofNat 0, .negSucc 12))], [(2, 1, (0, .ofNat 0, .ofNat 3), (0, .ofNat 0, .ofNat 0), (0, .ofNat 0, .ofNat 0)), (2, 1, (5, .ofNat 1, .ofNat 0), (2, .ofNat 1, .ofNat 0), (0, .ofNat 0, .ofNat 0)), (0, 120, (0, .ofNat 0, .ofNat 2), (5, .ofNat 1, .ofNat 0), (0, .ofNat 0, .ofNat 0)), (2, 0, (0, .ofNat 0, .ofNat 0), (0, .ofNat 0, .ofNat 0), (0, .ofNat 0, .ofNat 0)), (2, 1, (5, .ofNat 1, .ofNat 0), (0, .ofNat 0, .negSucc 0), (0, .ofNat 0, .ofNat 0)), (0, 120, (0, .ofNat 0, .ofNat 2), (5, .ofNat 1, .ofNat 0), (0, .ofNat 0, .ofNat 0)), (2, 5, (4, .ofNat 1, .ofNat 0), (0, .ofNat 0, .ofNat 16), (0, .ofNat 0, .ofNat 0)), (2, 3, (4, .ofNat 1, .ofNat 0), (0, .ofNat 0, .ofNat 0), (0, .ofNat 0, .ofNat 0)), (2, 1, (0, .ofNat 0, .ofNat 1), (0, .ofNat 0, .ofNat 0), (0, .ofNat 0, .ofNat 0)), (2, 2, (2, .ofNat 1, .ofNat 0), (0, .ofNat 0, .ofNat 3), (0, .ofNat 0, .ofNat 0)), (2, 3, (2, .ofNat 1, .ofNat 0), (0, .ofNat 0, .ofNat 0), (0, .ofNat 0, .ofNat 0)), (2, 1, (0, .ofNat 0, .ofNat 1), (0, .ofNat 0, .ofNat 0), (0, .ofNat 0, .ofNat 0)), (2, 2, (1, .ofNat 1, .ofNat 0), (0, .ofNat 0, .ofNat 4), (0, .ofNat 0, .ofNat 0)), (2, 3, (1, .ofNat 1, .ofNat 0), (0, .ofNat 0, .ofNat 0), (0, .ofNat 0, .ofNat 0))], [(1, [(.ofNat 3, .ofNat 3)]), (2, [(.ofNat 0, .ofNat 2)]), (4, [(.ofNat 0, .ofNat 16)]), (5, [(.ofNat 0, .ofNat 2)])], [], []),
  (62, [(0, .inr (.inl [0])), (1, .inl (false, (0, .ofNat 0, .ofNat 3))), (2, .inl (false, (2, .ofNat 1, .ofNat 0))), (3, .inl (false, (3, .ofNat 1, .ofNat 0))), (4, .inl (false, (4, .ofNat 1, .ofNat 0))), (5, .inl (false, (0, .ofNat 0, .ofNat 0)))], [.inl (false, (4, .ofNat 1, .ofNat 0)), .inl (false, (3, .ofNat 1, .ofNat 0)), .inr (.inl [120]), .inr (.inl [0])], [(2, 0, (0, .ofNat 0, .ofNat 0), (0, .ofNat 0, .ofNat 0), (0, .ofNat 0, .ofNat 0)), (2, 0, (5, .ofNat 1, .ofNat 0), (2, .ofNat 1, .ofNat 0), (0, .ofNat 0, .ofNat 0)), (0, 120, (0, .ofNat 0, .ofNat 2), (5, .ofNat 1, .ofNat 0), (0, .ofNat 0, .ofNat 0)), (2, 0, (0, .ofNat 0, .ofNat 0), (0, .ofNat 0, .ofNat 0), (0, .ofNat 0, .ofNat 0)), (2, 1, (5, .ofNat 1, .ofNat 0), (0, .ofNat 0, .negSucc 0), (0, .ofNat 0, .ofNat 0)), (0, 120, (0, .ofNat 0, .ofNat 2), (5, .ofNat 1, .ofNat 0), (0, .ofNat 0, .ofNat 0)), (2, 5, (4, .ofNat 1, .ofNat 0), (0, .ofNat 0, .ofNat 16), (0, .ofNat 0, .ofNat 0)), (2, 3, (4, .ofNat 1, .ofNat 0), (0, .ofNat 0, .ofNat 0), (0, .ofNat 0, .ofNat 0)), (2, 1, (0, .ofNat 0, .ofNat 1), (0, .ofNat 0, .ofNat 0), (0, .ofNat 0, .ofNat 0)), (2, 2, (2, .ofNat 1, .ofNat 0), (0, .ofNat 0, .ofNat 3), (0, .ofNat 0, .ofNat 0)), (2, 3, (2, .ofNat 1, .ofNat 0), (0, .ofNat 0, .ofNat 0), (0, .ofNat 0, .ofNat 0)), (2, 1, (0, .ofNat 0, .ofNat 1), (0, .ofNat 0, .ofNat 0), (0, .ofNat 0, .ofNat 0)), (2, 2, (1, .ofNat 1, .ofNat 0), (0, .ofNat 0, .ofNat 4), (0, .ofNat 0, .ofNat 0)), (2, 3, (1, .ofNat 1, .ofNat 0), (0, .ofNat 0, .ofNat 0), (0, .ofNat 0, .ofNat 0))], [(1, [(.ofNat 3, .ofNat 3)]), (2, [(.ofNat 0, .ofNat 2)]), (4, [(.ofNat 0, .ofNat 16)]), (5, [(.ofNat 0, .ofNat 2)])], [], []),
  (0, [], [.inl (false, (0, .ofNat 0, .negSucc 10))], [(2, 1, (0, .ofNat 0, .ofNat 1), (0, .ofNat 0, .ofNat 0), (0, .ofNat 0, .ofNat 0)), (2, 1, (0, .ofNat 0, .ofNat 1), (0, .ofNat 0, .ofNat 0), (0, .ofNat 0, .ofNat 0)), (2, 0, (5, .ofNat 1, .ofNat 0), (0, .ofNat 0, .negSucc 0), (0, .ofNat 0, .ofNat 0)), (0, 120, (0, .ofNat 0, .ofNat 2), (5, .ofNat 1, .ofNat 0), (0, .ofNat 0, .ofNat 0)), (2, 5, (4, .ofNat 1, .ofNat 0), (0, .ofNat 0, .ofNat 16), (0, .ofNat 0, .ofNat 0)), (2, 3, (4, .ofNat 1, .ofNat 0), (0, .ofNat 0, .ofNat 0), (0, .ofNat 0, .ofNat 0)), (2, 1, (0, .ofNat 0, .ofNat 1), (0, .ofNat 0, .ofNat 0), (0, .ofNat 0, .ofNat 0)), (2, 2, (2, .ofNat 1, .ofNat 0), (0, .ofNat 0, .ofNat 3), (0, .ofNat 0, .ofNat 0)), (2, 3, (2, .ofNat 1, .ofNat 0), (0, .ofNat 0, .ofNat 0), (0, .ofNat 0, .ofNat 0)), (2, 1, (0, .ofNat 0, .ofNat 1), (0, .ofNat 0, .ofNat 0), (0, .ofNat 0, .ofNat 0)), (2, 2, (1, .ofNat 1, .ofNat 0), (0, .ofNat 0, .ofNat 4), (0, .ofNat 0, .ofNat 0)), (2, 3, (1, .ofNat 1, .ofNat 0), (0, .ofNat 0, .ofNat 0), (0, .ofNat 0, .ofNat 0))], [(1, [(.ofNat 3, .ofNat 3)]), (2, [(.ofNat 0, .ofNat 2)]), (4, [(.ofNat 0, .ofNat 16)]), (5, [(.negSucc 0, .negSucc 0)])], [], []),
  (0, [], [.inl (false, (0, .ofNat 0, .negSucc 12))], [(2, 1, (0, .ofNat 0, .ofNat 3), (0, .ofNat 0, .ofNat 0), (0, .ofNat 0, .ofNat 0)), (2, 1, (5, .ofNat 1, .ofNat 0), (2, .ofNat 1, .ofNat 0), (0, .ofNat 0, .ofNat 0)), (0, 118, (0, .ofNat 0, .ofNat 2), (5, .ofNat 1, .ofNat 0), (0, .ofNat 0, .ofNat 0)), (2, 0, (0, .ofNat 0, .ofNat 0), (0, .ofNat 0, .ofNat 0), (0, .ofNat 0, .ofNat 0)), (2, 1, (5, .ofNat 1, .ofNat 0), (0, .ofNat 0, .negSucc 0), (0, .ofNat 0, .ofNat 0)), (0, 118, (0, .ofNat 0, .ofNat 2), (5, .ofNat 1, .ofNat 0), (0, .ofNat 0, .ofNat 0)), (2, 5, (4, .ofNat 1, .ofNat 0), (0, .ofNat 0, .ofNat 16), (0, .ofNat 0, .ofNat 0)), (2, 3, (4, .ofNat 1, .ofNat 0), (0, .ofNat 0, .ofNat 0), (0, .ofNat 0, .ofNat 0)), (2, 1, (0, .ofNat 0, .ofNat 1), (0, .ofNat 0, .ofNat 0), (0, .ofNat 0, .ofNat 0)), (2, 2, (2, .ofNat 1, .ofNat 0), (0, .ofNat 0, .ofNat 3), (0, .ofNat 0, .ofNat 0)), (2, 3, (2, .ofNat 1, .ofNat 0), (0, .ofNat 0, .ofNat 0), (0, .ofNat 0, .ofNat 0)), (2, 1, (0, .ofNat 0, .ofNat 1), (0, .ofNat 0, .ofNat 0), (0, .ofNat 0, .ofNat 0)), (2, 2, (1, .ofNat 1, .ofNat 0), (0, .ofNat 0, .ofNat 4), (0, .ofNat 0, .ofNat 0)), (2, 3, (1, .ofNat 1, .ofNat 0), (0, .ofNat 0, .ofNat 0), (0, .ofNat 0, .ofNat 0))], [(1, [(.ofNat 2, .ofNat 2)]), (2, [(.ofNat 0, .ofNat 2)]), (4, [(.ofNat 0, .ofNat 16)]), (5, [(.ofNat 0, .ofNat 2)])], [], []),
  (62, [(0, .inr (.inl [0])), (1, .inl (false, (0, .ofNat 0, .ofNat 2))), (2, .inl (false, (2, .ofNat 1, .ofNat 0))), (3, .inl (false, (3, .ofNat 1, .ofNat 0))), (4, .inl (false, (4, .ofNat 1, .ofNat 0))), (5, .inl (false, (0, .ofNat 0, .ofNat 0)))], [.inl (false, (4, .ofNat 1, .ofNat 0)), .inl (false, (3, .ofNat 1, .ofNat 0)), .inr (.inl [118]), .inr (.inl [0])], [(2, 0, (0, .ofNat 0, .ofNat 0), (0, .ofNat 0, .ofNat 0), (0, .ofNat 0, .ofNat 0)), (2, 0, (5, .ofNat 1, .ofNat 0), (2, .ofNat 1, .ofNat 0), (0, .ofNat 0, .ofNat 0)), (0, 118, (0, .ofNat 0, .ofNat 2), (5, .ofNat 1, .ofNat 0), (0, .ofNat 0, .ofNat 0)), (2, 0, (0, .ofNat 0, .ofNat 0), (0, .ofNat 0, .ofNat 0), (0, .ofNat 0, .ofNat 0)), (2, 1, (5, .ofNat 1, .ofNat 0), (0, .ofNat 0, .negSucc 0), (0, .ofNat 0, .ofNat 0)), (0, 118, (0, .ofNat 0, .ofNat 2), (5, .ofNat 1, .ofNat 0), (0, .ofNat 0, .ofNat 0)), (2, 5, (4, .ofNat 1, .ofNat 0), (0, .ofNat 0, .ofNat 16), (0, .ofNat 0, .ofNat 0)), (2, 3, (4, .ofNat 1, .ofNat 0), (0, .ofNat 0, .ofNat 0), (0, .ofNat 0, .ofNat 0)), (2, 1, (0, .ofNat 0, .ofNat 1), (0, .ofNat 0, .ofNat 0), (0, .ofNat 0, .ofNat 0)), (2, 2, (2, .ofNat 1, .ofNat 0), (0, .ofNat 0, .ofNat 3), (0, .ofNat 0, .ofNat 0)), (2, 3, (2, .ofNat 1, .ofNat 0), (0, .ofNat 0, .ofNat 0), (0, .ofNat 0, .ofNat 0)), (2, 1, (0, .ofNat 0, .ofNat 1), (0, .ofNat 0, .ofNat 0), (0, .ofNat 0, .ofNat 0)), (2, 2, (1, .ofNat 1, .ofNat 0), (0, .ofNat 0, .ofNat 4), (0, .ofNat 0, .ofNat 0)), (2, 3, (1, .ofNat 1, .ofNat 0), (0, .ofNat 0, .ofNat 0), (0, .ofNat 0, .ofNat 0))], [(1, [(.ofNat 2, .ofNat 2)]), (2, [(.ofNat 0, .ofNat 2)]), (4, [(.ofNat 0, .ofNat 16)]), (5, [(.ofNat 0, .ofNat 2)])], [], []),
  (0, [], [.inl (false, (0, .ofNat 0, .negSucc 10))], [(2, 1, (0, .ofNat 0, .ofNat 1), (0, .ofNat 0, .ofNat 0), (0, .ofNat 0, .ofNat 0)), (2, 1, (0, .ofNat 0, .ofNat 1), (0, .ofNat 0, .ofNat 0), (0, .ofNat 0, .ofNat 0)), (2, 0, (5, .ofNat 1, .ofNat 0), (0, .ofNat 0, .negSucc 0), (0, .ofNat 0, .ofNat 0)), (0, 118, (0, .ofNat 0, .ofNat 2), (5, .ofNat 1, .ofNat 0), (0, .ofNat 0, .ofNat 0)), (2, 5, (4, .ofNat 1, .ofNat 0), (0, .ofNat 0, .ofNat 16), (0, .ofNat 0, .ofNat 0)), (2, 3, (4, .ofNat 1, .ofNat 0), (0, .ofNat 0, .ofNat 0), (0, .ofNat 0, .ofNat 0)), (2, 1, (0, .ofNat 0, .ofNat 1), (0, .ofNat 0, .ofNat 0), (0, .ofNat 0, .ofNat 0)), (2, 2, (2, .ofNat 1, .ofNat 0), (0, .ofNat 0, .ofNat 3), (0, .ofNat 0, .ofNat 0)), (2, 3, (2, .ofNat 1, .ofNat 0), (0, .ofNat 0, .ofNat 0), (0, .ofNat 0, .ofNat 0)), (2, 1, (0, .ofNat 0, .ofNat 1), (0, .ofNat 0, .ofNat 0), (0, .ofNat 0, .ofNat 0)), (2, 2, (1, .ofNat 1, .ofNat 0), (0, .ofNat 0, .ofNat 4), (0, .ofNat 0, .ofNat 0)), (2, 3, (1, .ofNat 1, .ofNat 0), (0, .ofNat 0, .ofNat 0), (0, .ofNat 0, .ofNat 0))], [(1, [(.ofNat 2, .ofNat 2)]), (2, [(.ofNat 0, .ofNat 2)]), (4, [(.ofNat 0, .ofNat 16)]), (5, [(.negSucc 0, .negSucc 0)])], [], []),
  (0, [], [.inl (false, (0, .ofNat 0, .negSucc 12))], [(2, 1, (0, .ofNat 0, .ofNat 3), (0, .ofNat 0, .ofNat 0), (0, .ofNat 0, .ofNat 0)), (2, 1, (5, .ofNat 1, .ofNat 0), (2, .ofNat 1, .ofNat 0), (0, .ofNat 0, .ofNat 0)), (0, 116, (0, .ofNat 0, .ofNat 2), (5, .ofNat 1, .ofNat 0), (0, .ofNat 0, .ofNat 0)), (2, 0, (0, .ofNat 0, .ofNat 0), (0, .ofNat 0, .ofNat 0), (0, .ofNat 0, .ofNat 0)), (2, 1, (5, .ofNat 1, .ofNat 0), (0, .ofNat 0, .negSucc 0), (0, .ofNat 0, .ofNat 0)), (0, 116, (0, .ofNat 0, .ofNat 2), (5, .ofNat 1, .ofNat 0), (0, .ofNat 0, .ofNat 0)), (2, 5, (4, .ofNat 1, .ofNat 0), (0, .ofNat 0, .ofNat 16), (0, .ofNat 0, .ofNat 0)), (2, 3, (4, .ofNat 1, .ofNat 0), (0, .ofNat 0, .ofNat 0), (0, .ofNat 0, .ofNat 0)), (2, 1, (0, .ofNat 0, .ofNat 1), (0, .ofNat 0, .ofNat 0), (0, .ofNat 0, .ofNat 0)), (2, 2, (2, .ofNat 1, .ofNat 0), (0, .ofNat 0, .ofNat 3), (0, .ofNat 0, .ofNat 0)), (2, 3, (2, .ofNat 1, .ofNat 0), (0, .ofNat 0, .ofNat 0), (0, .ofNat 0, .ofNat 0)), (2, 1, (0, .ofNat 0, .ofNat 1), (0, .ofNat 0, .ofNat 0), (0, .ofNat 0, .ofNat 0)), (2, 2, (1, .ofNat 1, .ofNat 0), (0, .ofNat 0, .ofNat 4), (0, .ofNat 0, .ofNat 0)), (2, 3, (1, .ofNat 1, .ofNat 0), (0, .ofNat 0, .ofNat 0), (0, .ofNat 0, .ofNat 0))], [(1, [(.ofNat 1, .ofNat 1)]), (2, [(.ofNat 0, .ofNat 2)]), (4, [(.ofNat 0, .ofNat 16)]), (5, [(.ofNat 0, .ofNat 2)])], [], []),
  (62, [(0, .inr (.inl [0])), (1, .inl (false, (0, .ofNat 0, .ofNat 1))), (2, .inl (false, (2, .ofNat 1, .ofNat 0))), (3, .inl (false, (3, .ofNat 1, .ofNat 0))), (4, .inl (false, (4, .ofNat 1, .ofNat 0))), (5, .inl (false, (0, .ofNat 0, .ofNat 0)))], [.inl (false, (4, .ofNat 1, .ofNat 0)), .inl (false, (3, .ofNat 1, .ofNat 0)), .inr (.inl [116]), .inr (.inl [0])], [(2, 0, (0, .ofNat 0, .ofNat 0), (0, .ofNat 0, .ofNat 0), (0, .ofNat 0, .ofNat 0)), (2, 0, (5, .ofNat 1, .ofNat 0), (2, .ofNat 1, .ofNat 0), (0, .ofNat 0, .ofNat 0)), (0, 116, (0, .ofNat 0, .ofNat 2), (5, .ofNat 1, .ofNat 0), (0, .ofNat 0, .ofNat 0)), (2, 0, (0, .ofNat 0, .ofNat 0), (0, .ofNat 0, .ofNat 0), (0, .ofNat 0, .ofNat 0)), (2, 1, (5, .ofNat 1, .ofNat 0), (0, .ofNat 0, .negSucc 0), (0, .ofNat 0, .ofNat 0)), (0, 116, (0, .ofNat 0, .ofNat 2), (5, .ofNat 1, .ofNat 0), (0, .ofNat 0, .ofNat 0)), (2, 5, (4, .ofNat 1, .ofNat 0), (0, .ofNat 0, .ofNat 16), (0, .ofNat 0, .ofNat 0)), (2, 3, (4, .ofNat 1, .ofNat 0), (0, .ofNat 0, .ofNat 0), (0, .ofNat 0, .ofNat 0)), (2, 1, (0, .ofNat 0, .ofNat 1), (0, .ofNat 0, .ofNat 0), (0, .ofNat 0, .ofNat 0)), (2, 2, (2, .ofNat 1, .ofNat 0), (0, .ofNat 0, .ofNat 3), (0, .ofNat 0, .ofNat 0)), (2, 3, (2, .ofNat 1, .ofNat 0), (0, .ofNat 0, .ofNat 0), (0, .ofNat 0, .ofNat 0)), (2, 1, (0, .ofNat 0, .ofNat 1), (0, .ofNat 0, .ofNat 0), (0, .ofNat 0, .ofNat 0)), (2, 2, (1, .ofNat 1, .ofNat 0), (0, .ofNat 0, .ofNat 4), (0, .ofNat 0, .ofNat 0)), (2, 3, (1, .ofNat 1, .ofNat 0), (0, .ofNat 0, .ofNat 0), (0, .ofNat 0, .ofNat 0))], [(1, [(.ofNat 1, .ofNat 1)]), (2, [(.ofNat 0, .ofNat 2)]), (4, [(.ofNat 0, .ofNat 16)]), (5, [(.ofNat 0, .ofNat 2)])], [], []),
  (0, [], [.inl (false, (0, .ofNat 0, .negSucc 10))], [(2, 1, (0, .ofNat 0, .ofNat 1), (0, .ofNat 0, .ofNat 0), (0, .ofNat 0, .ofNat 0)), (2, 1, (0, .ofNat 0, .ofNat 1), (0, .ofNat 0, .ofNat 0), (0, .ofNat 0, .ofNat 0)), (2, 0, (5, .ofNat 1, .ofNat 0), (0, .ofNat 0, .negSucc 0), (0, .ofNat 0, .ofNat 0)), (0, 116, (0, .ofNat 0, .ofNat 2), (5, .ofNat 1, .ofNat 0), (0, .ofNat 0, .ofNat 0)), (2, 5, (4, .ofNat 1, .ofNat 0), (0, .ofNat 0, .ofNat 16), (0, .ofNat 0, .ofNat 0)), (2, 3, (4, .ofNat 1, .ofNat 0), (0, .ofNat 0, .ofNat 0), (0, .ofNat 0, .ofNat 0)), (2, 1, (0, .ofNat 0, .ofNat 1), (0, .ofNat 0, .ofNat 0), (0, .ofNat 0, .ofNat 0)), (2, 2, (2, .ofNat 1, .ofNat 0), (0, .ofNat 0, .ofNat 3), (0, .ofNat 0, .ofNat 0)), (2, 3, (2, .ofNat 1, .ofNat 0), (0, .ofNat 0, .ofNat 0), (0, .ofNat 0, .ofNat 0)), (2, 1, (0, .ofNat 0, .ofNat 1), (0, .ofNat 0, .ofNat 0), (0, .ofNat 0, .ofNat 0)), (2, 2, (1, .ofNat 1, .ofNat 0), (0, .ofNat 0, .ofNat 4), (0, .ofNat 0, .ofNat 0)), (2, 3, (1, .ofNat 1, .ofNat 0), (0, .ofNat 0, .ofNat 0), (0, .ofNat 0, .ofNat 0))], [(1, [(.ofNat 1, .ofNat 1)]), (2, [(.ofNat 0, .ofNat 2)]), (4, [(.ofNat 0, .ofNat 16)]), (5, [(.negSucc 0, .negSucc 0)])], [], []),
  (0, [], [.inl (false, (0, .ofNat 0, .negSucc 12))], [(2, 1, (0, .ofNat 0, .ofNat 3), (0, .ofNat 0, .ofNat 0), (0, .ofNat 0, .ofNat 0)), (2, 1, (5, .ofNat 1, .ofNat 0), (2, .ofNat 1, .ofNat 0), (0, .ofNat 0, .ofNat 0)), (0, 114, (0, .ofNat 0, .ofNat 2), (5, .ofNat 1, .ofNat 0), (0, .ofNat 0, .ofNat 0)), (2, 0, (0, .ofNat 0, .ofNat 0), (0, .ofNat 0, .ofNat 0), (0, .ofNat 0, .ofNat 0)), (2, 1, (5, .ofNat 1, .ofNat 0), (0, .ofNat 0, .negSucc 0), (0, .ofNat 0, .ofNat 0)), (0, 114, (0, .ofNat 0, .ofNat 2), (5, .ofNat 1, .ofNat 0), (0, .ofNat 0, .ofNat 0)), (2, 5, (4, .ofNat 1, .ofNat 0), (0, .ofNat 0, .ofNat 16), (0, .ofNat 0, .ofNat 0)), (2, 3, (4, .ofNat 1, .ofNat 0), (0, .ofNat 0, .ofNat 0), (0, .ofNat 0, .ofNat 0)), (2, 1, (0, .ofNat 0, .ofNat 1), (0, .ofNat 0, .ofNat 0), (0, .ofNat 0, .ofNat 0)), (2, 2, (2, .ofNat 1, .ofNat 0), (0, .ofNat 0, .ofNat 3), (0, .ofNat 0, .ofNat 0)), (2, 3, (2, .ofNat 1, .ofNat 0), (0, .ofNat 0, .ofNat 0), (0, .ofNat 0, .ofNat 0)), (2, 1, (0, .ofNat 0, .ofNat 1), (0, .ofNat 0, .ofNat 0), (0, .ofNat 0, .ofNat 0)), (2, 2, (1, .ofNat 1, .ofNat 0), (0, .ofNat 0, .ofNat 4), (0, .ofNat 0, .ofNat 0)), (2, 3, (1, .ofNat 1, .ofNat 0), (0, .ofNat 0, .ofNat 0), (0, .ofNat 0, .ofNat 0))], [(1, [(.ofNat 0, .ofNat 0)]), (2, [(.ofNat 0, .ofNat 2)]), (4, [(.ofNat 0, .ofNat 16)]), (5, [(.ofNat 0, .ofNat 2)])], [], []),
  (62, [(0, .inr (.inl [0])), (1, .inl (false, (0, .ofNat 0, .ofNat 0))), (2, .inl (false, (2, .ofNat 1, .ofNat 0))), (3, .inl (false, (3, .ofNat 1, .ofNat 0))), (4, .inl (false, (4, .ofNat 1, .ofNat 0))), (5, .inl (false, (0, .ofNat 0, .ofNat 0)))], [.inl (false, (4, .ofNat 1, .ofNat 0)), .inl (false, (3, .ofNat 1, .ofNat 0)), .inr (.inl [114]), .inr (.inl [0])], [(2, 0, (0, .ofNat 0, .ofNat 0), (0, .ofNat 0, .ofNat 0), (0, .ofNat 0, .ofNat 0)), (2, 0, (5, .ofNat 1, .ofNat 0), (2, .ofNat 1, .ofNat 0), (0, .ofNat 0, .ofNat 0)), (0, 114, (0, .ofNat 0, .ofNat 2), (5, .ofNat 1, .ofNat 0), (0, .ofNat 0, .ofNat 0)), (2, 0, (0, .ofNat 0, .ofNat 0), (0, .ofNat 0, .ofNat 0), (0, .ofNat 0, .ofNat 0)), (2, 1, (5, .ofNat 1, .ofNat 0), (0, .ofNat 0, .negSucc 0), (0, .ofNat 0, .ofNat 0)), (0, 114, (0, .ofNat 0, .ofNat 2), (5, .ofNat 1, .ofNat 0), (0, .ofNat 0, .ofNat 0)), (2, 5, (4, .ofNat 1, .ofNat 0), (0, .ofNat 0, .ofNat 16), (0, .ofNat 0, .ofNat 0)), (2, 3, (4, .ofNat 1, .ofNat 0), (0, .ofNat 0, .ofNat 0), (0, .ofNat 0, .ofNat 0)), (2, 1, (0, .ofNat 0, .ofNat 1), (0, .ofNat 0, .ofNat 0), (0, .ofNat 0, .ofNat 0)), (2, 2, (2, .ofNat 1, .ofNat 0), (0, .ofNat 0, .ofNat 3), (0, .ofNat 0, .ofNat 0)), (2, 3, (2, .ofNat 1, .ofNat 0), (0, .ofNat 0, .ofNat 0), (0, .ofNat 0, .ofNat 0)), (2, 1, (0, .ofNat 0, .ofNat 1), (0, .ofNat 0, .ofNat 0), (0, .ofNat 0, .ofNat 0)), (2, 2, (1, .ofNat 1, .ofNat 0), (0, .ofNat 0, .ofNat 4), (0, .ofNat 0, .ofNat 0)), (2, 3, (1, .ofNat 1, .ofNat 0), (0, .ofNat 0, .ofNat 0), (0, .ofNat 0, .ofNat 0))], [(1, [(.ofNat 0, .ofNat 0)]), (2, [(.ofNat 0, .ofNat 2)]), (4, [(.ofNat 0, .ofNat 16)]), (5, [(.ofNat 0, .ofNat 2)])], [], []),
  (0, [], [.inl (false, (0, .ofNat 0, .negSucc 10))], [(2, 1, (0, .ofNat 0, .ofNat 1), (0, .ofNat 0, .ofNat 0), (0, .ofNat 0, .ofNat 0)), (2, 1, (0, .ofNat 0, .ofNat 1), (0, .ofNat 0, .ofNat 0), (0, .ofNat 0, .ofNat 0)), (2, 0, (5, .ofNat 1, .ofNat 0), (0, .ofNat 0, .negSucc 0), (0, .ofNat 0, .ofNat 0)), (0, 114, (0, .ofNat 0, .ofNat 2), (5, .ofNat 1, .ofNat 0), (0, .ofNat 0, .ofNat 0)), (2, 5, (4, .ofNat 1, .ofNat 0), (0, .ofNat 0, .ofNat 16), (0, .ofNat 0, .ofNat 0)), (2, 3, (4, .ofNat 1, .ofNat 0), (0, .ofNat 0, .ofNat 0), (0, .ofNat 0, .ofNat 0)), (2, 1, (0, .ofNat 0, .ofNat 1), (0, .ofNat 0, .ofNat 0), (0, .ofNat 0, .ofNat 0)), (2, 2, (2, .ofNat 1, .ofNat 0), (0, .ofNat 0, .ofNat 3), (0, .ofNat 0, .ofNat 0)), (2, 3, (2, .ofNat 1, .ofNat 0), (0, .ofNat 0, .ofNat 0), (0, .ofNat 0, .ofNat 0)), (2, 1, (0, .ofNat 0, .ofNat 1), (0, .ofNat 0, .ofNat 0), (0, .ofNat 0, .ofNat 0)), (2, 2, (1, .ofNat 1, .ofNat 0), (0, .ofNat 0, .ofNat 4), (0, .ofNat 0, .ofNat 0)), (2, 3, (1, .ofNat 1, .ofNat 0), (0, .ofNat 0, .ofNat 0), (0, .ofNat 0, .ofNat 0))], [(1, [(.ofNat 0, .ofNat 0)]), (2, [(.ofNat 0, .ofNat 2)]), (4, [(.ofNat 0, .ofNat 16)]), (5, [(.negSucc 0, .negSucc 0)])], [], []),
  (0, [], [.inl (false, (0, .ofNat 0, .negSucc 0))], [(2, 4, (4, .ofNat 1, .ofNat 0), (0, .ofNat 0, .ofNat 16), (0, .ofNat 0, .ofNat 0)), (2, 3, (4, .ofNat 1, .ofNat 0), (0, .ofNat 0, .ofNat 0), (0, .ofNat 0, .ofNat 0)), (2, 1, (0, .ofNat 0, .ofNat 1), (0, .ofNat 0, .ofNat 0), (0, .ofNat 0, .ofNat 0)), (2, 2, (2, .ofNat 1, .ofNat 0), (0, .ofNat 0, .ofNat 3), (0, .ofNat 0, .ofNat 0)), (2, 3, (2, .ofNat 1, .ofNat 0), (0, .ofNat 0, .ofNat 0), (0, .ofNat 0, .ofNat 0)), (2, 1, (0, .ofNat 0, .ofNat 1), (0, .ofNat 0, .ofNat 0), (0, .ofNat 0, .ofNat 0)), (2, 2, (1, .ofNat 1, .ofNat 0), (0, .ofNat 0, .ofNat 4), (0, .ofNat 0, .ofNat 0)), (2, 3, (1, .ofNat 1, .ofNat 0), (0, .ofNat 0, .ofNat 0), (0, .ofNat 0, .ofNat 0))], [(1, [(.ofNat 0, .ofNat 3)]), (2, [(.ofNat 0, .ofNat 2)]), (4, [(.ofNat 17, .ofNat 2147483647)])], [], [])]
set_option maxRecDepth 1000000 in
theorem sg_sc_x0_g : sg_go [(9175068, .inr 1)] [61] 3000 140 0 2 5 [(0, [(.ofNat 0, .ofNat 0)]), (1, [(.negSucc 2147483647, .ofNat 2147483647)]), (2, [(.negSucc 2147483647, .ofNat 2147483647)]), (3, [(.negSucc 2147483647, .ofNat 2147483647)]), (4, [(.negSucc 2147483647, .ofNat 2147483647)])] [] [] [] [(0, .inr (.inl [0])), (1, .inl (false, (1, .ofNat 1, .ofNat 0))), (2, .inl (false, (2, .ofNat 1, .ofNat 0))), (3, .inl (false, (3, .ofNat 1, .ofNat 0))), (4, .inl (false, (4, .ofNat 1, .ofNat 0)))] [] [] sg_sc_x0_Z = true := by decide +kernel
theorem sg_sc_x0 {Q : Option Value × am_S → Prop} {d : Nat} {S : am_S} {L : am_L} {x1 x2 x3 x4 : Int} (hd : 2 ≤ d) (hP : ax_P0 none S) (l0 : lc L 0 0) (l1 : li L 1 x1) (l2 : li L 2 x2) (l3 : li L 3 x3) (l4 : li L 4 x4) (b1 : ((-2147483648) ≤ x1 ∧ x1 ≤ 2147483647)) (b2 : ((-2147483648) ≤ x2 ∧ x2 ≤ 2147483647)) (b3 : ((-2147483648) ≤ x3 ∧ x3 ≤ 2147483647)) (b4 : ((-2147483648) ≤ x4 ∧ x4 ≤ 2147483647))
    (k0 : ∀ (i1 : Int32), x1 < 0 → ((-2147483648) ≤ x1 ∧ x1 ≤ (-1)) → i1.toInt = (-1) → Q (some (.int i1), S))
    (k1 : ∀ (i1 : Int32), 0 ≤ x1 → 4 ≤ x1 → (4 ≤ x1 ∧ x1 ≤ 2147483647) → i1.toInt = (-1) → Q (some (.int i1), S))
    (k2 : ∀ (i1 : Int32), 0 ≤ x1 → x1 < 4 → x2 < 0 → (0 ≤ x1 ∧ x1 ≤ 3) → ((-2147483648) ≤ x2 ∧ x2 ≤ (-1)) → i1.toInt = (-1) → Q (some (.int i1), S))
    (k3 : ∀ (i1 : Int32), 0 ≤ x1 → x1 < 4 → 0 ≤ x2 → 3 ≤ x2 → (0 ≤ x1 ∧ x1 ≤ 3) → (3 ≤ x2 ∧ x2 ≤ 2147483647) → i1.toInt = (-1) → Q (some (.int i1), S))
    (k4 : ∀ (i1 : Int32), 0 ≤ x1 → x1 < 4 → 0 ≤ x2 → x2 < 3 → x4 < 0 → (0 ≤ x1 ∧ x1 ≤ 3) → (0 ≤ x2 ∧ x2 ≤ 2) → ((-2147483648) ≤ x4 ∧ x4 ≤ (-1)) → i1.toInt = (-1) → Q (some (.int i1), S))
    (k5 : ∀ (x5 : Int) (i1 : Int32), 0 ≤ x1 → x1 < 4 → 0 ≤ x2 → x2 < 3 → 0 ≤ x4 → x4 ≤ 16 → rd S 120 2 = x5 → x5 ≠ (-1) → x5 ≠ x2 → (3 ≤ x1 ∧ x1 ≤ 3) → (0 ≤ x2 ∧ x2 ≤ 2) → (0 ≤ x4 ∧ x4 ≤ 16) → (0 ≤ x5 ∧ x5 ≤ 2) → i1.toInt = (-13) → Q (some (.int i1), S))
    (k6 : ∀ (x5 : Int) (L' : am_L) (i1 : Int32) (i2 : Int32), 0 ≤ x1 → x1 < 4 → 0 ≤ x2 → x2 < 3 → 0 ≤ x4 → x4 ≤ 16 → rd S 120 2 = x5 → x5 ≠ (-1) → x5 = x2 → (3 ≤ x1 ∧ x1 ≤ 3) → (0 ≤ x2 ∧ x2 ≤ 2) → (0 ≤ x4 ∧ x4 ≤ 16) → (0 ≤ x5 ∧ x5 ≤ 2) → lc L' 0 0 → li L' 1 3 → li L' 2 x2 → li L' 3 x3 → li L' 4 x4 → li L' 5 0 → i1.toInt = x4 → i2.toInt = x3 → am_V none d 140 61 L' ((.int i1) :: (.int i2) :: (.ref 120) :: (.ref 0) :: []) S Q)
    (k7 : ∀ (x5 : Int) (i1 : Int32), 0 ≤ x1 → x1 < 4 → 0 ≤ x2 → x2 < 3 → 0 ≤ x4 → x4 ≤ 16 → rd S 120 2 = x5 → x5 = (-1) → (3 ≤ x1 ∧ x1 ≤ 3) → (0 ≤ x2 ∧ x2 ≤ 2) → (0 ≤ x4 ∧ x4 ≤ 16) → ((-1) ≤ x5 ∧ x5 ≤ (-1)) → i1.toInt = (-11) → Q (some (.int i1), S))
    (k8 : ∀ (x5 : Int) (i1 : Int32), 0 ≤ x1 → x1 < 4 → 0 ≤ x2 → x2 < 3 → 0 ≤ x4 → x4 ≤ 16 → rd S 118 2 = x5 → x5 ≠ (-1) → x5 ≠ x2 → (2 ≤ x1 ∧ x1 ≤ 2) → (0 ≤ x2 ∧ x2 ≤ 2) → (0 ≤ x4 ∧ x4 ≤ 16) → (0 ≤ x5 ∧ x5 ≤ 2) → i1.toInt = (-13) → Q (some (.int i1), S))
    (k9 : ∀ (x5 : Int) (L' : am_L) (i1 : Int32) (i2 : Int32), 0 ≤ x1 → x1 < 4 → 0 ≤ x2 → x2 < 3 → 0 ≤ x4 → x4 ≤ 16 → rd S 118 2 = x5 → x5 ≠ (-1) → x5 = x2 → (2 ≤ x1 ∧ x1 ≤ 2) → (0 ≤ x2 ∧ x2 ≤ 2) → (0 ≤ x4 ∧ x4 ≤ 16) → (0 ≤ x5 ∧ x5 ≤ 2) → lc L' 0 0 → li L' 1 2 → li L' 2 x2 → li L' 3 x3 → li L' 4 x4 → li L' 5 0 → i1.toInt = x4 → i2.toInt = x3 → am_V none d 140 61 L' ((.int i1) :: (.int i2) :: (.ref 118) :: (.ref 0) :: []) S Q)
    (k10 : ∀ (x5 : Int) (i1 : Int32), 0 ≤ x1 → x1 < 4 → 0 ≤ x2 → x2 < 3 → 0 ≤ x4 → x4 ≤ 16 → rd S 118 2 = x5 → x5 = (-1) → (2 ≤ x1 ∧ x1 ≤ 2) → (0 ≤ x2 ∧ x2 ≤ 2) → (0 ≤ x4 ∧ x4 ≤ 16) → ((-1) ≤ x5 ∧ x5 ≤ (-1)) → i1.toInt = (-11) → Q (some (.int i1), S))
    (k11 : ∀ (x5 : Int) (i1 : Int32), 0 ≤ x1 → x1 < 4 → 0 ≤ x2 → x2 < 3 → 0 ≤ x4 → x4 ≤ 16 → rd S 116 2 = x5 → x5 ≠ (-1) → x5 ≠ x2 → (1 ≤ x1 ∧ x1 ≤ 1) → (0 ≤ x2 ∧ x2 ≤ 2) → (0 ≤ x4 ∧ x4 ≤ 16) → (0 ≤ x5 ∧ x5 ≤ 2) → i1.toInt = (-13) → Q (some (.int i1), S))
    (k12 : ∀ (x5 : Int) (L' : am_L) (i1 : Int32) (i2 : Int32), 0 ≤ x1 → x1 < 4 → 0 ≤ x2 → x2 < 3 → 0 ≤ x4 → x4 ≤ 16 → rd S 116 2 = x5 → x5 ≠ (-1) → x5 = x2 → (1 ≤ x1 ∧ x1 ≤ 1) → (0 ≤ x2 ∧ x2 ≤ 2) → (0 ≤ x4 ∧ x4 ≤ 16) → (0 ≤ x5 ∧ x5 ≤ 2) → lc L' 0 0 → li L' 1 1 → li L' 2 x2 → li L' 3 x3 → li L' 4 x4 → li L' 5 0 → i1.toInt = x4 → i2.toInt = x3 → am_V none d 140 61 L' ((.int i1) :: (.int i2) :: (.ref 116) :: (.ref 0) :: []) S Q)
    (k13 : ∀ (x5 : Int) (i1 : Int32), 0 ≤ x1 → x1 < 4 → 0 ≤ x2 → x2 < 3 → 0 ≤ x4 → x4 ≤ 16 → rd S 116 2 = x5 → x5 = (-1) → (1 ≤ x1 ∧ x1 ≤ 1) → (0 ≤ x2 ∧ x2 ≤ 2) → (0 ≤ x4 ∧ x4 ≤ 16) → ((-1) ≤ x5 ∧ x5 ≤ (-1)) → i1.toInt = (-11) → Q (some (.int i1), S))
    (k14 : ∀ (x5 : Int) (i1 : Int32), 0 ≤ x1 → x1 < 4 → 0 ≤ x2 → x2 < 3 → 0 ≤ x4 → x4 ≤ 16 → rd S 114 2 = x5 → x5 ≠ (-1) → x5 ≠ x2 → (0 ≤ x1 ∧ x1 ≤ 0) → (0 ≤ x2 ∧ x2 ≤ 2) → (0 ≤ x4 ∧ x4 ≤ 16) → (0 ≤ x5 ∧ x5 ≤ 2) → i1.toInt = (-13) → Q (some (.int i1), S))
    (k15 : ∀ (x5 : Int) (L' : am_L) (i1 : Int32) (i2 : Int32), 0 ≤ x1 → x1 < 4 → 0 ≤ x2 → x2 < 3 → 0 ≤ x4 → x4 ≤ 16 → rd S 114 2 = x5 → x5 ≠ (-1) → x5 = x2 → (0 ≤ x1 ∧ x1 ≤ 0) → (0 ≤ x2 ∧ x2 ≤ 2) → (0 ≤ x4 ∧ x4 ≤ 16) → (0 ≤ x5 ∧ x5 ≤ 2) → lc L' 0 0 → li L' 1 0 → li L' 2 x2 → li L' 3 x3 → li L' 4 x4 → li L' 5 0 → i1.toInt = x4 → i2.toInt = x3 → am_V none d 140 61 L' ((.int i1) :: (.int i2) :: (.ref 114) :: (.ref 0) :: []) S Q)
    (k16 : ∀ (x5 : Int) (i1 : Int32), 0 ≤ x1 → x1 < 4 → 0 ≤ x2 → x2 < 3 → 0 ≤ x4 → x4 ≤ 16 → rd S 114 2 = x5 → x5 = (-1) → (0 ≤ x1 ∧ x1 ≤ 0) → (0 ≤ x2 ∧ x2 ≤ 2) → (0 ≤ x4 ∧ x4 ≤ 16) → ((-1) ≤ x5 ∧ x5 ≤ (-1)) → i1.toInt = (-11) → Q (some (.int i1), S))
    (k17 : ∀ (i1 : Int32), 0 ≤ x1 → x1 < 4 → 0 ≤ x2 → x2 < 3 → 0 ≤ x4 → 16 < x4 → (0 ≤ x1 ∧ x1 ≤ 3) → (0 ≤ x2 ∧ x2 ≤ 2) → (17 ≤ x4 ∧ x4 ≤ 2147483647) → i1.toInt = (-1) → Q (some (.int i1), S)) : am_V none d 140 0 L ([]) S Q := by
  refine sg_use sg_sc_x0_g hd hP (sg_xs [0, x1, x2, x3, x4]) ⟨⟨Int.le_refl 0, Int.le_refl 0⟩, b1, b2, b3, b4, trivial⟩ trivial trivial trivial ⟨l0, l1, l2, l3, l4, trivial⟩ trivial ?_
  intro z hz x' L' st' S' hx hP' hW hL' hs' hJ hE' hT' hD'
  have q1 : x' 1 = x1 := hx 1 (by decide)
  subst q1
  have q2 : x' 2 = x2 := hx 2 (by decide)
  subst q2
  have q3 : x' 3 = x3 := hx 3 (by decide)
  subst q3
  have q4 : x' 4 = x4 := hx 4 (by decide)
  subst q4
  have eS : S' = S := hW.1 rfl
  subst eS
  simp only [sg_sc_x0_Z, List.mem_cons, List.not_mem_nil, or_false] at hz
  rcases hz with rfl | rfl | rfl | rfl | rfl | rfl | rfl | rfl | rfl | rfl | rfl | rfl | rfl | rfl | rfl | rfl | rfl | rfl
  · obtain ⟨f0, -, hσ⟩ := hJ
    obtain ⟨e0, -⟩ := hE'
    intro v hv
    subst hv
    cases v with
    | none => exact hs'.elim
    | some v1 =>
      obtain ⟨⟨i1, rfl, g1⟩, -⟩ := hs'
      exact k0 i1 f0 e0 g1
  · obtain ⟨f0, f1, -, hσ⟩ := hJ
    obtain ⟨e0, -⟩ := hE'
    intro v hv
    subst hv
    cases v with
    | none => exact hs'.elim
    | some v1 =>
      obtain ⟨⟨i1, rfl, g1⟩, -⟩ := hs'
      exact k1 i1 f0 f1 e0 g1
  · obtain ⟨f0, f1, -, f3, -, hσ⟩ := hJ
    obtain ⟨e0, e1, -⟩ := hE'
    intro v hv
    subst hv
    cases v with
    | none => exact hs'.elim
    | some v1 =>
      obtain ⟨⟨i1, rfl, g1⟩, -⟩ := hs'
      exact k2 i1 f0 f1 f3 e0 e1 g1
  · obtain ⟨f0, f1, -, f3, f4, -, hσ⟩ := hJ
    obtain ⟨e0, e1, -⟩ := hE'
    intro v hv
    subst hv
    cases v with
    | none => exact hs'.elim
    | some v1 =>
      obtain ⟨⟨i1, rfl, g1⟩, -⟩ := hs'
      exact k3 i1 f0 f1 f3 f4 e0 e1 g1
  · obtain ⟨f0, f1, -, f3, f4, -, f6, hσ⟩ := hJ
    obtain ⟨e0, e1, e2, -⟩ := hE'
    intro v hv
    subst hv
    cases v with
    | none => exact hs'.elim
    | some v1 =>
      obtain ⟨⟨i1, rfl, g1⟩, -⟩ := hs'
      exact k4 i1 f0 f1 f3 f4 f6 e0 e1 e2 g1
  · obtain ⟨f0, f1, -, f3, f4, -, f6, f7, f8, f9, -, -, f12, -, hσ⟩ := hJ
    obtain ⟨e0, e1, e2, e3, -⟩ := hE'
    intro v hv
    subst hv
    cases v with
    | none => exact hs'.elim
    | some v1 =>
      obtain ⟨⟨i1, rfl, g1⟩, -⟩ := hs'
      exact k5 (x' 5) i1 f0 f1 f3 f4 f6 f7 f8 f9 f12 e0 e1 e2 e3 g1
  · obtain ⟨f0, f1, -, f3, f4, -, f6, f7, f8, f9, -, -, f12, -, hσ⟩ := hJ
    obtain ⟨e0, e1, e2, e3, -⟩ := hE'
    obtain ⟨p0, p1, p2, p3, p4, p5, -⟩ := hL'
    obtain ⟨v1, r1, rfl, ⟨i1, rfl, g1⟩, hs1⟩ := sg_tc hs'
    obtain ⟨v2, r2, rfl, ⟨i2, rfl, g2⟩, hs2⟩ := sg_tc hs1
    obtain ⟨v3, r3, rfl, rfl, hs3⟩ := sg_tc hs2
    obtain ⟨v4, r4, rfl, rfl, hs4⟩ := sg_tc hs3
    obtain rfl := sg_tn hs4
    exact k6 (x' 5) L' i1 i2 f0 f1 f3 f4 f6 f7 f8 f9 f12 e0 e1 e2 e3 p0 p1 p2 p3 p4 p5 g1 g2
  · obtain ⟨f0, f1, -, f3, f4, -, f6, f7, f8, f9, -, -, hσ⟩ := hJ
    obtain ⟨e0, e1, e2, e3, -⟩ := hE'
    intro v hv
    subst hv
    cases v with
    | none => exact hs'.elim
    | some v1 =>
      obtain ⟨⟨i1, rfl, g1⟩, -⟩ := hs'
      exact k7 (x' 5) i1 f0 f1 f3 f4 f6 f7 f8 f9 e0 e1 e2 e3 g1
  · obtain ⟨f0, f1, -, f3, f4, -, f6, f7, f8, f9, -, -, f12, -, hσ⟩ := hJ
    obtain ⟨e0, e1, e2, e3, -⟩ := hE'
    intro v hv
    subst hv
    cases v with
    | none => exact hs'.elim
    | some v1 =>
      obtain ⟨⟨i1, rfl, g1⟩, -⟩ := hs'
      exact k8 (x' 5) i1 f0 f1 f3 f4 f6 f7 f8 f9 f12 e0 e1 e2 e3 g1
  · obtain ⟨f0, f1, -, f3, f4, -, f6, f7, f8, f9, -, -, f12, -, hσ⟩ := hJ
    obtain ⟨e0, e1, e2, e3, -⟩ := hE'
    obtain ⟨p0, p1, p2, p3, p4, p5, -⟩ := hL'
    obtain ⟨v1, r1, rfl, ⟨i1, rfl, g1⟩, hs1⟩ := sg_tc hs'
    obtain ⟨v2, r2, rfl, ⟨i2, rfl, g2⟩, hs2⟩ := sg_tc hs1
    obtain ⟨v3, r3, rfl, rfl, hs3⟩ := sg_tc hs2
    obtain ⟨v4, r4, rfl, rfl, hs4⟩ := sg_tc hs3
    obtain rfl := sg_tn hs4
    exact k9 (x' 5) L' i1 i2 f0 f1 f3 f4 f6 f7 f8 f9 f12 e0 e1 e2 e3 p0 p1 p2 p3 p4 p5 g1 g2
  · obtain ⟨f0, f1, -, f3, f4, -, f6, f7, f8, f9, -, -, hσ⟩ := hJ
    obtain ⟨e0, e1, e2, e3, -⟩ := hE'
    intro v hv
    subst hv
    cases v with
    | none => exact hs'.elim
    | some v1 =>
      obtain ⟨⟨i1, rfl, g1⟩, -⟩ := hs'
      exact k10 (x' 5) i1 f0 f1 f3 f4 f6 f7 f8 f9 e0 e1 e2 e3 g1
  · obtain ⟨f0, f1, -, f3, f4, -, f6, f7, f8, f9, -, -, f12, -, hσ⟩ := hJ
    obtain ⟨e0, e1, e2, e3, -⟩ := hE'
    intro v hv
    subst hv
    cases v with
    | none => exact hs'.elim
    | some v1 =>
      obtain ⟨⟨i1, rfl, g1⟩, -⟩ := hs'
      exact k11 (x' 5) i1 f0 f1 f3 f4 f6 f7 f8 f9 f12 e0 e1 e2 e3 g1
  · obtain ⟨f0, f1, -, f3, f4, -, f6, f7, f8, f9, -, -, f12, -, hσ⟩ := hJ
    obtain ⟨e0, e1, e2, e3, -⟩ := hE'
    obtain ⟨p0, p1, p2, p3, p4, p5, -⟩ := hL'
    obtain ⟨v1, r1, rfl, ⟨i1, rfl, g1⟩, hs1⟩ := sg_tc hs'
    obtain ⟨v2, r2, rfl, ⟨i2, rfl, g2⟩, hs2⟩ := sg_tc hs1
    obtain ⟨v3, r3, rfl, rfl, hs3⟩ := sg_tc hs2
    obtain ⟨v4, r4, rfl, rfl, hs4⟩ := sg_tc hs3
    obtain rfl := sg_tn hs4
    exact k12 (x' 5) L' i1 i2 f0 f1 f3 f4 f6 f7 f8 f9 f12 e0 e1 e2 e3 p0 p1 p2 p3 p4 p5 g1 g2
  · obtain ⟨f0, f1, -, f3, f4, -, f6, f7, f8, f9, -, -, hσ⟩ := hJ
    obtain ⟨e0, e1, e2, e3, -⟩ := hE'
    intro v hv
    subst hv
    cases v with
    | none => exact hs'.elim
    | some v1 =>
      obtain ⟨⟨i1, rfl, g1⟩, -⟩ := hs'
      exact k13 (x' 5) i1 f0 f1 f3 f4 f6 f7 f8 f9 e0 e1 e2 e3 g1
  · obtain ⟨f0, f1, -, f3, f4, -, f6, f7, f8, f9, -, -, f12, -, hσ⟩ := hJ
    obtain ⟨e0, e1, e2, e3, -⟩ := hE'
    intro v hv
    subst hv
    cases v with
    | none => exact hs'.elim
    | some v1 =>
      obtain ⟨⟨i1, rfl, g1⟩, -⟩ := hs'
      exact k14 (x' 5) i1 f0 f1 f3 f4 f6 f7 f8 f9 f12 e0 e1 e2 e3 g1
  · obtain ⟨f0, f1, -, f3, f4, -, f6, f7, f8, f9, -, -, f12, -, hσ⟩ := hJ
    obtain ⟨e0, e1, e2, e3, -⟩ := hE'
    obtain ⟨p0, p1, p2, p3, p4, p5, -⟩ := hL'
    obtain ⟨v1, r1, rfl, ⟨i1, rfl, g1⟩, hs1⟩ := sg_tc hs'
    obtain ⟨v2, r2, rfl, ⟨i2, rfl, g2⟩, hs2⟩ := sg_tc hs1
    obtain ⟨v3, r3, rfl, rfl, hs3⟩ := sg_tc hs2
    obtain ⟨v4, r4, rfl, rfl, hs4⟩ := sg_tc hs3
    obtain rfl := sg_tn hs4
    exact k15 (x' 5) L' i1 i2 f0 f1 f3 f4 f6 f7 f8 f9 f12 e0 e1 e2 e3 p0 p1 p2 p3 p4 p5 g1 g2
  · obtain ⟨f0, f1, -, f3, f4, -, f6, f7, f8, f9, -, -, hσ⟩ := hJ
    obtain ⟨e0, e1, e2, e3, -⟩ := hE'
    intro v hv
    subst hv
    cases v with
    | none => exact hs'.elim
    | some v1 =>
      obtain ⟨⟨i1, rfl, g1⟩, -⟩ := hs'
      exact k16 (x' 5) i1 f0 f1 f3 f4 f6 f7 f8 f9 e0 e1 e2 e3 g1
  · obtain ⟨f0, f1, -, f3, f4, -, f6, f7, hσ⟩ := hJ
    obtain ⟨e0, e1, e2, -⟩ := hE'
    intro v hv
    subst hv
    cases v with
    | none => exact hs'.elim
    | some v1 =>
      obtain ⟨⟨i1, rfl, g1⟩, -⟩ := hs'
      exact k17 i1 f0 f1 f3 f4 f6 f7 e0 e1 e2 g1
def sg_sc_x3_Z : List sg_z := [(0, [], [.inl (false, (3, .ofNat 1, .ofNat 0))], [(0, 6, (0, .ofNat 0, .ofNat 0), (3, .ofNat 1, .ofNat 0), (0, .ofNat 0, .ofNat 0)), (2, 3, (2, .ofNat 1, .ofNat 0), (2, .ofNat 1, .ofNat 0), (0, .ofNat 0, .ofNat 0))], [(2, [(.ofNat 0, .ofNat 16)]), (3, [(.ofNat 0, .ofNat 16)])], [], [])]
set_option maxRecDepth 1000000 in
theorem sg_sc_x3_g : sg_go [] [] 3000 140 88 0 3 [(0, [(.ofNat 0, .ofNat 0)]), (1, [(.negSucc 2147483647, .ofNat 2147483647)]), (2, [(.ofNat 0, .ofNat 16)])] [] [] [] [(0, .inr (.inl [0])), (3, .inl (false, (1, .ofNat 1, .ofNat 0))), (8, .inl (false, (2, .ofNat 1, .ofNat 0))), (4, .inl (false, (2, .ofNat 1, .ofNat 0)))] [] [] sg_sc_x3_Z = true := by decide +kernel
theorem sg_sc_x3 {Q : Option Value × am_S → Prop} {d : Nat} {S : am_S} {L : am_L} {x1 x2 : Int} (hd : 0 ≤ d) (hP : ax_P0 none S) (l0 : lc L 0 0) (l3 : li L 3 x1) (l8 : li L 8 x2) (l4 : li L 4 x2) (b1 : ((-2147483648) ≤ x1 ∧ x1 ≤ 2147483647)) (b2 : (0 ≤ x2 ∧ x2 ≤ 16))
    (k0 : ∀ (x3 : Int) (i1 : Int32), x2 ≤ x2 → rd S 6 0 = x3 → (0 ≤ x2 ∧ x2 ≤ 16) → (0 ≤ x3 ∧ x3 ≤ 16) → i1.toInt = x3 → Q (some (.int i1), S)) : am_V none d 140 88 L ([]) S Q := by
  refine sg_use sg_sc_x3_g hd hP (sg_xs [0, x1, x2]) ⟨⟨Int.le_refl 0, Int.le_refl 0⟩, b1, b2, trivial⟩ trivial trivial trivial ⟨l0, l3, l8, l4, trivial⟩ trivial ?_
  intro z hz x' L' st' S' hx hP' hW hL' hs' hJ hE' hT' hD'
  have q1 : x' 1 = x1 := hx 1 (by decide)
  subst q1
  have q2 : x' 2 = x2 := hx 2 (by decide)
  subst q2
  have eS : S' = S := hW.1 rfl
  subst eS
  simp only [sg_sc_x3_Z, List.mem_cons, List.not_mem_nil, or_false] at hz
  rcases hz with rfl
  · obtain ⟨f0, f1, hσ⟩ := hJ
    obtain ⟨e0, e1, -⟩ := hE'
    intro v hv
    subst hv
    cases v with
    | none => exact hs'.elim
    | some v1 =>
      obtain ⟨⟨i1, rfl, g1⟩, -⟩ := hs'
      exact k0 (x' 3) i1 f0 f1 e0 e1 g1
def sg_sc_m0_Z : List sg_z := [(0, [], [.inl (false, (0, .ofNat 0, .negSucc 0))], [(2, 0, (0, .ofNat 0, .ofNat 0), (0, .ofNat 0, .ofNat 0), (0, .ofNat 0, .ofNat 0)), (2, 2, (1, .ofNat 1, .ofNat 0), (0, .ofNat 0, .ofNat 0), (0, .ofNat 0, .ofNat 0))], [(1, [(.negSucc 2147483647, .negSucc 0)])], [], []),
  (0, [], [.inl (false, (0, .ofNat 0, .negSucc 0))], [(2, 0, (0, .ofNat 0, .ofNat 0), (0, .ofNat 0, .ofNat 0), (0, .ofNat 0, .ofNat 0)), (2, 4, (1, .ofNat 1, .ofNat 0), (0, .ofNat 0, .ofNat 3), (0, .ofNat 0, .ofNat 0)), (2, 3, (1, .ofNat 1, .ofNat 0), (0, .ofNat 0, .ofNat 0), (0, .ofNat 0, .ofNat 0))], [(1, [(.ofNat 4, .ofNat 2147483647)])], [], []),
  (0, [], [.inl (false, (0, .ofNat 0, .negSucc 0))], [(2, 0, (0, .ofNat 0, .ofNat 0), (0, .ofNat 0, .ofNat 0), (0, .ofNat 0, .ofNat 0)), (2, 2, (2, .ofNat 1, .ofNat 0), (0, .ofNat 0, .ofNat 0), (0, .ofNat 0, .ofNat 0)), (2, 1, (0, .ofNat 0, .ofNat 1), (0, .ofNat 0, .ofNat 0), (0, .ofNat 0, .ofNat 0)), (2, 5, (1, .ofNat 1, .ofNat 0), (0, .ofNat 0, .ofNat 3), (0, .ofNat 0, .ofNat 0)), (2, 3, (1, .ofNat 1, .ofNat 0), (0, .ofNat 0, .ofNat 0), (0, .ofNat 0, .ofNat 0))], [(1, [(.ofNat 0, .ofNat 3)]), (2, [(.negSucc 2147483647, .negSucc 0)])], [], []),
  (0, [], [.inl (false, (0, .ofNat 0, .negSucc 0))], [(2, 0, (0, .ofNat 0, .ofNat 0), (0, .ofNat 0, .ofNat 0), (0, .ofNat 0, .ofNat 0)), (2, 4, (2, .ofNat 1, .ofNat 0), (0, .ofNat 0, .ofNat 2), (0, .ofNat 0, .ofNat 0)), (2, 3, (2, .ofNat 1, .ofNat 0), (0, .ofNat 0, .ofNat 0), (0, .ofNat 0, .ofNat 0)), (2, 1, (0, .ofNat 0, .ofNat 1), (0, .ofNat 0, .ofNat 0), (0, .ofNat 0, .ofNat 0)), (2, 5, (1, .ofNat 1, .ofNat 0), (0, .ofNat 0, .ofNat 3), (0, .ofNat 0, .ofNat 0)), (2, 3, (1, .ofNat 1, .ofNat 0), (0, .ofNat 0, .ofNat 0), (0, .ofNat 0, .ofNat 0))], [(1, [(.ofNat 0, .ofNat 3)]), (2, [(.ofNat 3, .ofNat 2147483647)])], [], []),
  (0, [], [.inl (false, (0, .ofNat 0, .negSucc 0))], [(2, 0, (0, .ofNat 0, .ofNat 0), (0, .ofNat 0, .ofNat 0), (0, .ofNat 0, .ofNat 0)), (2, 2, (4, .ofNat 1, .ofNat 0), (0, .ofNat 0, .ofNat 0), (0, .ofNat 0, .ofNat 0)), (2, 1, (0, .ofNat 0, .ofNat 1), (0, .ofNat 0, .ofNat 0), (0, .ofNat 0, .ofNat 0)), (2, 5, (2, .ofNat 1, .ofNat 0), (0, .ofNat 0, .ofNat 2), (0, .ofNat 0, .ofNat 0)), (2, 3, (2, .ofNat 1, .ofNat 0), (0, .ofNat 0, .ofNat 0), (0, .ofNat 0, .ofNat 0)), (2, 1, (0, .ofNat 0, .ofNat 1), (0, .ofNat 0, .ofNat 0), (0, .ofNat 0, .ofNat 0)), (2, 5, (1, .ofNat 1, .ofNat 0), (0, .ofNat 0, .ofNat 3), (0, .ofNat 0, .ofNat 0)), (2, 3, (1, .ofNat 1, .ofNat 0), (0, .ofNat 0, .ofNat 0), (0, .ofNat 0, .ofNat 0))], [(1, [(.ofNat 0, .ofNat 3)]), (2, [(.ofNat 0, .ofNat 2)]), (4, [(.negSucc 2147483647, .negSucc 0)])], [], []),
  (0, [], [.inl (false, (0, .ofNat 0, .negSucc 0))], [(2, 0, (0, .ofNat 0, .ofNat 0), (0, .ofNat 0, .ofNat 0), (0, .ofNat 0, .ofNat 0)), (2, 4, (4, .ofNat 1, .ofNat 0), (0, .ofNat 0, .ofNat 16), (0, .ofNat 0, .ofNat 0)), (2, 3, (4, .ofNat 1, .ofNat 0), (0, .ofNat 0, .ofNat 0), (0, .ofNat 0, .ofNat 0)), (2, 1, (0, .ofNat 0, .ofNat 1), (0, .ofNat 0, .ofNat 0), (0, .ofNat 0, .ofNat 0)), (2, 5, (2, .ofNat 1, .ofNat 0), (0, .ofNat 0, .ofNat 2), (0, .ofNat 0, .ofNat 0)), (2, 3, (2, .ofNat 1, .ofNat 0), (0, .ofNat 0, .ofNat 0), (0, .ofNat 0, .ofNat 0)), (2, 1, (0, .ofNat 0, .ofNat 1), (0, .ofNat 0, .ofNat 0), (0, .ofNat 0, .ofNat 0)), (2, 5, (1, .ofNat 1, .ofNat 0), (0, .ofNat 0, .ofNat 3), (0, .ofNat 0, .ofNat 0)), (2, 3, (1, .ofNat 1, .ofNat 0), (0, .ofNat 0, .ofNat 0), (0, .ofNat 0, .ofNat 0))], [(1, [(.ofNat 0, .ofNat 3)]), (2, [(.ofNat 0, .ofNat 2)]), (4, [(.ofNat 17, .ofNat 2147483647)])], [], []),
  (78, [(0, .inr (.inl [122])), (1, .inl (false, (1, .ofNat 1, .ofNat 0))), (2, .inl (false, (2, .ofNat 1, .ofNat 0))), (3, .inl (false, (3, .ofNat 1, .ofNat 0))), (4, .inl (false, (4, .ofNat 1, .ofNat 0))), (5, .inl (false, (6, .ofNat 1, .ofNat 0))), (6, .inl (false, (0, .ofNat 0, .ofNat 0)))], [], [(0, 122, (0, .ofNat 0, .ofNat 5), (6, .ofNat 1, .ofNat 0), (0, .ofNat 0, .ofNat 0)), (2, 0, (5, .ofNat 1, .ofNat 0), (2, .ofNat 1, .ofNat 0), (0, .ofNat 0, .ofNat 0)), (0, 158, (1, .ofNat 1, .ofNat 0), (5, .ofNat 1, .ofNat 0), (0, .ofNat 0, .ofNat 0)), (2, 1, (0, .ofNat 0, .ofNat 1), (0, .ofNat 0, .ofNat 0), (0, .ofNat 0, .ofNat 0)), (2, 5, (4, .ofNat 1, .ofNat 0), (0, .ofNat 0, .ofNat 16), (0, .ofNat 0, .ofNat 0)), (2, 3, (4, .ofNat 1, .ofNat 0), (0, .ofNat 0, .ofNat 0), (0, .ofNat 0, .ofNat 0)), (2, 1, (0, .ofNat 0, .ofNat 1), (0, .ofNat 0, .ofNat 0), (0, .ofNat 0, .ofNat 0)), (2, 5, (2, .ofNat 1, .ofNat 0), (0, .ofNat 0, .ofNat 2), (0, .ofNat 0, .ofNat 0)), (2, 3, (2, .ofNat 1, .ofNat 0), (0, .ofNat 0, .ofNat 0), (0, .ofNat 0, .ofNat 0)), (2, 1, (0, .ofNat 0, .ofNat 1), (0, .ofNat 0, .ofNat 0), (0, .ofNat 0, .ofNat 0)), (2, 5, (1, .ofNat 1, .ofNat 0), (0, .ofNat 0, .ofNat 3), (0, .ofNat 0, .ofNat 0)), (2, 3, (1, .ofNat 1, .ofNat 0), (0, .ofNat 0, .ofNat 0), (0, .ofNat 0, .ofNat 0))], [(1, [(.ofNat 0, .ofNat 3)]), (2, [(.ofNat 0, .ofNat 2)]), (4, [(.ofNat 0, .ofNat 16)]), (5, [(.ofNat 0, .ofNat 2)]), (6, [(.ofNat 0, .ofNat 16)])], [], []),
  (0, [], [.inl (false, (0, .ofNat 0, .negSucc 12))], [(2, 1, (5, .ofNat 1, .ofNat 0), (0, .ofNat 0, .negSucc 3), (0, .ofNat 0, .ofNat 0)), (0, 158, (1, .ofNat 1, .ofNat 0), (5, .ofNat 1, .ofNat 0), (0, .ofNat 0, .ofNat 0)), (2, 1, (5, .ofNat 1, .ofNat 0), (2, .ofNat 1, .ofNat 0), (0, .ofNat 0, .ofNat 0)), (0, 158, (1, .ofNat 1, .ofNat 0), (5, .ofNat 1, .ofNat 0), (0, .ofNat 0, .ofNat 0)), (2, 1, (0, .ofNat 0, .ofNat 1), (0, .ofNat 0, .ofNat 0), (0, .ofNat 0, .ofNat 0)), (2, 5, (4, .ofNat 1, .ofNat 0), (0, .ofNat 0, .ofNat 16), (0, .ofNat 0, .ofNat 0)), (2, 3, (4, .ofNat 1, .ofNat 0), (0, .ofNat 0, .ofNat 0), (0, .ofNat 0, .ofNat 0)), (2, 1, (0, .ofNat 0, .ofNat 1), (0, .ofNat 0, .ofNat 0), (0, .ofNat 0, .ofNat 0)), (2, 5, (2, .ofNat 1, .ofNat 0), (0, .ofNat 0, .ofNat 2), (0, .ofNat 0, .ofNat 0)), (2, 3, (2, .ofNat 1, .ofNat 0), (0, .ofNat 0, .ofNat 0), (0, .ofNat 0, .ofNat 0)), (2, 1, (0, .ofNat 0, .ofNat 1), (0, .ofNat 0, .ofNat 0), (0, .ofNat 0, .ofNat 0)), (2, 5, (1, .ofNat 1, .ofNat 0), (0, .ofNat 0, .ofNat 3), (0, .ofNat 0, .ofNat 0)), (2, 3, (1, .ofNat 1, .ofNat 0), (0, .ofNat 0, .ofNat 0), (0, .ofNat 0, .ofNat 0))], [(1, [(.ofNat 0, .ofNat 3)]), (2, [(.ofNat 0, .ofNat 2)]), (4, [(.ofNat 0, .ofNat 16)]), (5, [(.ofNat 0, .ofNat 2)])], [], []),
  (0, [], [.inl (false, (0, .ofNat 0, .negSucc 10))], [(2, 0, (5, .ofNat 1, .ofNat 0), (0, .ofNat 0, .negSucc 3), (0, .ofNat 0, .ofNat 0)), (0, 158, (1, .ofNat 1, .ofNat 0), (5, .ofNat 1, .ofNat 0), (0, .ofNat 0, .ofNat 0)), (2, 1, (5, .ofNat 1, .ofNat 0), (2, .ofNat 1, .ofNat 0), (0, .ofNat 0, .ofNat 0)), (0, 158, (1, .ofNat 1, .ofNat 0), (5, .ofNat 1, .ofNat 0), (0, .ofNat 0, .ofNat 0)), (2, 1, (0, .ofNat 0, .ofNat 1), (0, .ofNat 0, .ofNat 0), (0, .ofNat 0, .ofNat 0)), (2, 5, (4, .ofNat 1, .ofNat 0), (0, .ofNat 0, .ofNat 16), (0, .ofNat 0, .ofNat 0)), (2, 3, (4, .ofNat 1, .ofNat 0), (0, .ofNat 0, .ofNat 0), (0, .ofNat 0, .ofNat 0)), (2, 1, (0, .ofNat 0, .ofNat 1), (0, .ofNat 0, .ofNat 0), (0, .ofNat 0, .ofNat 0)), (2, 5, (2, .ofNat 1, .ofNat 0), (0, .ofNat 0, .ofNat 2), (0, .ofNat 0, .ofNat 0)), (2, 3, (2, .ofNat 1, .ofNat 0), (0, .ofNat 0, .ofNat 0), (0, .ofNat 0, .ofNat 0)), (2, 1, (0, .ofNat 0, .ofNat 1), (0, .ofNat 0, .ofNat 0), (0, .ofNat 0, .ofNat 0)), (2, 5, (1, .ofNat 1, .ofNat 0), (0, .ofNat 0, .ofNat 3), (0, .ofNat 0, .ofNat 0)), (2, 3, (1, .ofNat 1, .ofNat 0), (0, .ofNat 0, .ofNat 0), (0, .ofNat 0, .ofNat 0))], [(1, [(.ofNat 0, .ofNat 3)]), (2, [(.ofNat 0, .ofNat 2)]), (4, [(.ofNat 0, .ofNat 16)]), (5, [(.negSucc 3, .negSucc 3)])], [], [])]
set_option maxRecDepth 1000000 in
theorem sg_sc_m0_g : sg_go [] [77] 3000 249 0 1 5 [(0, [(.ofNat 0, .ofNat 0)]), (1, [(.negSucc 2147483647, .ofNat 2147483647)]), (2, [(.negSucc 2147483647, .ofNat 2147483647)]), (3, [(.negSucc 2147483647, .ofNat 2147483647)]), (4, [(.negSucc 2147483647, .ofNat 2147483647)])] [] [] [] [(0, .inr (.inl [122])), (1, .inl (false, (1, .ofNat 1, .ofNat 0))), (2, .inl (false, (2, .ofNat 1, .ofNat 0))), (3, .inl (false, (3, .ofNat 1, .ofNat 0))), (4, .inl (false, (4, .ofNat 1, .ofNat 0)))] [] [] sg_sc_m0_Z = true := by decide +kernel
theorem sg_sc_m0 {Q : Option Value × am_S → Prop} {d : Nat} {S : am_S} {L : am_L} {x1 x2 x3 x4 : Int} (hd : 1 ≤ d) (hP : ax_P0 none S) (l0 : lc L 0 122) (l1 : li L 1 x1) (l2 : li L 2 x2) (l3 : li L 3 x3) (l4 : li L 4 x4) (b1 : ((-2147483648) ≤ x1 ∧ x1 ≤ 2147483647)) (b2 : ((-2147483648) ≤ x2 ∧ x2 ≤ 2147483647)) (b3 : ((-2147483648) ≤ x3 ∧ x3 ≤ 2147483647)) (b4 : ((-2147483648) ≤ x4 ∧ x4 ≤ 2147483647))
    (k0 : ∀ (i1 : Int32), x1 < 0 → ((-2147483648) ≤ x1 ∧ x1 ≤ (-1)) → i1.toInt = (-1) → Q (some (.int i1), S))
    (k1 : ∀ (i1 : Int32), 0 ≤ x1 → 3 < x1 → (4 ≤ x1 ∧ x1 ≤ 2147483647) → i1.toInt = (-1) → Q (some (.int i1), S))
    (k2 : ∀ (i1 : Int32), 0 ≤ x1 → x1 ≤ 3 → x2 < 0 → (0 ≤ x1 ∧ x1 ≤ 3) → ((-2147483648) ≤ x2 ∧ x2 ≤ (-1)) → i1.toInt = (-1) → Q (some (.int i1), S))
    (k3 : ∀ (i1 : Int32), 0 ≤ x1 → x1 ≤ 3 → 0 ≤ x2 → 2 < x2 → (0 ≤ x1 ∧ x1 ≤ 3) → (3 ≤ x2 ∧ x2 ≤ 2147483647) → i1.toInt = (-1) → Q (some (.int i1), S))
    (k4 : ∀ (i1 : Int32), 0 ≤ x1 → x1 ≤ 3 → 0 ≤ x2 → x2 ≤ 2 → x4 < 0 → (0 ≤ x1 ∧ x1 ≤ 3) → (0 ≤ x2 ∧ x2 ≤ 2) → ((-2147483648) ≤ x4 ∧ x4 ≤ (-1)) → i1.toInt = (-1) → Q (some (.int i1), S))
    (k5 : ∀ (i1 : Int32), 0 ≤ x1 → x1 ≤ 3 → 0 ≤ x2 → x2 ≤ 2 → 0 ≤ x4 → 16 < x4 → (0 ≤ x1 ∧ x1 ≤ 3) → (0 ≤ x2 ∧ x2 ≤ 2) → (17 ≤ x4 ∧ x4 ≤ 2147483647) → i1.toInt = (-1) → Q (some (.int i1), S))
    (k6 : ∀ (x5 x6 : Int) (L' : am_L), 0 ≤ x1 → x1 ≤ 3 → 0 ≤ x2 → x2 ≤ 2 → 0 ≤ x4 → x4 ≤ 16 → rd S 158 x1 = x5 → x5 = x2 → rd S 122 5 = x6 → (0 ≤ x1 ∧ x1 ≤ 3) → (0 ≤ x2 ∧ x2 ≤ 2) → (0 ≤ x4 ∧ x4 ≤ 16) → (0 ≤ x5 ∧ x5 ≤ 2) → (0 ≤ x6 ∧ x6 ≤ 16) → lc L' 0 122 → li L' 1 x1 → li L' 2 x2 → li L' 3 x3 → li L' 4 x4 → li L' 5 x6 → li L' 6 0 → am_V none d 249 77 L' ([]) S Q)
    (k7 : ∀ (x5 : Int) (i1 : Int32), 0 ≤ x1 → x1 ≤ 3 → 0 ≤ x2 → x2 ≤ 2 → 0 ≤ x4 → x4 ≤ 16 → rd S 158 x1 = x5 → x5 ≠ x2 → x5 ≠ (-4) → (0 ≤ x1 ∧ x1 ≤ 3) → (0 ≤ x2 ∧ x2 ≤ 2) → (0 ≤ x4 ∧ x4 ≤ 16) → (0 ≤ x5 ∧ x5 ≤ 2) → i1.toInt = (-13) → Q (some (.int i1), S))
    (k8 : ∀ (x5 : Int) (i1 : Int32), 0 ≤ x1 → x1 ≤ 3 → 0 ≤ x2 → x2 ≤ 2 → 0 ≤ x4 → x4 ≤ 16 → rd S 158 x1 = x5 → x5 ≠ x2 → x5 = (-4) → (0 ≤ x1 ∧ x1 ≤ 3) → (0 ≤ x2 ∧ x2 ≤ 2) → (0 ≤ x4 ∧ x4 ≤ 16) → ((-4) ≤ x5 ∧ x5 ≤ (-4)) → i1.toInt = (-11) → Q (some (.int i1), S)) : am_V none d 249 0 L ([]) S Q := by
  refine sg_use sg_sc_m0_g hd hP (sg_xs [0, x1, x2, x3, x4]) ⟨⟨Int.le_refl 0, Int.le_refl 0⟩, b1, b2, b3, b4, trivial⟩ trivial trivial trivial ⟨l0, l1, l2, l3, l4, trivial⟩ trivial ?_
  intro z hz x' L' st' S' hx hP' hW hL' hs' hJ hE' hT' hD'
  have q1 : x' 1 = x1 := hx 1 (by decide)
  subst q1
  have q2 : x' 2 = x2 := hx 2 (by decide)
  subst q2
  have q3 : x' 3 = x3 := hx 3 (by decide)
  subst q3
  have q4 : x' 4 = x4 := hx 4 (by decide)
  subst q4
  have eS : S' = S := hW.1 rfl
  subst eS
  simp only [sg_sc_m0_Z, List.mem_cons, List.not_mem_nil, or_false] at hz
  rcases hz with rfl | rfl | rfl | rfl | rfl | rfl | rfl | rfl | rfl
  · obtain ⟨f0, -, hσ⟩ := hJ
    obtain ⟨e0, -⟩ := hE'
    intro v hv
    subst hv
    cases v with
    | none => exact hs'.elim
    | some v1 =>
      obtain ⟨⟨i1, rfl, g1⟩, -⟩ := hs'
      exact k0 i1 f0 e0 g1
  · obtain ⟨f0, f1, -, hσ⟩ := hJ
    obtain ⟨e0, -⟩ := hE'
    intro v hv
    subst hv
    cases v with
    | none => exact hs'.elim
    | some v1 =>
      obtain ⟨⟨i1, rfl, g1⟩, -⟩ := hs'
      exact k1 i1 f0 f1 e0 g1
  · obtain ⟨f0, f1, -, f3, -, hσ⟩ := hJ
    obtain ⟨e0, e1, -⟩ := hE'
    intro v hv
    subst hv
    cases v with
    | none => exact hs'.elim
    | some v1 =>
      obtain ⟨⟨i1, rfl, g1⟩, -⟩ := hs'
      exact k2 i1 f0 f1 f3 e0 e1 g1
  · obtain ⟨f0, f1, -, f3, f4, -, hσ⟩ := hJ
    obtain ⟨e0, e1, -⟩ := hE'
    intro v hv
    subst hv
    cases v with
    | none => exact hs'.elim
    | some v1 =>
      obtain ⟨⟨i1, rfl, g1⟩, -⟩ := hs'
      exact k3 i1 f0 f1 f3 f4 e0 e1 g1
  · obtain ⟨f0, f1, -, f3, f4, -, f6, -, hσ⟩ := hJ
    obtain ⟨e0, e1, e2, -⟩ := hE'
    intro v hv
    subst hv
    cases v with
    | none => exact hs'.elim
    | some v1 =>
      obtain ⟨⟨i1, rfl, g1⟩, -⟩ := hs'
      exact k4 i1 f0 f1 f3 f4 f6 e0 e1 e2 g1
  · obtain ⟨f0, f1, -, f3, f4, -, f6, f7, -, hσ⟩ := hJ
    obtain ⟨e0, e1, e2, -⟩ := hE'
    intro v hv
    subst hv
    cases v with
    | none => exact hs'.elim
    | some v1 =>
      obtain ⟨⟨i1, rfl, g1⟩, -⟩ := hs'
      exact k5 i1 f0 f1 f3 f4 f6 f7 e0 e1 e2 g1
  · obtain ⟨f0, f1, -, f3, f4, -, f6, f7, -, f9, f10, f11, hσ⟩ := hJ
    obtain ⟨e0, e1, e2, e3, e4, -⟩ := hE'
    obtain ⟨p0, p1, p2, p3, p4, p5, p6, -⟩ := hL'
    obtain rfl := sg_tn hs'
    exact k6 (x' 5) (x' 6) L' f0 f1 f3 f4 f6 f7 f9 f10 f11 e0 e1 e2 e3 e4 p0 p1 p2 p3 p4 p5 p6
  · obtain ⟨f0, f1, -, f3, f4, -, f6, f7, -, f9, f10, -, f12, hσ⟩ := hJ
    obtain ⟨e0, e1, e2, e3, -⟩ := hE'
    intro v hv
    subst hv
    cases v with
    | none => exact hs'.elim
    | some v1 =>
      obtain ⟨⟨i1, rfl, g1⟩, -⟩ := hs'
      exact k7 (x' 5) i1 f0 f1 f3 f4 f6 f7 f9 f10 f12 e0 e1 e2 e3 g1
  · obtain ⟨f0, f1, -, f3, f4, -, f6, f7, -, f9, f10, -, f12, hσ⟩ := hJ
    obtain ⟨e0, e1, e2, e3, -⟩ := hE'
    intro v hv
    subst hv
    cases v with
    | none => exact hs'.elim
    | some v1 =>
      obtain ⟨⟨i1, rfl, g1⟩, -⟩ := hs'
      exact k8 (x' 5) i1 f0 f1 f3 f4 f6 f7 f9 f10 f12 e0 e1 e2 e3 g1
def sg_sc_m1_Z : List sg_z := [(0, [], [.inl (false, (6, .ofNat 1, .ofNat 0))], [(0, 122, (0, .ofNat 0, .ofNat 5), (6, .ofNat 1, .ofNat 0), (0, .ofNat 0, .ofNat 0)), (2, 3, (5, .ofNat 1, .ofNat 0), (3, .ofNat 1, .ofNat 0), (0, .ofNat 0, .ofNat 0))], [(1, [(.ofNat 0, .ofNat 3)]), (3, [(.ofNat 0, .ofNat 16)]), (4, [(.ofNat 0, .ofNat 16)]), (5, [(.ofNat 0, .ofNat 16)]), (6, [(.ofNat 0, .ofNat 16)])], [], []),
  (0, [], [.inl (false, (0, .ofNat 0, .negSucc 11))], [(1, 122, (0, .ofNat 0, .ofNat 5), (4, .ofNat 1, .ofNat 0), (0, .ofNat 0, .ofNat 0)), (2, 2, (0, .ofNat 0, .negSucc 11), (0, .ofNat 0, .ofNat 0), (0, .ofNat 0, .ofNat 0)), (2, 0, (0, .ofNat 0, .ofNat 0), (0, .ofNat 0, .ofNat 0), (0, .ofNat 0, .ofNat 0)), (2, 2, (6, .ofNat 1, .ofNat 0), (0, .ofNat 0, .ofNat 0), (0, .ofNat 0, .ofNat 0)), (0, 159, (1, .ofNat 1, .ofNat 0), (7, .ofNat 1, .ofNat 0), (0, .ofNat 0, .ofNat 0)), (2, 2, (5, .ofNat 1, .ofNat 0), (3, .ofNat 1, .ofNat 0), (0, .ofNat 0, .ofNat 0))], [(1, [(.ofNat 0, .ofNat 3)]), (3, [(.ofNat 1, .ofNat 16)]), (4, [(.ofNat 0, .ofNat 16)]), (5, [(.ofNat 0, .ofNat 15)]), (6, [(.negSucc 2147483647, .negSucc 0)]), (7, [(.ofNat 0, .ofNat 60)])], [((2, .ofNat 1, .ofNat 0), (5, .ofNat 3, .ofNat 0), (6, .ofNat 1, .ofNat 0))], []),
  (0, [], [.inl (false, (0, .ofNat 0, .negSucc 11))], [(1, 122, (0, .ofNat 0, .ofNat 5), (4, .ofNat 1, .ofNat 0), (0, .ofNat 0, .ofNat 0)), (2, 2, (0, .ofNat 0, .negSucc 11), (0, .ofNat 0, .ofNat 0), (0, .ofNat 0, .ofNat 0)), (2, 0, (0, .ofNat 0, .ofNat 0), (0, .ofNat 0, .ofNat 0), (0, .ofNat 0, .ofNat 0)), (2, 4, (6, .ofNat 1, .ofNat 0), (7, .ofNat 1, .negSucc 2), (0, .ofNat 0, .ofNat 0)), (2, 3, (6, .ofNat 1, .ofNat 0), (0, .ofNat 0, .ofNat 0), (0, .ofNat 0, .ofNat 0)), (0, 159, (1, .ofNat 1, .ofNat 0), (7, .ofNat 1, .ofNat 0), (0, .ofNat 0, .ofNat 0)), (2, 2, (5, .ofNat 1, .ofNat 0), (3, .ofNat 1, .ofNat 0), (0, .ofNat 0, .ofNat 0))], [(1, [(.ofNat 0, .ofNat 3)]), (3, [(.ofNat 1, .ofNat 16)]), (4, [(.ofNat 0, .ofNat 16)]), (5, [(.ofNat 0, .ofNat 15)]), (6, [(.ofNat 0, .ofNat 2147483692)]), (7, [(.ofNat 0, .ofNat 60)])], [((2, .ofNat 1, .ofNat 0), (5, .ofNat 3, .ofNat 0), (6, .ofNat 1, .ofNat 0))], []),
  (0, [], [.inl (false, (0, .ofNat 0, .negSucc 20))], [(1, 122, (0, .ofNat 0, .ofNat 5), (4, .ofNat 1, .ofNat 0), (0, .ofNat 0, .ofNat 0)), (2, 2, (0, .ofNat 0, .negSucc 20), (0, .ofNat 0, .ofNat 0), (0, .ofNat 0, .ofNat 0)), (2, 2, (0, .ofNat 0, .negSucc 0), (0, .ofNat 0, .ofNat 0), (0, .ofNat 0, .ofNat 0)), (2, 0, (0, .ofNat 0, .ofNat 0), (0, .ofNat 0, .ofNat 0), (0, .ofNat 0, .ofNat 0)), (2, 2, (9, .ofNat 1, .ofNat 0), (0, .ofNat 0, .ofNat 1), (0, .ofNat 0, .ofNat 0)), (0, 160, (8, .ofNat 1, .ofNat 2), (11, .ofNat 1, .ofNat 0), (0, .ofNat 0, .ofNat 0)), (0, 160, (8, .ofNat 1, .ofNat 1), (10, .ofNat 1, .ofNat 0), (0, .ofNat 0, .ofNat 0)), (0, 160, (8, .ofNat 1, .ofNat 0), (9, .ofNat 1, .ofNat 0), (0, .ofNat 0, .ofNat 0)), (2, 1, (0, .ofNat 0, .ofNat 1), (0, .ofNat 0, .ofNat 0), (0, .ofNat 0, .ofNat 0)), (2, 5, (6, .ofNat 1, .ofNat 0), (7, .ofNat 1, .negSucc 2), (0, .ofNat 0, .ofNat 0)), (2, 3, (6, .ofNat 1, .ofNat 0), (0, .ofNat 0, .ofNat 0), (0, .ofNat 0, .ofNat 0)), (0, 159, (1, .ofNat 1, .ofNat 0), (7, .ofNat 1, .ofNat 0), (0, .ofNat 0, .ofNat 0)), (2, 2, (5, .ofNat 1, .ofNat 0), (3, .ofNat 1, .ofNat 0), (0, .ofNat 0, .ofNat 0))], [(1, [(.ofNat 0, .ofNat 3)]), (3, [(.ofNat 1, .ofNat 16)]), (4, [(.ofNat 0, .ofNat 16)]), (5, [(.ofNat 0, .ofNat 15)]), (6, [(.ofNat 0, .ofNat 57)]), (7, [(.ofNat 3, .ofNat 60)]), (8, [(.ofNat 0, .ofNat 237)]), (9, [(.negSucc 2147483647, .ofNat 0)])], [((1, .ofNat 60, .ofNat 0), (6, .ofNat 1, .ofNat 0), (8, .ofNat 1, .ofNat 0)), ((2, .ofNat 1, .ofNat 0), (5, .ofNat 3, .ofNat 0), (6, .ofNat 1, .ofNat 0))], []),
  (0, [], [.inl (false, (0, .ofNat 0, .negSucc 20))], [(1, 122, (0, .ofNat 0, .ofNat 5), (4, .ofNat 1, .ofNat 0), (0, .ofNat 0, .ofNat 0)), (2, 2, (0, .ofNat 0, .negSucc 20), (0, .ofNat 0, .ofNat 0), (0, .ofNat 0, .ofNat 0)), (2, 2, (0, .ofNat 0, .negSucc 0), (0, .ofNat 0, .ofNat 0), (0, .ofNat 0, .ofNat 0)), (2, 0, (0, .ofNat 0, .ofNat 0), (0, .ofNat 0, .ofNat 0), (0, .ofNat 0, .ofNat 0)), (2, 4, (9, .ofNat 1, .ofNat 0), (0, .ofNat 0, .ofNat 1000000), (0, .ofNat 0, .ofNat 0)), (2, 3, (9, .ofNat 1, .ofNat 0), (0, .ofNat 0, .ofNat 1), (0, .ofNat 0, .ofNat 0)), (0, 160, (8, .ofNat 1, .ofNat 2), (11, .ofNat 1, .ofNat 0), (0, .ofNat 0, .ofNat 0)), (0, 160, (8, .ofNat 1, .ofNat 1), (10, .ofNat 1, .ofNat 0), (0, .ofNat 0, .ofNat 0)), (0, 160, (8, .ofNat 1, .ofNat 0), (9, .ofNat 1, .ofNat 0), (0, .ofNat 0, .ofNat 0)), (2, 1, (0, .ofNat 0, .ofNat 1), (0, .ofNat 0, .ofNat 0), (0, .ofNat 0, .ofNat 0)), (2, 5, (6, .ofNat 1, .ofNat 0), (7, .ofNat 1, .negSucc 2), (0, .ofNat 0, .ofNat 0)), (2, 3, (6, .ofNat 1, .ofNat 0), (0, .ofNat 0, .ofNat 0), (0, .ofNat 0, .ofNat 0)), (0, 159, (1, .ofNat 1, .ofNat 0), (7, .ofNat 1, .ofNat 0), (0, .ofNat 0, .ofNat 0)), (2, 2, (5, .ofNat 1, .ofNat 0), (3, .ofNat 1, .ofNat 0), (0, .ofNat 0, .ofNat 0))], [(1, [(.ofNat 0, .ofNat 3)]), (3, [(.ofNat 1, .ofNat 16)]), (4, [(.ofNat 0, .ofNat 16)]), (5, [(.ofNat 0, .ofNat 15)]), (6, [(.ofNat 0, .ofNat 57)]), (7, [(.ofNat 3, .ofNat 60)]), (8, [(.ofNat 0, .ofNat 237)]), (9, [(.ofNat 1000001, .ofNat 2147483647)])], [((1, .ofNat 60, .ofNat 0), (6, .ofNat 1, .ofNat 0), (8, .ofNat 1, .ofNat 0)), ((2, .ofNat 1, .ofNat 0), (5, .ofNat 3, .ofNat 0), (6, .ofNat 1, .ofNat 0))], []),
  (0, [], [.inl (false, (0, .ofNat 0, .negSucc 20))], [(1, 122, (0, .ofNat 0, .ofNat 5), (4, .ofNat 1, .ofNat 0), (0, .ofNat 0, .ofNat 0)), (2, 2, (0, .ofNat 0, .negSucc 20), (0, .ofNat 0, .ofNat 0), (0, .ofNat 0, .ofNat 0)), (2, 2, (0, .ofNat 0, .negSucc 0), (0, .ofNat 0, .ofNat 0), (0, .ofNat 0, .ofNat 0)), (2, 0, (0, .ofNat 0, .ofNat 0), (0, .ofNat 0, .ofNat 0), (0, .ofNat 0, .ofNat 0)), (2, 2, (10, .ofNat 1, .ofNat 0), (0, .ofNat 0, .ofNat 0), (0, .ofNat 0, .ofNat 0)), (2, 1, (0, .ofNat 0, .ofNat 1), (0, .ofNat 0, .ofNat 0), (0, .ofNat 0, .ofNat 0)), (2, 5, (9, .ofNat 1, .ofNat 0), (0, .ofNat 0, .ofNat 1000000), (0, .ofNat 0, .ofNat 0)), (2, 3, (9, .ofNat 1, .ofNat 0), (0, .ofNat 0, .ofNat 1), (0, .ofNat 0, .ofNat 0)), (0, 160, (8, .ofNat 1, .ofNat 2), (11, .ofNat 1, .ofNat 0), (0, .ofNat 0, .ofNat 0)), (0, 160, (8, .ofNat 1, .ofNat 1), (10, .ofNat 1, .ofNat 0), (0, .ofNat 0, .ofNat 0)), (0, 160, (8, .ofNat 1, .ofNat 0), (9, .ofNat 1, .ofNat 0), (0, .ofNat 0, .ofNat 0)), (2, 1, (0, .ofNat 0, .ofNat 1), (0, .ofNat 0, .ofNat 0), (0, .ofNat 0, .ofNat 0)), (2, 5, (6, .ofNat 1, .ofNat 0), (7, .ofNat 1, .negSucc 2), (0, .ofNat 0, .ofNat 0)), (2, 3, (6, .ofNat 1, .ofNat 0), (0, .ofNat 0, .ofNat 0), (0, .ofNat 0, .ofNat 0)), (0, 159, (1, .ofNat 1, .ofNat 0), (7, .ofNat 1, .ofNat 0), (0, .ofNat 0, .ofNat 0)), (2, 2, (5, .ofNat 1, .ofNat 0), (3, .ofNat 1, .ofNat 0), (0, .ofNat 0, .ofNat 0))], [(1, [(.ofNat 0, .ofNat 3)]), (3, [(.ofNat 1, .ofNat 16)]), (4, [(.ofNat 0, .ofNat 16)]), (5, [(.ofNat 0, .ofNat 15)]), (6, [(.ofNat 0, .ofNat 57)]), (7, [(.ofNat 3, .ofNat 60)]), (8, [(.ofNat 0, .ofNat 237)]), (9, [(.ofNat 1, .ofNat 1000000)]), (10, [(.negSucc 2147483647, .negSucc 0)])], [((1, .ofNat 60, .ofNat 0), (6, .ofNat 1, .ofNat 0), (8, .ofNat 1, .ofNat 0)), ((2, .ofNat 1, .ofNat 0), (5, .ofNat 3, .ofNat 0), (6, .ofNat 1, .ofNat 0))], []),
  (0, [], [.inl (false, (0, .ofNat 0, .negSucc 20))], [(1, 122, (0, .ofNat 0, .ofNat 5), (4, .ofNat 1, .ofNat 0), (0, .ofNat 0, .ofNat 0)), (2, 2, (0, .ofNat 0, .negSucc 20), (0, .ofNat 0, .ofNat 0), (0, .ofNat 0, .ofNat 0)), (2, 2, (0, .ofNat 0, .negSucc 0), (0, .ofNat 0, .ofNat 0), (0, .ofNat 0, .ofNat 0)), (2, 0, (0, .ofNat 0, .ofNat 0), (0, .ofNat 0, .ofNat 0), (0, .ofNat 0, .ofNat 0)), (2, 4, (10, .ofNat 1, .ofNat 0), (0, .ofNat 0, .ofNat 1000), (0, .ofNat 0, .ofNat 0)), (2, 3, (10, .ofNat 1, .ofNat 0), (0, .ofNat 0, .ofNat 0), (0, .ofNat 0, .ofNat 0)), (2, 1, (0, .ofNat 0, .ofNat 1), (0, .ofNat 0, .ofNat 0), (0, .ofNat 0, .ofNat 0)), (2, 5, (9, .ofNat 1, .ofNat 0), (0, .ofNat 0, .ofNat 1000000), (0, .ofNat 0, .ofNat 0)), (2, 3, (9, .ofNat 1, .ofNat 0), (0, .ofNat 0, .ofNat 1), (0, .ofNat 0, .ofNat 0)), (0, 160, (8, .ofNat 1, .ofNat 2), (11, .ofNat 1, .ofNat 0), (0, .ofNat 0, .ofNat 0)), (0, 160, (8, .ofNat 1, .ofNat 1), (10, .ofNat 1, .ofNat 0), (0, .ofNat 0, .ofNat 0)), (0, 160, (8, .ofNat 1, .ofNat 0), (9, .ofNat 1, .ofNat 0), (0, .ofNat 0, .ofNat 0)), (2, 1, (0, .ofNat 0, .ofNat 1), (0, .ofNat 0, .ofNat 0), (0, .ofNat 0, .ofNat 0)), (2, 5, (6, .ofNat 1, .ofNat 0), (7, .ofNat 1, .negSucc 2), (0, .ofNat 0, .ofNat 0)), (2, 3, (6, .ofNat 1, .ofNat 0), (0, .ofNat 0, .ofNat 0), (0, .ofNat 0, .ofNat 0)), (0, 159, (1, .ofNat 1, .ofNat 0), (7, .ofNat 1, .ofNat 0), (0, .ofNat 0, .ofNat 0)), (2, 2, (5, .ofNat 1, .ofNat 0), (3, .ofNat 1, .ofNat 0), (0, .ofNat 0, .ofNat 0))], [(1, [(.ofNat 0, .ofNat 3)]), (3, [(.ofNat 1, .ofNat 16)]), (4, [(.ofNat 0, .ofNat 16)]), (5, [(.ofNat 0, .ofNat 15)]), (6, [(.ofNat 0, .ofNat 57)]), (7, [(.ofNat 3, .ofNat 60)]), (8, [(.ofNat 0, .ofNat 237)]), (9, [(.ofNat 1, .ofNat 1000000)]), (10, [(.ofNat 1001, .ofNat 2147483647)])], [((1, .ofNat 60, .ofNat 0), (6, .ofNat 1, .ofNat 0), (8, .ofNat 1, .ofNat 0)), ((2, .ofNat 1, .ofNat 0), (5, .ofNat 3, .ofNat 0), (6, .ofNat 1, .ofNat 0))], []),
  (0, [], [.inl (false, (0, .ofNat 0, .negSucc 20))], [(1, 122, (0, .ofNat 0, .ofNat 5), (4, .ofNat 1, .ofNat 0), (0, .ofNat 0, .ofNat 0)), (2, 2, (0, .ofNat 0, .negSucc 20), (0, .ofNat 0, .ofNat 0), (0, .ofNat 0, .ofNat 0)), (2, 2, (0, .ofNat 0, .negSucc 0), (0, .ofNat 0, .ofNat 0), (0, .ofNat 0, .ofNat 0)), (2, 0, (0, .ofNat 0, .ofNat 0), (0, .ofNat 0, .ofNat 0), (0, .ofNat 0, .ofNat 0)), (2, 2, (11, .ofNat 1, .ofNat 0), (0, .ofNat 0, .ofNat 0), (0, .ofNat 0, .ofNat 0)), (2, 1, (0, .ofNat 0, .ofNat 1), (0, .ofNat 0, .ofNat 0), (0, .ofNat 0, .ofNat 0)), (2, 5, (10, .ofNat 1, .ofNat 0), (0, .ofNat 0, .ofNat 1000), (0, .ofNat 0, .ofNat 0)), (2, 3, (10, .ofNat 1, .ofNat 0), (0, .ofNat 0, .ofNat 0), (0, .ofNat 0, .ofNat 0)), (2, 1, (0, .ofNat 0, .ofNat 1), (0, .ofNat 0, .ofNat 0), (0, .ofNat 0, .ofNat 0)), (2, 5, (9, .ofNat 1, .ofNat 0), (0, .ofNat 0, .ofNat 1000000), (0, .ofNat 0, .ofNat 0)), (2, 3, (9, .ofNat 1, .ofNat 0), (0, .ofNat 0, .ofNat 1), (0, .ofNat 0, .ofNat 0)), (0, 160, (8, .ofNat 1, .ofNat 2), (11, .ofNat 1, .ofNat 0), (0, .ofNat 0, .ofNat 0)), (0, 160, (8, .ofNat 1, .ofNat 1), (10, .ofNat 1, .ofNat 0), (0, .ofNat 0, .ofNat 0)), (0, 160, (8, .ofNat 1, .ofNat 0), (9, .ofNat 1, .ofNat 0), (0, .ofNat 0, .ofNat 0)), (2, 1, (0, .ofNat 0, .ofNat 1), (0, .ofNat 0, .ofNat 0), (0, .ofNat 0, .ofNat 0)), (2, 5, (6, .ofNat 1, .ofNat 0), (7, .ofNat 1, .negSucc 2), (0, .ofNat 0, .ofNat 0)), (2, 3, (6, .ofNat 1, .ofNat 0), (0, .ofNat 0, .ofNat 0), (0, .ofNat 0, .ofNat 0)), (0, 159, (1, .ofNat 1, .ofNat 0), (7, .ofNat 1, .ofNat 0), (0, .ofNat 0, .ofNat 0)), (2, 2, (5, .ofNat 1, .ofNat 0), (3, .ofNat 1, .ofNat 0), (0, .ofNat 0, .ofNat 0))], [(1, [(.ofNat 0, .ofNat 3)]), (3, [(.ofNat 1, .ofNat 16)]), (4, [(.ofNat 0, .ofNat 16)]), (5, [(.ofNat 0, .ofNat 15)]), (6, [(.ofNat 0, .ofNat 57)]), (7, [(.ofNat 3, .ofNat 60)]), (8, [(.ofNat 0, .ofNat 237)]), (9, [(.ofNat 1, .ofNat 1000000)]), (10, [(.ofNat 0, .ofNat 1000)]), (11, [(.negSucc 2147483647, .negSucc 0)])], [((1, .ofNat 60, .ofNat 0), (6, .ofNat 1, .ofNat 0), (8, .ofNat 1, .ofNat 0)), ((2, .ofNat 1, .ofNat 0), (5, .ofNat 3, .ofNat 0), (6, .ofNat 1, .ofNat 0))], []),
  (0, [], [.inl (false, (0, .ofNat 0, .negSucc 20))], [(1, 122, (0, .ofNat 0, .ofNat 5), (4, .ofNat 1, .ofNat 0), (0, .ofNat 0, .ofNat 0)), (2, 2, (0, .ofNat 0, .negSucc 20), (0, .ofNat 0, .ofNat 0), (0, .ofNat 0, .ofNat 0)), (2, 2, (0, .ofNat 0, .negSucc 0), (0, .ofNat 0, .ofNat 0), (0, .ofNat 0, .ofNat 0)), (2, 0, (0, .ofNat 0, .ofNat 0), (0, .ofNat 0, .ofNat 0), (0, .ofNat 0, .ofNat 0)), (2, 4, (11, .ofNat 1, .ofNat 0), (0, .ofNat 0, .ofNat 999), (0, .ofNat 0, .ofNat 0)), (2, 3, (11, .ofNat 1, .ofNat 0), (0, .ofNat 0, .ofNat 0), (0, .ofNat 0, .ofNat 0)), (2, 1, (0, .ofNat 0, .ofNat 1), (0, .ofNat 0, .ofNat 0), (0, .ofNat 0, .ofNat 0)), (2, 5, (10, .ofNat 1, .ofNat 0), (0, .ofNat 0, .ofNat 1000), (0, .ofNat 0, .ofNat 0)), (2, 3, (10, .ofNat 1, .ofNat 0), (0, .ofNat 0, .ofNat 0), (0, .ofNat 0, .ofNat 0)), (2, 1, (0, .ofNat 0, .ofNat 1), (0, .ofNat 0, .ofNat 0), (0, .ofNat 0, .ofNat 0)), (2, 5, (9, .ofNat 1, .ofNat 0), (0, .ofNat 0, .ofNat 1000000), (0, .ofNat 0, .ofNat 0)), (2, 3, (9, .ofNat 1, .ofNat 0), (0, .ofNat 0, .ofNat 1), (0, .ofNat 0, .ofNat 0)), (0, 160, (8, .ofNat 1, .ofNat 2), (11, .ofNat 1, .ofNat 0), (0, .ofNat 0, .ofNat 0)), (0, 160, (8, .ofNat 1, .ofNat 1), (10, .ofNat 1, .ofNat 0), (0, .ofNat 0, .ofNat 0)), (0, 160, (8, .ofNat 1, .ofNat 0), (9, .ofNat 1, .ofNat 0), (0, .ofNat 0, .ofNat 0)), (2, 1, (0, .ofNat 0, .ofNat 1), (0, .ofNat 0, .ofNat 0), (0, .ofNat 0, .ofNat 0)), (2, 5, (6, .ofNat 1, .ofNat 0), (7, .ofNat 1, .negSucc 2), (0, .ofNat 0, .ofNat 0)), (2, 3, (6, .ofNat 1, .ofNat 0), (0, .ofNat 0, .ofNat 0), (0, .ofNat 0, .ofNat 0)), (0, 159, (1, .ofNat 1, .ofNat 0), (7, .ofNat 1, .ofNat 0), (0, .ofNat 0, .ofNat 0)), (2, 2, (5, .ofNat 1, .ofNat 0), (3, .ofNat 1, .ofNat 0), (0, .ofNat 0, .ofNat 0))], [(1, [(.ofNat 0, .ofNat 3)]), (3, [(.ofNat 1, .ofNat 16)]), (4, [(.ofNat 0, .ofNat 16)]), (5, [(.ofNat 0, .ofNat 15)]), (6, [(.ofNat 0, .ofNat 57)]), (7, [(.ofNat 3, .ofNat 60)]), (8, [(.ofNat 0, .ofNat 237)]), (9, [(.ofNat 1, .ofNat 1000000)]), (10, [(.ofNat 0, .ofNat 1000)]), (11, [(.ofNat 1000, .ofNat 2147483647)])], [((1, .ofNat 60, .ofNat 0), (6, .ofNat 1, .ofNat 0), (8, .ofNat 1, .ofNat 0)), ((2, .ofNat 1, .ofNat 0), (5, .ofNat 3, .ofNat 0), (6, .ofNat 1, .ofNat 0))], []),
  (78, [(0, .inr (.inl [122])), (1, .inl (false, (1, .ofNat 1, .ofNat 0))), (3, .inl (false, (2, .ofNat 1, .ofNat 0))), (4, .inl (false, (3, .ofNat 1, .ofNat 0))), (5, .inl (false, (4, .ofNat 1, .ofNat 0))), (6, .inl (false, (5, .ofNat 1, .ofNat 1))), (7, .inl (true, (6, .ofNat 1, .ofNat 0))), (9, .inl (false, (0, .ofNat 0, .ofNat 0))), (10, .inl (false, (8, .ofNat 1, .ofNat 0))), (11, .inl (false, (12, .ofNat 1, .ofNat 0)))], [], [(2, 3, (0, .ofNat 0, .ofNat 0), (0, .ofNat 0, .ofNat 0), (0, .ofNat 0, .ofNat 0)), (2, 3, (12, .ofNat 1, .ofNat 0), (0, .ofNat 0, .ofNat 0), (0, .ofNat 0, .ofNat 0)), (0, 122, (0, .ofNat 0, .ofNat 5), (12, .ofNat 1, .ofNat 1), (0, .ofNat 0, .ofNat 0)), (1, 122, (0, .ofNat 0, .ofNat 5), (12, .ofNat 1, .ofNat 1), (0, .ofNat 0, .ofNat 0)), (0, 122, (0, .ofNat 0, .ofNat 5), (12, .ofNat 1, .ofNat 0), (0, .ofNat 0, .ofNat 0)), (1, 132, (12, .ofNat 1, .ofNat 0), (0, .ofNat 0, .ofNat 0), (0, .ofNat 0, .ofNat 0)), (0, 122, (0, .ofNat 0, .ofNat 5), (12, .ofNat 1, .ofNat 0), (0, .ofNat 0, .ofNat 0)), (1, 131, (12, .ofNat 1, .ofNat 0), (0, .ofNat 0, .negSucc 3), (0, .ofNat 0, .ofNat 0)), (0, 122, (0, .ofNat 0, .ofNat 5), (12, .ofNat 1, .ofNat 0), (0, .ofNat 0, .ofNat 0)), (1, 130, (12, .ofNat 1, .ofNat 0), (0, .ofNat 0, .negSucc 3), (0, .ofNat 0, .ofNat 0)), (0, 122, (0, .ofNat 0, .ofNat 5), (12, .ofNat 1, .ofNat 0), (0, .ofNat 0, .ofNat 0)), (1, 129, (12, .ofNat 1, .ofNat 0), (11, .ofNat 1, .ofNat 0), (0, .ofNat 0, .ofNat 0)), (0, 122, (0, .ofNat 0, .ofNat 5), (12, .ofNat 1, .ofNat 0), (0, .ofNat 0, .ofNat 0)), (1, 128, (12, .ofNat 1, .ofNat 0), (10, .ofNat 1, .ofNat 0), (0, .ofNat 0, .ofNat 0)), (0, 122, (0, .ofNat 0, .ofNat 5), (12, .ofNat 1, .ofNat 0), (0, .ofNat 0, .ofNat 0)), (1, 127, (12, .ofNat 1, .ofNat 0), (9, .ofNat 1, .ofNat 0), (0, .ofNat 0, .ofNat 0)), (0, 122, (0, .ofNat 0, .ofNat 5), (12, .ofNat 1, .ofNat 0), (0, .ofNat 0, .ofNat 0)), (2, 1, (12, .ofNat 1, .ofNat 0), (0, .ofNat 0, .ofNat 16), (0, .ofNat 0, .ofNat 0)), (0, 122, (0, .ofNat 0, .ofNat 5), (12, .ofNat 1, .ofNat 0), (0, .ofNat 0, .ofNat 0)), (2, 1, (0, .ofNat 0, .ofNat 1), (0, .ofNat 0, .ofNat 0), (0, .ofNat 0, .ofNat 0)), (2, 5, (11, .ofNat 1, .ofNat 0), (0, .ofNat 0, .ofNat 999), (0, .ofNat 0, .ofNat 0)), (2, 3, (11, .ofNat 1, .ofNat 0), (0, .ofNat 0, .ofNat 0), (0, .ofNat 0, .ofNat 0)), (2, 1, (0, .ofNat 0, .ofNat 1), (0, .ofNat 0, .ofNat 0), (0, .ofNat 0, .ofNat 0)), (2, 5, (10, .ofNat 1, .ofNat 0), (0, .ofNat 0, .ofNat 1000), (0, .ofNat 0, .ofNat 0)), (2, 3, (10, .ofNat 1, .ofNat 0), (0, .ofNat 0, .ofNat 0), (0, .ofNat 0, .ofNat 0)), (2, 1, (0, .ofNat 0, .ofNat 1), (0, .ofNat 0, .ofNat 0), (0, .ofNat 0, .ofNat 0)), (2, 5, (9, .ofNat 1, .ofNat 0), (0, .ofNat 0, .ofNat 1000000), (0, .ofNat 0, .ofNat 0)), (2, 3, (9, .ofNat 1, .ofNat 0), (0, .ofNat 0, .ofNat 1), (0, .ofNat 0, .ofNat 0)), (0, 160, (8, .ofNat 1, .ofNat 2), (11, .ofNat 1, .ofNat 0), (0, .ofNat 0, .ofNat 0)), (0, 160, (8, .ofNat 1, .ofNat 1), (10, .ofNat 1, .ofNat 0), (0, .ofNat 0, .ofNat 0)), (0, 160, (8, .ofNat 1, .ofNat 0), (9, .ofNat 1, .ofNat 0), (0, .ofNat 0, .ofNat 0)), (2, 1, (0, .ofNat 0, .ofNat 1), (0, .ofNat 0, .ofNat 0), (0, .ofNat 0, .ofNat 0)), (2, 5, (6, .ofNat 1, .ofNat 0), (7, .ofNat 1, .negSucc 2), (0, .ofNat 0, .ofNat 0)), (2, 3, (6, .ofNat 1, .ofNat 0), (0, .ofNat 0, .ofNat 0), (0, .ofNat 0, .ofNat 0)), (0, 159, (1, .ofNat 1, .ofNat 0), (7, .ofNat 1, .ofNat 0), (0, .ofNat 0, .ofNat 0)), (2, 2, (5, .ofNat 1, .ofNat 0), (3, .ofNat 1, .ofNat 0), (0, .ofNat 0, .ofNat 0))], [(1, [(.ofNat 0, .ofNat 3)]), (3, [(.ofNat 1, .ofNat 16)]), (4, [(.ofNat 0, .ofNat 16)]), (5, [(.ofNat 0, .ofNat 15)]), (6, [(.ofNat 0, .ofNat 57)]), (7, [(.ofNat 3, .ofNat 60)]), (8, [(.ofNat 0, .ofNat 237)]), (9, [(.ofNat 1, .ofNat 1000000)]), (10, [(.ofNat 0, .ofNat 1000)]), (11, [(.ofNat 0, .ofNat 999)]), (12, [(.ofNat 0, .ofNat 15)])], [((1, .ofNat 60, .ofNat 0), (6, .ofNat 1, .ofNat 0), (8, .ofNat 1, .ofNat 0)), ((2, .ofNat 1, .ofNat 0), (5, .ofNat 3, .ofNat 0), (6, .ofNat 1, .ofNat 0))], []),
  (0, [], [.inl (false, (0, .ofNat 0, .negSucc 22))], [(1, 122, (0, .ofNat 0, .ofNat 5), (4, .ofNat 1, .ofNat 0), (0, .ofNat 0, .ofNat 0)), (2, 2, (0, .ofNat 0, .negSucc 22), (0, .ofNat 0, .ofNat 0), (0, .ofNat 0, .ofNat 0)), (2, 2, (0, .ofNat 0, .negSucc 2), (0, .ofNat 0, .ofNat 0), (0, .ofNat 0, .ofNat 0)), (2, 0, (12, .ofNat 1, .ofNat 0), (0, .ofNat 0, .ofNat 16), (0, .ofNat 0, .ofNat 0)), (0, 122, (0, .ofNat 0, .ofNat 5), (12, .ofNat 1, .ofNat 0), (0, .ofNat 0, .ofNat 0)), (2, 1, (0, .ofNat 0, .ofNat 1), (0, .ofNat 0, .ofNat 0), (0, .ofNat 0, .ofNat 0)), (2, 5, (11, .ofNat 1, .ofNat 0), (0, .ofNat 0, .ofNat 999), (0, .ofNat 0, .ofNat 0)), (2, 3, (11, .ofNat 1, .ofNat 0), (0, .ofNat 0, .ofNat 0), (0, .ofNat 0, .ofNat 0)), (2, 1, (0, .ofNat 0, .ofNat 1), (0, .ofNat 0, .ofNat 0), (0, .ofNat 0, .ofNat 0)), (2, 5, (10, .ofNat 1, .ofNat 0), (0, .ofNat 0, .ofNat 1000), (0, .ofNat 0, .ofNat 0)), (2, 3, (10, .ofNat 1, .ofNat 0), (0, .ofNat 0, .ofNat 0), (0, .ofNat 0, .ofNat 0)), (2, 1, (0, .ofNat 0, .ofNat 1), (0, .ofNat 0, .ofNat 0), (0, .ofNat 0, .ofNat 0)), (2, 5, (9, .ofNat 1, .ofNat 0), (0, .ofNat 0, .ofNat 1000000), (0, .ofNat 0, .ofNat 0)), (2, 3, (9, .ofNat 1, .ofNat 0), (0, .ofNat 0, .ofNat 1), (0, .ofNat 0, .ofNat 0)), (0, 160, (8, .ofNat 1, .ofNat 2), (11, .ofNat 1, .ofNat 0), (0, .ofNat 0, .ofNat 0)), (0, 160, (8, .ofNat 1, .ofNat 1), (10, .ofNat 1, .ofNat 0), (0, .ofNat 0, .ofNat 0)), (0, 160, (8, .ofNat 1, .ofNat 0), (9, .ofNat 1, .ofNat 0), (0, .ofNat 0, .ofNat 0)), (2, 1, (0, .ofNat 0, .ofNat 1), (0, .ofNat 0, .ofNat 0), (0, .ofNat 0, .ofNat 0)), (2, 5, (6, .ofNat 1, .ofNat 0), (7, .ofNat 1, .negSucc 2), (0, .ofNat 0, .ofNat 0)), (2, 3, (6, .ofNat 1, .ofNat 0), (0, .ofNat 0, .ofNat 0), (0, .ofNat 0, .ofNat 0)), (0, 159, (1, .ofNat 1, .ofNat 0), (7, .ofNat 1, .ofNat 0), (0, .ofNat 0, .ofNat 0)), (2, 2, (5, .ofNat 1, .ofNat 0), (3, .ofNat 1, .ofNat 0), (0, .ofNat 0, .ofNat 0))], [(1, [(.ofNat 0, .ofNat 3)]), (3, [(.ofNat 1, .ofNat 16)]), (4, [(.ofNat 0, .ofNat 16)]), (5, [(.ofNat 0, .ofNat 15)]), (6, [(.ofNat 0, .ofNat 57)]), (7, [(.ofNat 3, .ofNat 60)]), (8, [(.ofNat 0, .ofNat 237)]), (9, [(.ofNat 1, .ofNat 1000000)]), (10, [(.ofNat 0, .ofNat 1000)]), (11, [(.ofNat 0, .ofNat 999)]), (12, [(.ofNat 16, .ofNat 16)])], [((1, .ofNat 60, .ofNat 0), (6, .ofNat 1, .ofNat 0), (8, .ofNat 1, .ofNat 0)), ((2, .ofNat 1, .ofNat 0), (5, .ofNat 3, .ofNat 0), (6, .ofNat 1, .ofNat 0))], [])]
set_option maxRecDepth 1000000 in
theorem sg_sc_m1_g : sg_go [] [77] 3000 249 77 2 6 [(0, [(.ofNat 0, .ofNat 0)]), (1, [(.ofNat 0, .ofNat 3)]), (2, [(.negSucc 2147483647, .ofNat 2147483647)]), (3, [(.ofNat 0, .ofNat 16)]), (4, [(.ofNat 0, .ofNat 16)]), (5, [(.ofNat 0, .ofNat 16)])] [] [] [] [(0, .inr (.inl [122])), (1, .inl (false, (1, .ofNat 1, .ofNat 0))), (3, .inl (false, (2, .ofNat 1, .ofNat 0))), (4, .inl (false, (3, .ofNat 1, .ofNat 0))), (5, .inl (false, (4, .ofNat 1, .ofNat 0))), (6, .inl (false, (5, .ofNat 1, .ofNat 0)))] [] [(122, some 5), (127, none), (128, none), (129, none), (130, none), (131, none), (132, none)] sg_sc_m1_Z = true := by decide +kernel
theorem sg_sc_m1 {Q : Option Value × am_S → Prop} {d : Nat} {S : am_S} {L : am_L} {x1 x2 x3 x4 x5 : Int} (hd : 2 ≤ d) (hP : ax_P0 none S) (l0 : lc L 0 122) (l1 : li L 1 x1) (l3 : li L 3 x2) (l4 : li L 4 x3) (l5 : li L 5 x4) (l6 : li L 6 x5) (b1 : (0 ≤ x1 ∧ x1 ≤ 3)) (b2 : ((-2147483648) ≤ x2 ∧ x2 ≤ 2147483647)) (b3 : (0 ≤ x3 ∧ x3 ≤ 16)) (b4 : (0 ≤ x4 ∧ x4 ≤ 16)) (b5 : (0 ≤ x5 ∧ x5 ≤ 16))
    (k0 : ∀ (x6 : Int) (S' : am_S) (i1 : Int32), ax_P0 none S' → rd S' = rd S → x3 ≤ x5 → rd S 122 5 = x6 → (0 ≤ x1 ∧ x1 ≤ 3) → (0 ≤ x3 ∧ x3 ≤ 16) → (0 ≤ x4 ∧ x4 ≤ 16) → (0 ≤ x5 ∧ x5 ≤ 16) → (0 ≤ x6 ∧ x6 ≤ 16) → i1.toInt = x6 → Q (some (.int i1), S'))
    (k1 : ∀ (x6 x7 : Int) (S' : am_S) (i1 : Int32), ax_P0 none S' → rd S' = sg_up (rd S) 122 5 x4 → x5 < x3 → rd S 159 x1 = x7 → x6 < 0 → (0 ≤ x1 ∧ x1 ≤ 3) → (1 ≤ x3 ∧ x3 ≤ 16) → (0 ≤ x4 ∧ x4 ≤ 16) → (0 ≤ x5 ∧ x5 ≤ 15) → ((-2147483648) ≤ x6 ∧ x6 ≤ (-1)) → (0 ≤ x7 ∧ x7 ≤ 60) → x2 + (3 * x5 + 0) = x6 → i1.toInt = (-12) → Q (some (.int i1), S'))
    (k2 : ∀ (x6 x7 : Int) (S' : am_S) (i1 : Int32), ax_P0 none S' → rd S' = sg_up (rd S) 122 5 x4 → x5 < x3 → rd S 159 x1 = x7 → 0 ≤ x6 → x7 + (-3) < x6 → (0 ≤ x1 ∧ x1 ≤ 3) → (1 ≤ x3 ∧ x3 ≤ 16) → (0 ≤ x4 ∧ x4 ≤ 16) → (0 ≤ x5 ∧ x5 ≤ 15) → (0 ≤ x6 ∧ x6 ≤ 2147483692) → (0 ≤ x7 ∧ x7 ≤ 60) → x2 + (3 * x5 + 0) = x6 → i1.toInt = (-12) → Q (some (.int i1), S'))
    (k3 : ∀ (x6 x7 x8 x9 x10 x11 : Int) (S' : am_S) (i1 : Int32), ax_P0 none S' → rd S' = sg_up (rd S) 122 5 x4 → x5 < x3 → rd S 159 x1 = x7 → 0 ≤ x6 → x6 ≤ x7 + (-3) → rd S 160 x8 = x9 → rd S 160 (x8 + 1) = x10 → rd S 160 (x8 + 2) = x11 → x9 < 1 → (0 ≤ x1 ∧ x1 ≤ 3) → (1 ≤ x3 ∧ x3 ≤ 16) → (0 ≤ x4 ∧ x4 ≤ 16) → (0 ≤ x5 ∧ x5 ≤ 15) → (0 ≤ x6 ∧ x6 ≤ 57) → (3 ≤ x7 ∧ x7 ≤ 60) → (0 ≤ x8 ∧ x8 ≤ 237) → ((-2147483648) ≤ x9 ∧ x9 ≤ 0) → (60 * x1 + 0) + x6 = x8 → x2 + (3 * x5 + 0) = x6 → i1.toInt = (-21) → Q (some (.int i1), S'))
    (k4 : ∀ (x6 x7 x8 x9 x10 x11 : Int) (S' : am_S) (i1 : Int32), ax_P0 none S' → rd S' = sg_up (rd S) 122 5 x4 → x5 < x3 → rd S 159 x1 = x7 → 0 ≤ x6 → x6 ≤ x7 + (-3) → rd S 160 x8 = x9 → rd S 160 (x8 + 1) = x10 → rd S 160 (x8 + 2) = x11 → 1 ≤ x9 → 1000000 < x9 → (0 ≤ x1 ∧ x1 ≤ 3) → (1 ≤ x3 ∧ x3 ≤ 16) → (0 ≤ x4 ∧ x4 ≤ 16) → (0 ≤ x5 ∧ x5 ≤ 15) → (0 ≤ x6 ∧ x6 ≤ 57) → (3 ≤ x7 ∧ x7 ≤ 60) → (0 ≤ x8 ∧ x8 ≤ 237) → (1000001 ≤ x9 ∧ x9 ≤ 2147483647) → (60 * x1 + 0) + x6 = x8 → x2 + (3 * x5 + 0) = x6 → i1.toInt = (-21) → Q (some (.int i1), S'))
    (k5 : ∀ (x6 x7 x8 x9 x10 x11 : Int) (S' : am_S) (i1 : Int32), ax_P0 none S' → rd S' = sg_up (rd S) 122 5 x4 → x5 < x3 → rd S 159 x1 = x7 → 0 ≤ x6 → x6 ≤ x7 + (-3) → rd S 160 x8 = x9 → rd S 160 (x8 + 1) = x10 → rd S 160 (x8 + 2) = x11 → 1 ≤ x9 → x9 ≤ 1000000 → x10 < 0 → (0 ≤ x1 ∧ x1 ≤ 3) → (1 ≤ x3 ∧ x3 ≤ 16) → (0 ≤ x4 ∧ x4 ≤ 16) → (0 ≤ x5 ∧ x5 ≤ 15) → (0 ≤ x6 ∧ x6 ≤ 57) → (3 ≤ x7 ∧ x7 ≤ 60) → (0 ≤ x8 ∧ x8 ≤ 237) → (1 ≤ x9 ∧ x9 ≤ 1000000) → ((-2147483648) ≤ x10 ∧ x10 ≤ (-1)) → (60 * x1 + 0) + x6 = x8 → x2 + (3 * x5 + 0) = x6 → i1.toInt = (-21) → Q (some (.int i1), S'))
    (k6 : ∀ (x6 x7 x8 x9 x10 x11 : Int) (S' : am_S) (i1 : Int32), ax_P0 none S' → rd S' = sg_up (rd S) 122 5 x4 → x5 < x3 → rd S 159 x1 = x7 → 0 ≤ x6 → x6 ≤ x7 + (-3) → rd S 160 x8 = x9 → rd S 160 (x8 + 1) = x10 → rd S 160 (x8 + 2) = x11 → 1 ≤ x9 → x9 ≤ 1000000 → 0 ≤ x10 → 1000 < x10 → (0 ≤ x1 ∧ x1 ≤ 3) → (1 ≤ x3 ∧ x3 ≤ 16) → (0 ≤ x4 ∧ x4 ≤ 16) → (0 ≤ x5 ∧ x5 ≤ 15) → (0 ≤ x6 ∧ x6 ≤ 57) → (3 ≤ x7 ∧ x7 ≤ 60) → (0 ≤ x8 ∧ x8 ≤ 237) → (1 ≤ x9 ∧ x9 ≤ 1000000) → (1001 ≤ x10 ∧ x10 ≤ 2147483647) → (60 * x1 + 0) + x6 = x8 → x2 + (3 * x5 + 0) = x6 → i1.toInt = (-21) → Q (some (.int i1), S'))
    (k7 : ∀ (x6 x7 x8 x9 x10 x11 : Int) (S' : am_S) (i1 : Int32), ax_P0 none S' → rd S' = sg_up (rd S) 122 5 x4 → x5 < x3 → rd S 159 x1 = x7 → 0 ≤ x6 → x6 ≤ x7 + (-3) → rd S 160 x8 = x9 → rd S 160 (x8 + 1) = x10 → rd S 160 (x8 + 2) = x11 → 1 ≤ x9 → x9 ≤ 1000000 → 0 ≤ x10 → x10 ≤ 1000 → x11 < 0 → (0 ≤ x1 ∧ x1 ≤ 3) → (1 ≤ x3 ∧ x3 ≤ 16) → (0 ≤ x4 ∧ x4 ≤ 16) → (0 ≤ x5 ∧ x5 ≤ 15) → (0 ≤ x6 ∧ x6 ≤ 57) → (3 ≤ x7 ∧ x7 ≤ 60) → (0 ≤ x8 ∧ x8 ≤ 237) → (1 ≤ x9 ∧ x9 ≤ 1000000) → (0 ≤ x10 ∧ x10 ≤ 1000) → ((-2147483648) ≤ x11 ∧ x11 ≤ (-1)) → (60 * x1 + 0) + x6 = x8 → x2 + (3 * x5 + 0) = x6 → i1.toInt = (-21) → Q (some (.int i1), S'))
    (k8 : ∀ (x6 x7 x8 x9 x10 x11 : Int) (S' : am_S) (i1 : Int32), ax_P0 none S' → rd S' = sg_up (rd S) 122 5 x4 → x5 < x3 → rd S 159 x1 = x7 → 0 ≤ x6 → x6 ≤ x7 + (-3) → rd S 160 x8 = x9 → rd S 160 (x8 + 1) = x10 → rd S 160 (x8 + 2) = x11 → 1 ≤ x9 → x9 ≤ 1000000 → 0 ≤ x10 → x10 ≤ 1000 → 0 ≤ x11 → 999 < x11 → (0 ≤ x1 ∧ x1 ≤ 3) → (1 ≤ x3 ∧ x3 ≤ 16) → (0 ≤ x4 ∧ x4 ≤ 16) → (0 ≤ x5 ∧ x5 ≤ 15) → (0 ≤ x6 ∧ x6 ≤ 57) → (3 ≤ x7 ∧ x7 ≤ 60) → (0 ≤ x8 ∧ x8 ≤ 237) → (1 ≤ x9 ∧ x9 ≤ 1000000) → (0 ≤ x10 ∧ x10 ≤ 1000) → (1000 ≤ x11 ∧ x11 ≤ 2147483647) → (60 * x1 + 0) + x6 = x8 → x2 + (3 * x5 + 0) = x6 → i1.toInt = (-21) → Q (some (.int i1), S'))
    (k9 : ∀ (x6 x7 x8 x9 x10 x11 x12 : Int) (L' : am_L) (S' : am_S), ax_P0 none S' → rd S' = sg_up (sg_up (sg_up (sg_up (sg_up (sg_up (sg_up (rd S) 127 x12 x9) 128 x12 x10) 129 x12 x11) 130 x12 (-4)) 131 x12 (-4)) 132 x12 0) 122 5 (x12 + 1) → x5 < x3 → rd S 159 x1 = x7 → 0 ≤ x6 → x6 ≤ x7 + (-3) → rd S 160 x8 = x9 → rd S 160 (x8 + 1) = x10 → rd S 160 (x8 + 2) = x11 → 1 ≤ x9 → x9 ≤ 1000000 → 0 ≤ x10 → x10 ≤ 1000 → 0 ≤ x11 → x11 ≤ 999 → rd S 122 5 = x12 → x12 ≠ 16 → 0 ≤ x12 → (0 ≤ x1 ∧ x1 ≤ 3) → (1 ≤ x3 ∧ x3 ≤ 16) → (0 ≤ x4 ∧ x4 ≤ 16) → (0 ≤ x5 ∧ x5 ≤ 15) → (0 ≤ x6 ∧ x6 ≤ 57) → (3 ≤ x7 ∧ x7 ≤ 60) → (0 ≤ x8 ∧ x8 ≤ 237) → (1 ≤ x9 ∧ x9 ≤ 1000000) → (0 ≤ x10 ∧ x10 ≤ 1000) → (0 ≤ x11 ∧ x11 ≤ 999) → (0 ≤ x12 ∧ x12 ≤ 15) → (60 * x1 + 0) + x6 = x8 → x2 + (3 * x5 + 0) = x6 → lc L' 0 122 → li L' 1 x1 → li L' 3 x2 → li L' 4 x3 → li L' 5 x4 → li L' 6 (x5 + 1) → lj L' 7 x6 → li L' 9 0 → li L' 10 x8 → li L' 11 x12 → am_V none d 249 77 L' ([]) S' Q)
    (k10 : ∀ (x6 x7 x8 x9 x10 x11 x12 : Int) (S' : am_S) (i1 : Int32), ax_P0 none S' → rd S' = sg_up (rd S) 122 5 x4 → x5 < x3 → rd S 159 x1 = x7 → 0 ≤ x6 → x6 ≤ x7 + (-3) → rd S 160 x8 = x9 → rd S 160 (x8 + 1) = x10 → rd S 160 (x8 + 2) = x11 → 1 ≤ x9 → x9 ≤ 1000000 → 0 ≤ x10 → x10 ≤ 1000 → 0 ≤ x11 → x11 ≤ 999 → rd S 122 5 = x12 → x12 = 16 → (0 ≤ x1 ∧ x1 ≤ 3) → (1 ≤ x3 ∧ x3 ≤ 16) → (0 ≤ x4 ∧ x4 ≤ 16) → (0 ≤ x5 ∧ x5 ≤ 15) → (0 ≤ x6 ∧ x6 ≤ 57) → (3 ≤ x7 ∧ x7 ≤ 60) → (0 ≤ x8 ∧ x8 ≤ 237) → (1 ≤ x9 ∧ x9 ≤ 1000000) → (0 ≤ x10 ∧ x10 ≤ 1000) → (0 ≤ x11 ∧ x11 ≤ 999) → (16 ≤ x12 ∧ x12 ≤ 16) → (60 * x1 + 0) + x6 = x8 → x2 + (3 * x5 + 0) = x6 → i1.toInt = (-23) → Q (some (.int i1), S')) : am_V none d 249 77 L ([]) S Q := by
  refine sg_use sg_sc_m1_g hd hP (sg_xs [0, x1, x2, x3, x4, x5]) ⟨⟨Int.le_refl 0, Int.le_refl 0⟩, b1, b2, b3, b4, b5, trivial⟩ trivial trivial trivial ⟨l0, l1, l3, l4, l5, l6, trivial⟩ trivial ?_
  intro z hz x' L' st' S' hx hP' hW hL' hs' hJ hE' hT' hD'
  have q1 : x' 1 = x1 := hx 1 (by decide)
  subst q1
  have q2 : x' 2 = x2 := hx 2 (by decide)
  subst q2
  have q3 : x' 3 = x3 := hx 3 (by decide)
  subst q3
  have q4 : x' 4 = x4 := hx 4 (by decide)
  subst q4
  have q5 : x' 5 = x5 := hx 5 (by decide)
  subst q5
  simp only [sg_sc_m1_Z, List.mem_cons, List.not_mem_nil, or_false] at hz
  rcases hz with rfl | rfl | rfl | rfl | rfl | rfl | rfl | rfl | rfl | rfl | rfl
  · obtain ⟨f0, f1, hσ⟩ := hJ
    obtain ⟨e0, e1, e2, e3, e4, -⟩ := hE'
    intro v hv
    subst hv
    cases v with
    | none => exact hs'.elim
    | some v1 =>
      obtain ⟨⟨i1, rfl, g1⟩, -⟩ := hs'
      exact k0 (x' 6) S' i1 hP' hσ f0 f1 e0 e1 e2 e3 e4 g1
  · obtain ⟨f0, f1, f2, -, -, hσ⟩ := hJ
    obtain ⟨e0, e1, e2, e3, e4, e5, -⟩ := hE'
    obtain ⟨t0, -⟩ := hT'
    intro v hv
    subst hv
    cases v with
    | none => exact hs'.elim
    | some v1 =>
      obtain ⟨⟨i1, rfl, g1⟩, -⟩ := hs'
      exact k1 (x' 6) (x' 7) S' i1 hP' hσ f0 f1 f2 e0 e1 e2 e3 e4 e5 t0 g1
  · obtain ⟨f0, f1, f2, f3, -, -, hσ⟩ := hJ
    obtain ⟨e0, e1, e2, e3, e4, e5, -⟩ := hE'
    obtain ⟨t0, -⟩ := hT'
    intro v hv
    subst hv
    cases v with
    | none => exact hs'.elim
    | some v1 =>
      obtain ⟨⟨i1, rfl, g1⟩, -⟩ := hs'
      exact k2 (x' 6) (x' 7) S' i1 hP' hσ f0 f1 f2 f3 e0 e1 e2 e3 e4 e5 t0 g1
  · obtain ⟨f0, f1, f2, f3, -, f5, f6, f7, f8, -, -, -, hσ⟩ := hJ
    obtain ⟨e0, e1, e2, e3, e4, e5, e6, e7, -⟩ := hE'
    obtain ⟨t0, t1, -⟩ := hT'
    intro v hv
    subst hv
    cases v with
    | none => exact hs'.elim
    | some v1 =>
      obtain ⟨⟨i1, rfl, g1⟩, -⟩ := hs'
      exact k3 (x' 6) (x' 7) (x' 8) (x' 9) (x' 10) (x' 11) S' i1 hP' hσ f0 f1 f2 f3 f5 f6 f7 f8 e0 e1 e2 e3 e4 e5 e6 e7 t0 t1 g1
  · obtain ⟨f0, f1, f2, f3, -, f5, f6, f7, f8, f9, -, -, -, hσ⟩ := hJ
    obtain ⟨e0, e1, e2, e3, e4, e5, e6, e7, -⟩ := hE'
    obtain ⟨t0, t1, -⟩ := hT'
    intro v hv
    subst hv
    cases v with
    | none => exact hs'.elim
    | some v1 =>
      obtain ⟨⟨i1, rfl, g1⟩, -⟩ := hs'
      exact k4 (x' 6) (x' 7) (x' 8) (x' 9) (x' 10) (x' 11) S' i1 hP' hσ f0 f1 f2 f3 f5 f6 f7 f8 f9 e0 e1 e2 e3 e4 e5 e6 e7 t0 t1 g1
  · obtain ⟨f0, f1, f2, f3, -, f5, f6, f7, f8, f9, -, f11, -, -, -, hσ⟩ := hJ
    obtain ⟨e0, e1, e2, e3, e4, e5, e6, e7, e8, -⟩ := hE'
    obtain ⟨t0, t1, -⟩ := hT'
    intro v hv
    subst hv
    cases v with
    | none => exact hs'.elim
    | some v1 =>
      obtain ⟨⟨i1, rfl, g1⟩, -⟩ := hs'
      exact k5 (x' 6) (x' 7) (x' 8) (x' 9) (x' 10) (x' 11) S' i1 hP' hσ f0 f1 f2 f3 f5 f6 f7 f8 f9 f11 e0 e1 e2 e3 e4 e5 e6 e7 e8 t0 t1 g1
  · obtain ⟨f0, f1, f2, f3, -, f5, f6, f7, f8, f9, -, f11, f12, -, -, -, hσ⟩ := hJ
    obtain ⟨e0, e1, e2, e3, e4, e5, e6, e7, e8, -⟩ := hE'
    obtain ⟨t0, t1, -⟩ := hT'
    intro v hv
    subst hv
    cases v with
    | none => exact hs'.elim
    | some v1 =>
      obtain ⟨⟨i1, rfl, g1⟩, -⟩ := hs'
      exact k6 (x' 6) (x' 7) (x' 8) (x' 9) (x' 10) (x' 11) S' i1 hP' hσ f0 f1 f2 f3 f5 f6 f7 f8 f9 f11 f12 e0 e1 e2 e3 e4 e5 e6 e7 e8 t0 t1 g1
  · obtain ⟨f0, f1, f2, f3, -, f5, f6, f7, f8, f9, -, f11, f12, -, f14, -, -, -, hσ⟩ := hJ
    obtain ⟨e0, e1, e2, e3, e4, e5, e6, e7, e8, e9, -⟩ := hE'
    obtain ⟨t0, t1, -⟩ := hT'
    intro v hv
    subst hv
    cases v with
    | none => exact hs'.elim
    | some v1 =>
      obtain ⟨⟨i1, rfl, g1⟩, -⟩ := hs'
      exact k7 (x' 6) (x' 7) (x' 8) (x' 9) (x' 10) (x' 11) S' i1 hP' hσ f0 f1 f2 f3 f5 f6 f7 f8 f9 f11 f12 f14 e0 e1 e2 e3 e4 e5 e6 e7 e8 e9 t0 t1 g1
  · obtain ⟨f0, f1, f2, f3, -, f5, f6, f7, f8, f9, -, f11, f12, -, f14, f15, -, -, -, hσ⟩ := hJ
    obtain ⟨e0, e1, e2, e3, e4, e5, e6, e7, e8, e9, -⟩ := hE'
    obtain ⟨t0, t1, -⟩ := hT'
    intro v hv
    subst hv
    cases v with
    | none => exact hs'.elim
    | some v1 =>
      obtain ⟨⟨i1, rfl, g1⟩, -⟩ := hs'
      exact k8 (x' 6) (x' 7) (x' 8) (x' 9) (x' 10) (x' 11) S' i1 hP' hσ f0 f1 f2 f3 f5 f6 f7 f8 f9 f11 f12 f14 f15 e0 e1 e2 e3 e4 e5 e6 e7 e8 e9 t0 t1 g1
  · obtain ⟨f0, f1, f2, f3, -, f5, f6, f7, f8, f9, -, f11, f12, -, f14, f15, -, f17, f18, -, -, -, -, -, -, -, -, f27, -, hσ⟩ := hJ
    obtain ⟨e0, e1, e2, e3, e4, e5, e6, e7, e8, e9, e10, -⟩ := hE'
    obtain ⟨t0, t1, -⟩ := hT'
    obtain ⟨p0, p1, p2, p3, p4, p5, p6, p7, p8, p9, -⟩ := hL'
    obtain rfl := sg_tn hs'
    exact k9 (x' 6) (x' 7) (x' 8) (x' 9) (x' 10) (x' 11) (x' 12) L' S' hP' hσ f0 f1 f2 f3 f5 f6 f7 f8 f9 f11 f12 f14 f15 f17 f18 f27 e0 e1 e2 e3 e4 e5 e6 e7 e8 e9 e10 t0 t1 p0 p1 p2 p3 p4 p5 p6 p7 p8 p9
  · obtain ⟨f0, f1, f2, f3, -, f5, f6, f7, f8, f9, -, f11, f12, -, f14, f15, -, f17, f18, -, -, hσ⟩ := hJ
    obtain ⟨e0, e1, e2, e3, e4, e5, e6, e7, e8, e9, e10, -⟩ := hE'
    obtain ⟨t0, t1, -⟩ := hT'
    intro v hv
    subst hv
    cases v with
    | none => exact hs'.elim
    | some v1 =>
      obtain ⟨⟨i1, rfl, g1⟩, -⟩ := hs'
      exact k10 (x' 6) (x' 7) (x' 8) (x' 9) (x' 10) (x' 11) (x' 12) S' i1 hP' hσ f0 f1 f2 f3 f5 f6 f7 f8 f9 f11 f12 f14 f15 f17 f18 e0 e1 e2 e3 e4 e5 e6 e7 e8 e9 e10 t0 t1 g1
def sg_rn_x0_Z : List sg_z := [(16, [(0, .inr (.inl [114])), (1, .inl (false, (1, .ofNat 1, .ofNat 0))), (2, .inl (false, (2, .ofNat 1, .ofNat 0)))], [.inl (false, (0, .ofNat 0, .ofNat 0)), .inr (.inl [115])], [(1, 114, (0, .ofNat 0, .ofNat 0), (2, .ofNat 1, .ofNat 0), (0, .ofNat 0, .ofNat 0)), (1, 114, (0, .ofNat 0, .ofNat 2), (1, .ofNat 1, .ofNat 0), (0, .ofNat 0, .ofNat 0))], [(1, [(.ofNat 0, .ofNat 2)]), (2, [(.ofNat 0, .ofNat 60)])], [], [])]
set_option maxRecDepth 1000000 in
theorem sg_rn_x0_g : sg_go [] [15] 3000 61 0 0 3 [(0, [(.ofNat 0, .ofNat 0)]), (1, [(.ofNat 0, .ofNat 2)]), (2, [(.ofNat 0, .ofNat 60)])] [] [] [] [(0, .inr (.inl [114])), (1, .inl (false, (1, .ofNat 1, .ofNat 0))), (2, .inl (false, (2, .ofNat 1, .ofNat 0)))] [] [(114, some 0), (114, some 2)] sg_rn_x0_Z = true := by decide +kernel
theorem sg_rn_x0 {Q : Option Value × am_S → Prop} {d : Nat} {S : am_S} {L : am_L} {x1 x2 : Int} (hd : 0 ≤ d) (hP : ax_P0 none S) (l0 : lc L 0 114) (l1 : li L 1 x1) (l2 : li L 2 x2) (b1 : (0 ≤ x1 ∧ x1 ≤ 2)) (b2 : (0 ≤ x2 ∧ x2 ≤ 60))
    (k0 : ∀ (L' : am_L) (S' : am_S) (i1 : Int32), ax_P0 none S' → rd S' = sg_up (sg_up (rd S) 114 2 x1) 114 0 x2 → (0 ≤ x1 ∧ x1 ≤ 2) → (0 ≤ x2 ∧ x2 ≤ 60) → lc L' 0 114 → li L' 1 x1 → li L' 2 x2 → i1.toInt = 0 → am_V none d 61 15 L' ((.int i1) :: (.ref 115) :: []) S' Q) : am_V none d 61 0 L ([]) S Q := by
  refine sg_use sg_rn_x0_g hd hP (sg_xs [0, x1, x2]) ⟨⟨Int.le_refl 0, Int.le_refl 0⟩, b1, b2, trivial⟩ trivial trivial trivial ⟨l0, l1, l2, trivial⟩ trivial ?_
  intro z hz x' L' st' S' hx hP' hW hL' hs' hJ hE' hT' hD'
  have q1 : x' 1 = x1 := hx 1 (by decide)
  subst q1
  have q2 : x' 2 = x2 := hx 2 (by decide)
  subst q2
  simp only [sg_rn_x0_Z, List.mem_cons, List.not_mem_nil, or_false] at hz
  rcases hz with rfl
  · have hσ := hJ
    obtain ⟨e0, e1, -⟩ := hE'
    obtain ⟨p0, p1, p2, -⟩ := hL'
    obtain ⟨v1, r1, rfl, ⟨i1, rfl, g1⟩, hs1⟩ := sg_tc hs'
    obtain ⟨v2, r2, rfl, rfl, hs2⟩ := sg_tc hs1
    obtain rfl := sg_tn hs2
    exact k0 L' S' i1 hP' hσ e0 e1 p0 p1 p2 g1
def sg_fl_x0a_Z : List sg_z := [(6, [(0, .inr (.inl [115])), (1, .inl (false, (0, .ofNat 0, .ofNat 0))), (2, .inl (false, (0, .ofNat 0, .ofNat 0))), (3, .inl (false, (0, .ofNat 0, .ofNat 60)))], [], [], [(1, [(.ofNat 0, .ofNat 0)])], [], [])]
set_option maxRecDepth 1000000 in
theorem sg_fl_x0a_g : sg_go [] [5] 3000 261 0 0 2 [(0, [(.ofNat 0, .ofNat 0)]), (1, [(.ofNat 0, .ofNat 0)])] [] [] [] [(0, .inr (.inl [115])), (1, .inl (false, (1, .ofNat 1, .ofNat 0)))] [] [] sg_fl_x0a_Z = true := by decide +kernel
theorem sg_fl_x0a {Q : Option Value × am_S → Prop} {d : Nat} {S : am_S} {L : am_L} {x1 : Int} (hd : 0 ≤ d) (hP : ax_P0 none S) (l0 : lc L 0 115) (l1 : li L 1 x1) (b1 : (0 ≤ x1 ∧ x1 ≤ 0))
    (k0 : ∀ (L' : am_L), (0 ≤ x1 ∧ x1 ≤ 0) → lc L' 0 115 → li L' 1 0 → li L' 2 0 → li L' 3 60 → am_V none d 261 5 L' ([]) S Q) : am_V none d 261 0 L ([]) S Q := by
  refine sg_use sg_fl_x0a_g hd hP (sg_xs [0, x1]) ⟨⟨Int.le_refl 0, Int.le_refl 0⟩, b1, trivial⟩ trivial trivial trivial ⟨l0, l1, trivial⟩ trivial ?_
  intro z hz x' L' st' S' hx hP' hW hL' hs' hJ hE' hT' hD'
  have q1 : x' 1 = x1 := hx 1 (by decide)
  subst q1
  have eS : S' = S := hW.1 rfl
  subst eS
  simp only [sg_fl_x0a_Z, List.mem_cons, List.not_mem_nil, or_false] at hz
  rcases hz with rfl
  · have hσ := hJ
    obtain ⟨e0, -⟩ := hE'
    obtain ⟨p0, p1, p2, p3, -⟩ := hL'
    obtain rfl := sg_tn hs'
    exact k0 L' e0 p0 p1 p2 p3
def sg_fl_x0b_Z : List sg_z := [(0, [], [], [(2, 3, (2, .ofNat 1, .ofNat 0), (0, .ofNat 0, .ofNat 60), (0, .ofNat 0, .ofNat 0))], [(1, [(.ofNat 0, .ofNat 0)]), (2, [(.ofNat 60, .ofNat 60)]), (3, [(.ofNat 60, .ofNat 60)])], [], []),
  (6, [(0, .inr (.inl [115])), (1, .inl (false, (0, .ofNat 0, .ofNat 0))), (2, .inl (false, (2, .ofNat 1, .ofNat 1))), (3, .inl (false, (0, .ofNat 0, .ofNat 60)))], [], [(1, 115, (2, .ofNat 1, .ofNat 0), (0, .ofNat 0, .ofNat 0), (0, .ofNat 0, .ofNat 0)), (2, 2, (2, .ofNat 1, .ofNat 0), (0, .ofNat 0, .ofNat 60), (0, .ofNat 0, .ofNat 0))], [(1, [(.ofNat 0, .ofNat 0)]), (2, [(.ofNat 0, .ofNat 59)]), (3, [(.ofNat 60, .ofNat 60)])], [], [])]
set_option maxRecDepth 1000000 in
theorem sg_fl_x0b_g : sg_go [] [5] 3000 261 5 0 4 [(0, [(.ofNat 0, .ofNat 0)]), (1, [(.ofNat 0, .ofNat 0)]), (2, [(.ofNat 0, .ofNat 60)]), (3, [(.ofNat 60, .ofNat 60)])] [] [] [] [(0, .inr (.inl [115])), (1, .inl (false, (1, .ofNat 1, .ofNat 0))), (2, .inl (false, (2, .ofNat 1, .ofNat 0))), (3, .inl (false, (3, .ofNat 1, .ofNat 0)))] [] [(115, none)] sg_fl_x0b_Z = true := by decide +kernel
theorem sg_fl_x0b {Q : Option Value × am_S → Prop} {d : Nat} {S : am_S} {L : am_L} {x1 x2 x3 : Int} (hd : 0 ≤ d) (hP : ax_P0 none S) (l0 : lc L 0 115) (l1 : li L 1 x1) (l2 : li L 2 x2) (l3 : li L 3 x3) (b1 : (0 ≤ x1 ∧ x1 ≤ 0)) (b2 : (0 ≤ x2 ∧ x2 ≤ 60)) (b3 : (60 ≤ x3 ∧ x3 ≤ 60))
    (k0 : ∀ (S' : am_S), ax_P0 none S' → rd S' = rd S → 60 ≤ x2 → (0 ≤ x1 ∧ x1 ≤ 0) → (60 ≤ x2 ∧ x2 ≤ 60) → (60 ≤ x3 ∧ x3 ≤ 60) → Q (none, S'))
    (k1 : ∀ (L' : am_L) (S' : am_S), ax_P0 none S' → rd S' = sg_up (rd S) 115 x2 0 → x2 < 60 → (0 ≤ x1 ∧ x1 ≤ 0) → (0 ≤ x2 ∧ x2 ≤ 59) → (60 ≤ x3 ∧ x3 ≤ 60) → lc L' 0 115 → li L' 1 0 → li L' 2 (x2 + 1) → li L' 3 60 → am_V none d 261 5 L' ([]) S' Q) : am_V none d 261 5 L ([]) S Q := by
  refine sg_use sg_fl_x0b_g hd hP (sg_xs [0, x1, x2, x3]) ⟨⟨Int.le_refl 0, Int.le_refl 0⟩, b1, b2, b3, trivial⟩ trivial trivial trivial ⟨l0, l1, l2, l3, trivial⟩ trivial ?_
  intro z hz x' L' st' S' hx hP' hW hL' hs' hJ hE' hT' hD'
  have q1 : x' 1 = x1 := hx 1 (by decide)
  subst q1
  have q2 : x' 2 = x2 := hx 2 (by decide)
  subst q2
  have q3 : x' 3 = x3 := hx 3 (by decide)
  subst q3
  simp only [sg_fl_x0b_Z, List.mem_cons, List.not_mem_nil, or_false] at hz
  rcases hz with rfl | rfl
  · obtain ⟨f0, hσ⟩ := hJ
    obtain ⟨e0, e1, e2, -⟩ := hE'
    intro v hv
    subst hv
    cases v with
    | some _ => exact hs'.elim
    | none =>
      exact k0 S' hP' hσ f0 e0 e1 e2
  · obtain ⟨f0, hσ⟩ := hJ
    obtain ⟨e0, e1, e2, -⟩ := hE'
    obtain ⟨p0, p1, p2, p3, -⟩ := hL'
    obtain rfl := sg_tn hs'
    exact k1 L' S' hP' hσ f0 e0 e1 e2 p0 p1 p2 p3
def sg_sr_x0a_Z : List sg_z := [(4, [(0, .inr (.inl [0])), (1, .inr (.inl [114])), (2, .inl (false, (1, .ofNat 1, .ofNat 0))), (3, .inl (false, (2, .ofNat 1, .ofNat 0))), (4, .inl (false, (0, .ofNat 0, .ofNat 0)))], [], [], [(2, [(.ofNat 0, .ofNat 16)])], [], [])]
set_option maxRecDepth 1000000 in
theorem sg_sr_x0a_g : sg_go [] [3] 3000 155 0 0 3 [(0, [(.ofNat 0, .ofNat 0)]), (1, [(.negSucc 2147483647, .ofNat 2147483647)]), (2, [(.ofNat 0, .ofNat 16)])] [] [] [] [(0, .inr (.inl [0])), (1, .inr (.inl [114])), (2, .inl (false, (1, .ofNat 1, .ofNat 0))), (3, .inl (false, (2, .ofNat 1, .ofNat 0)))] [] [] sg_sr_x0a_Z = true := by decide +kernel
theorem sg_sr_x0a {Q : Option Value × am_S → Prop} {d : Nat} {S : am_S} {L : am_L} {x1 x2 : Int} (hd : 0 ≤ d) (hP : ax_P0 none S) (l0 : lc L 0 0) (l1 : lc L 1 114) (l2 : li L 2 x1) (l3 : li L 3 x2) (b1 : ((-2147483648) ≤ x1 ∧ x1 ≤ 2147483647)) (b2 : (0 ≤ x2 ∧ x2 ≤ 16))
    (k0 : ∀ (L' : am_L), (0 ≤ x2 ∧ x2 ≤ 16) → lc L' 0 0 → lc L' 1 114 → li L' 2 x1 → li L' 3 x2 → li L' 4 0 → am_V none d 155 3 L' ([]) S Q) : am_V none d 155 0 L ([]) S Q := by
  refine sg_use sg_sr_x0a_g hd hP (sg_xs [0, x1, x2]) ⟨⟨Int.le_refl 0, Int.le_refl 0⟩, b1, b2, trivial⟩ trivial trivial trivial ⟨l0, l1, l2, l3, trivial⟩ trivial ?_
  intro z hz x' L' st' S' hx hP' hW hL' hs' hJ hE' hT' hD'
  have q1 : x' 1 = x1 := hx 1 (by decide)
  subst q1
  have q2 : x' 2 = x2 := hx 2 (by decide)
  subst q2
  have eS : S' = S := hW.1 rfl
  subst eS
  simp only [sg_sr_x0a_Z, List.mem_cons, List.not_mem_nil, or_false] at hz
  rcases hz with rfl
  · have hσ := hJ
    obtain ⟨e0, -⟩ := hE'
    obtain ⟨p0, p1, p2, p3, p4, -⟩ := hL'
    obtain rfl := sg_tn hs'
    exact k0 L' e0 p0 p1 p2 p3 p4
def sg_sr_x0b_Z : List sg_z := [(0, [], [.inl (false, (0, .ofNat 0, .ofNat 0))], [(2, 3, (0, .ofNat 0, .ofNat 0), (2, .ofNat 1, .ofNat 0), (0, .ofNat 0, .ofNat 0))], [(1, [(.negSucc 2147483647, .negSucc 0), (.ofNat 58, .ofNat 2147483647)]), (2, [(.ofNat 0, .ofNat 0)]), (3, [(.ofNat 0, .ofNat 0)])], [], []),
  (0, [], [.inl (false, (0, .ofNat 0, .negSucc 11))], [(2, 2, (1, .ofNat 1, .ofNat 0), (0, .ofNat 0, .ofNat 0), (0, .ofNat 0, .ofNat 0)), (2, 2, (0, .ofNat 0, .ofNat 0), (2, .ofNat 1, .ofNat 0), (0, .ofNat 0, .ofNat 0))], [(1, [(.negSucc 2147483647, .negSucc 0)]), (2, [(.ofNat 1, .ofNat 16)]), (3, [(.ofNat 0, .ofNat 0)])], [], []),
  (0, [], [.inl (false, (0, .ofNat 0, .negSucc 11))], [(2, 0, (0, .ofNat 0, .ofNat 0), (0, .ofNat 0, .ofNat 0), (0, .ofNat 0, .ofNat 0)), (2, 4, (1, .ofNat 1, .ofNat 0), (4, .ofNat 1, .negSucc 2), (0, .ofNat 0, .ofNat 0)), (0, 114, (0, .ofNat 0, .ofNat 0), (4, .ofNat 1, .ofNat 0), (0, .ofNat 0, .ofNat 0)), (2, 3, (1, .ofNat 1, .ofNat 0), (0, .ofNat 0, .ofNat 0), (0, .ofNat 0, .ofNat 0)), (2, 3, (1, .ofNat 1, .ofNat 0), (0, .ofNat 0, .ofNat 0), (0, .ofNat 0, .ofNat 0)), (2, 2, (0, .ofNat 0, .ofNat 0), (2, .ofNat 1, .ofNat 0), (0, .ofNat 0, .ofNat 0))], [(1, [(.ofNat 58, .ofNat 2147483647)]), (2, [(.ofNat 1, .ofNat 16)]), (3, [(.ofNat 0, .ofNat 0)]), (4, [(.ofNat 0, .ofNat 60)])], [], [])]
set_option maxRecDepth 1000000 in
theorem sg_sr_x0b_g : sg_go [] [3] 3000 155 3 1 4 [(0, [(.ofNat 0, .ofNat 0)]), (1, [(.negSucc 2147483647, .negSucc 0), (.ofNat 58, .ofNat 2147483647)]), (2, [(.ofNat 0, .ofNat 16)]), (3, [(.ofNat 0, .ofNat 0)])] [] [] [] [(0, .inr (.inl [0])), (1, .inr (.inl [114])), (2, .inl (false, (1, .ofNat 1, .ofNat 0))), (3, .inl (false, (2, .ofNat 1, .ofNat 0))), (4, .inl (false, (3, .ofNat 1, .ofNat 0)))] [] [] sg_sr_x0b_Z = true := by decide +kernel
theorem sg_sr_x0b {Q : Option Value × am_S → Prop} {d : Nat} {S : am_S} {L : am_L} {x1 x2 x3 : Int} (hd : 1 ≤ d) (hP : ax_P0 none S) (l0 : lc L 0 0) (l1 : lc L 1 114) (l2 : li L 2 x1) (l3 : li L 3 x2) (l4 : li L 4 x3) (b1 : ((-2147483648) ≤ x1 ∧ x1 ≤ (-1)) ∨ (58 ≤ x1 ∧ x1 ≤ 2147483647)) (b2 : (0 ≤ x2 ∧ x2 ≤ 16)) (b3 : (0 ≤ x3 ∧ x3 ≤ 0))
    (k0 : ∀ (i1 : Int32), x2 ≤ 0 → ((-2147483648) ≤ x1 ∧ x1 ≤ (-1)) ∨ (58 ≤ x1 ∧ x1 ≤ 2147483647) → (0 ≤ x2 ∧ x2 ≤ 0) → (0 ≤ x3 ∧ x3 ≤ 0) → i1.toInt = 0 → Q (some (.int i1), S))
    (k1 : ∀ (i1 : Int32), 0 < x2 → x1 < 0 → ((-2147483648) ≤ x1 ∧ x1 ≤ (-1)) → (1 ≤ x2 ∧ x2 ≤ 16) → (0 ≤ x3 ∧ x3 ≤ 0) → i1.toInt = (-12) → Q (some (.int i1), S))
    (k2 : ∀ (x4 : Int) (i1 : Int32), 0 < x2 → 0 ≤ x1 → 0 ≤ x1 → rd S 114 0 = x4 → x4 + (-3) < x1 → (58 ≤ x1 ∧ x1 ≤ 2147483647) → (1 ≤ x2 ∧ x2 ≤ 16) → (0 ≤ x3 ∧ x3 ≤ 0) → (0 ≤ x4 ∧ x4 ≤ 60) → i1.toInt = (-12) → Q (some (.int i1), S)) : am_V none d 155 3 L ([]) S Q := by
  refine sg_use sg_sr_x0b_g hd hP (sg_xs [0, x1, x2, x3]) ⟨⟨Int.le_refl 0, Int.le_refl 0⟩, b1, b2, b3, trivial⟩ trivial trivial trivial ⟨l0, l1, l2, l3, l4, trivial⟩ trivial ?_
  intro z hz x' L' st' S' hx hP' hW hL' hs' hJ hE' hT' hD'
  have q1 : x' 1 = x1 := hx 1 (by decide)
  subst q1
  have q2 : x' 2 = x2 := hx 2 (by decide)
  subst q2
  have q3 : x' 3 = x3 := hx 3 (by decide)
  subst q3
  have eS : S' = S := hW.1 rfl
  subst eS
  simp only [sg_sr_x0b_Z, List.mem_cons, List.not_mem_nil, or_false] at hz
  rcases hz with rfl | rfl | rfl
  · obtain ⟨f0, hσ⟩ := hJ
    obtain ⟨e0, e1, e2, -⟩ := hE'
    intro v hv
    subst hv
    cases v with
    | none => exact hs'.elim
    | some v1 =>
      obtain ⟨⟨i1, rfl, g1⟩, -⟩ := hs'
      exact k0 i1 f0 e0 e1 e2 g1
  · obtain ⟨f0, f1, hσ⟩ := hJ
    obtain ⟨e0, e1, e2, -⟩ := hE'
    intro v hv
    subst hv
    cases v with
    | none => exact hs'.elim
    | some v1 =>
      obtain ⟨⟨i1, rfl, g1⟩, -⟩ := hs'
      exact k1 i1 f0 f1 e0 e1 e2 g1
  · obtain ⟨f0, f1, f2, f3, f4, -, hσ⟩ := hJ
    obtain ⟨e0, e1, e2, e3, -⟩ := hE'
    intro v hv
    subst hv
    cases v with
    | none => exact hs'.elim
    | some v1 =>
      obtain ⟨⟨i1, rfl, g1⟩, -⟩ := hs'
      exact k2 (x' 4) i1 f0 f1 f2 f3 f4 e0 e1 e2 e3 g1
def sg_sr_x0c_Z : List sg_z := [(0, [], [.inl (false, (0, .ofNat 0, .ofNat 0))], [(2, 3, (3, .ofNat 1, .ofNat 0), (2, .ofNat 1, .ofNat 0), (0, .ofNat 0, .ofNat 0))], [(1, [(.ofNat 0, .ofNat 57)]), (2, [(.ofNat 0, .ofNat 16)]), (3, [(.ofNat 0, .ofNat 16)])], [], []),
  (0, [], [.inl (false, (0, .ofNat 0, .negSucc 11))], [(2, 0, (0, .ofNat 0, .ofNat 0), (0, .ofNat 0, .ofNat 0), (0, .ofNat 0, .ofNat 0)), (2, 4, (4, .ofNat 1, .ofNat 0), (5, .ofNat 1, .negSucc 2), (0, .ofNat 0, .ofNat 0)), (0, 114, (0, .ofNat 0, .ofNat 0), (5, .ofNat 1, .ofNat 0), (0, .ofNat 0, .ofNat 0)), (2, 3, (4, .ofNat 1, .ofNat 0), (0, .ofNat 0, .ofNat 0), (0, .ofNat 0, .ofNat 0)), (2, 3, (1, .ofNat 1, .ofNat 0), (0, .ofNat 0, .ofNat 0), (0, .ofNat 0, .ofNat 0)), (2, 2, (3, .ofNat 1, .ofNat 0), (2, .ofNat 1, .ofNat 0), (0, .ofNat 0, .ofNat 0))], [(1, [(.ofNat 0, .ofNat 57)]), (2, [(.ofNat 1, .ofNat 16)]), (3, [(.ofNat 0, .ofNat 15)]), (4, [(.ofNat 0, .ofNat 102)]), (5, [(.ofNat 0, .ofNat 60)])], [((1, .ofNat 1, .ofNat 0), (3, .ofNat 3, .ofNat 0), (4, .ofNat 1, .ofNat 0))], []),
  (0, [], [.inl (false, (0, .ofNat 0, .negSucc 20))], [(2, 1, (0, .ofNat 0, .negSucc 0), (0, .ofNat 0, .ofNat 0), (0, .ofNat 0, .ofNat 0)), (2, 0, (0, .ofNat 0, .ofNat 0), (0, .ofNat 0, .ofNat 0), (0, .ofNat 0, .ofNat 0)), (2, 2, (6, .ofNat 1, .ofNat 0), (0, .ofNat 0, .ofNat 1), (0, .ofNat 0, .ofNat 0)), (0, 115, (4, .ofNat 1, .ofNat 2), (8, .ofNat 1, .ofNat 0), (0, .ofNat 0, .ofNat 0)), (0, 115, (4, .ofNat 1, .ofNat 1), (7, .ofNat 1, .ofNat 0), (0, .ofNat 0, .ofNat 0)), (0, 115, (4, .ofNat 1, .ofNat 0), (6, .ofNat 1, .ofNat 0), (0, .ofNat 0, .ofNat 0)), (2, 1, (0, .ofNat 0, .ofNat 1), (0, .ofNat 0, .ofNat 0), (0, .ofNat 0, .ofNat 0)), (2, 5, (4, .ofNat 1, .ofNat 0), (5, .ofNat 1, .negSucc 2), (0, .ofNat 0, .ofNat 0)), (0, 114, (0, .ofNat 0, .ofNat 0), (5, .ofNat 1, .ofNat 0), (0, .ofNat 0, .ofNat 0)), (2, 3, (4, .ofNat 1, .ofNat 0), (0, .ofNat 0, .ofNat 0), (0, .ofNat 0, .ofNat 0)), (2, 3, (1, .ofNat 1, .ofNat 0), (0, .ofNat 0, .ofNat 0), (0, .ofNat 0, .ofNat 0)), (2, 2, (3, .ofNat 1, .ofNat 0), (2, .ofNat 1, .ofNat 0), (0, .ofNat 0, .ofNat 0))], [(1, [(.ofNat 0, .ofNat 57)]), (2, [(.ofNat 1, .ofNat 16)]), (3, [(.ofNat 0, .ofNat 15)]), (4, [(.ofNat 0, .ofNat 57)]), (5, [(.ofNat 3, .ofNat 60)]), (6, [(.negSucc 2147483647, .ofNat 0)])], [((1, .ofNat 1, .ofNat 0), (3, .ofNat 3, .ofNat 0), (4, .ofNat 1, .ofNat 0))], []),
  (0, [], [.inl (false, (0, .ofNat 0, .negSucc 20))], [(2, 1, (0, .ofNat 0, .negSucc 0), (0, .ofNat 0, .ofNat 0), (0, .ofNat 0, .ofNat 0)), (2, 0, (0, .ofNat 0, .ofNat 0), (0, .ofNat 0, .ofNat 0), (0, .ofNat 0, .ofNat 0)), (2, 4, (6, .ofNat 1, .ofNat 0), (0, .ofNat 0, .ofNat 1000000), (0, .ofNat 0, .ofNat 0)), (2, 3, (6, .ofNat 1, .ofNat 0), (0, .ofNat 0, .ofNat 1), (0, .ofNat 0, .ofNat 0)), (0, 115, (4, .ofNat 1, .ofNat 2), (8, .ofNat 1, .ofNat 0), (0, .ofNat 0, .ofNat 0)), (0, 115, (4, .ofNat 1, .ofNat 1), (7, .ofNat 1, .ofNat 0), (0, .ofNat 0, .ofNat 0)), (0, 115, (4, .ofNat 1, .ofNat 0), (6, .ofNat 1, .ofNat 0), (0, .ofNat 0, .ofNat 0)), (2, 1, (0, .ofNat 0, .ofNat 1), (0, .ofNat 0, .ofNat 0), (0, .ofNat 0, .ofNat 0)), (2, 5, (4, .ofNat 1, .ofNat 0), (5, .ofNat 1, .negSucc 2), (0, .ofNat 0, .ofNat 0)), (0, 114, (0, .ofNat 0, .ofNat 0), (5, .ofNat 1, .ofNat 0), (0, .ofNat 0, .ofNat 0)), (2, 3, (4, .ofNat 1, .ofNat 0), (0, .ofNat 0, .ofNat 0), (0, .ofNat 0, .ofNat 0)), (2, 3, (1, .ofNat 1, .ofNat 0), (0, .ofNat 0, .ofNat 0), (0, .ofNat 0, .ofNat 0)), (2, 2, (3, .ofNat 1, .ofNat 0), (2, .ofNat 1, .ofNat 0), (0, .ofNat 0, .ofNat 0))], [(1, [(.ofNat 0, .ofNat 57)]), (2, [(.ofNat 1, .ofNat 16)]), (3, [(.ofNat 0, .ofNat 15)]), (4, [(.ofNat 0, .ofNat 57)]), (5, [(.ofNat 3, .ofNat 60)]), (6, [(.ofNat 1000001, .ofNat 2147483647)])], [((1, .ofNat 1, .ofNat 0), (3, .ofNat 3, .ofNat 0), (4, .ofNat 1, .ofNat 0))], []),
  (0, [], [.inl (false, (0, .ofNat 0, .negSucc 20))], [(2, 1, (0, .ofNat 0, .negSucc 0), (0, .ofNat 0, .ofNat 0), (0, .ofNat 0, .ofNat 0)), (2, 0, (0, .ofNat 0, .ofNat 0), (0, .ofNat 0, .ofNat 0), (0, .ofNat 0, .ofNat 0)), (2, 2, (7, .ofNat 1, .ofNat 0), (0, .ofNat 0, .ofNat 0), (0, .ofNat 0, .ofNat 0)), (2, 5, (6, .ofNat 1, .ofNat 0), (0, .ofNat 0, .ofNat 1000000), (0, .ofNat 0, .ofNat 0)), (2, 3, (6, .ofNat 1, .ofNat 0), (0, .ofNat 0, .ofNat 1), (0, .ofNat 0, .ofNat 0)), (0, 115, (4, .ofNat 1, .ofNat 2), (8, .ofNat 1, .ofNat 0), (0, .ofNat 0, .ofNat 0)), (0, 115, (4, .ofNat 1, .ofNat 1), (7, .ofNat 1, .ofNat 0), (0, .ofNat 0, .ofNat 0)), (0, 115, (4, .ofNat 1, .ofNat 0), (6, .ofNat 1, .ofNat 0), (0, .ofNat 0, .ofNat 0)), (2, 1, (0, .ofNat 0, .ofNat 1), (0, .ofNat 0, .ofNat 0), (0, .ofNat 0, .ofNat 0)), (2, 5, (4, .ofNat 1, .ofNat 0), (5, .ofNat 1, .negSucc 2), (0, .ofNat 0, .ofNat 0)), (0, 114, (0, .ofNat 0, .ofNat 0), (5, .ofNat 1, .ofNat 0), (0, .ofNat 0, .ofNat 0)), (2, 3, (4, .ofNat 1, .ofNat 0), (0, .ofNat 0, .ofNat 0), (0, .ofNat 0, .ofNat 0)), (2, 3, (1, .ofNat 1, .ofNat 0), (0, .ofNat 0, .ofNat 0), (0, .ofNat 0, .ofNat 0)), (2, 2, (3, .ofNat 1, .ofNat 0), (2, .ofNat 1, .ofNat 0), (0, .ofNat 0, .ofNat 0))], [(1, [(.ofNat 0, .ofNat 57)]), (2, [(.ofNat 1, .ofNat 16)]), (3, [(.ofNat 0, .ofNat 15)]), (4, [(.ofNat 0, .ofNat 57)]), (5, [(.ofNat 3, .ofNat 60)]), (6, [(.ofNat 1, .ofNat 1000000)]), (7, [(.negSucc 2147483647, .negSucc 0)])], [((1, .ofNat 1, .ofNat 0), (3, .ofNat 3, .ofNat 0), (4, .ofNat 1, .ofNat 0))], []),
  (0, [], [.inl (false, (0, .ofNat 0, .negSucc 20))], [(2, 1, (0, .ofNat 0, .negSucc 0), (0, .ofNat 0, .ofNat 0), (0, .ofNat 0, .ofNat 0)), (2, 0, (0, .ofNat 0, .ofNat 0), (0, .ofNat 0, .ofNat 0), (0, .ofNat 0, .ofNat 0)), (2, 4, (7, .ofNat 1, .ofNat 0), (0, .ofNat 0, .ofNat 1000), (0, .ofNat 0, .ofNat 0)), (2, 3, (7, .ofNat 1, .ofNat 0), (0, .ofNat 0, .ofNat 0), (0, .ofNat 0, .ofNat 0)), (2, 5, (6, .ofNat 1, .ofNat 0), (0, .ofNat 0, .ofNat 1000000), (0, .ofNat 0, .ofNat 0)), (2, 3, (6, .ofNat 1, .ofNat 0), (0, .ofNat 0, .ofNat 1), (0, .ofNat 0, .ofNat 0)), (0, 115, (4, .ofNat 1, .ofNat 2), (8, .ofNat 1, .ofNat 0), (0, .ofNat 0, .ofNat 0)), (0, 115, (4, .ofNat 1, .ofNat 1), (7, .ofNat 1, .ofNat 0), (0, .ofNat 0, .ofNat 0)), (0, 115, (4, .ofNat 1, .ofNat 0), (6, .ofNat 1, .ofNat 0), (0, .ofNat 0, .ofNat 0)), (2, 1, (0, .ofNat 0, .ofNat 1), (0, .ofNat 0, .ofNat 0), (0, .ofNat 0, .ofNat 0)), (2, 5, (4, .ofNat 1, .ofNat 0), (5, .ofNat 1, .negSucc 2), (0, .ofNat 0, .ofNat 0)), (0, 114, (0, .ofNat 0, .ofNat 0), (5, .ofNat 1, .ofNat 0), (0, .ofNat 0, .ofNat 0)), (2, 3, (4, .ofNat 1, .ofNat 0), (0, .ofNat 0, .ofNat 0), (0, .ofNat 0, .ofNat 0)), (2, 3, (1, .ofNat 1, .ofNat 0), (0, .ofNat 0, .ofNat 0), (0, .ofNat 0, .ofNat 0)), (2, 2, (3, .ofNat 1, .ofNat 0), (2, .ofNat 1, .ofNat 0), (0, .ofNat 0, .ofNat 0))], [(1, [(.ofNat 0, .ofNat 57)]), (2, [(.ofNat 1, .ofNat 16)]), (3, [(.ofNat 0, .ofNat 15)]), (4, [(.ofNat 0, .ofNat 57)]), (5, [(.ofNat 3, .ofNat 60)]), (6, [(.ofNat 1, .ofNat 1000000)]), (7, [(.ofNat 1001, .ofNat 2147483647)])], [((1, .ofNat 1, .ofNat 0), (3, .ofNat 3, .ofNat 0), (4, .ofNat 1, .ofNat 0))], []),
  (0, [], [.inl (false, (0, .ofNat 0, .negSucc 20))], [(2, 1, (0, .ofNat 0, .negSucc 0), (0, .ofNat 0, .ofNat 0), (0, .ofNat 0, .ofNat 0)), (2, 0, (0, .ofNat 0, .ofNat 0), (0, .ofNat 0, .ofNat 0), (0, .ofNat 0, .ofNat 0)), (2, 2, (8, .ofNat 1, .ofNat 0), (0, .ofNat 0, .ofNat 0), (0, .ofNat 0, .ofNat 0)), (2, 5, (7, .ofNat 1, .ofNat 0), (0, .ofNat 0, .ofNat 1000), (0, .ofNat 0, .ofNat 0)), (2, 3, (7, .ofNat 1, .ofNat 0), (0, .ofNat 0, .ofNat 0), (0, .ofNat 0, .ofNat 0)), (2, 5, (6, .ofNat 1, .ofNat 0), (0, .ofNat 0, .ofNat 1000000), (0, .ofNat 0, .ofNat 0)), (2, 3, (6, .ofNat 1, .ofNat 0), (0, .ofNat 0, .ofNat 1), (0, .ofNat 0, .ofNat 0)), (0, 115, (4, .ofNat 1, .ofNat 2), (8, .ofNat 1, .ofNat 0), (0, .ofNat 0, .ofNat 0)), (0, 115, (4, .ofNat 1, .ofNat 1), (7, .ofNat 1, .ofNat 0), (0, .ofNat 0, .ofNat 0)), (0, 115, (4, .ofNat 1, .ofNat 0), (6, .ofNat 1, .ofNat 0), (0, .ofNat 0, .ofNat 0)), (2, 1, (0, .ofNat 0, .ofNat 1), (0, .ofNat 0, .ofNat 0), (0, .ofNat 0, .ofNat 0)), (2, 5, (4, .ofNat 1, .ofNat 0), (5, .ofNat 1, .negSucc 2), (0, .ofNat 0, .ofNat 0)), (0, 114, (0, .ofNat 0, .ofNat 0), (5, .ofNat 1, .ofNat 0), (0, .ofNat 0, .ofNat 0)), (2, 3, (4, .ofNat 1, .ofNat 0), (0, .ofNat 0, .ofNat 0), (0, .ofNat 0, .ofNat 0)), (2, 3, (1, .ofNat 1, .ofNat 0), (0, .ofNat 0, .ofNat 0), (0, .ofNat 0, .ofNat 0)), (2, 2, (3, .ofNat 1, .ofNat 0), (2, .ofNat 1, .ofNat 0), (0, .ofNat 0, .ofNat 0))], [(1, [(.ofNat 0, .ofNat 57)]), (2, [(.ofNat 1, .ofNat 16)]), (3, [(.ofNat 0, .ofNat 15)]), (4, [(.ofNat 0, .ofNat 57)]), (5, [(.ofNat 3, .ofNat 60)]), (6, [(.ofNat 1, .ofNat 1000000)]), (7, [(.ofNat 0, .ofNat 1000)]), (8, [(.negSucc 2147483647, .negSucc 0)])], [((1, .ofNat 1, .ofNat 0), (3, .ofNat 3, .ofNat 0), (4, .ofNat 1, .ofNat 0))], []),
  (0, [], [.inl (false, (0, .ofNat 0, .negSucc 20))], [(2, 1, (0, .ofNat 0, .negSucc 0), (0, .ofNat 0, .ofNat 0), (0, .ofNat 0, .ofNat 0)), (2, 0, (0, .ofNat 0, .ofNat 0), (0, .ofNat 0, .ofNat 0), (0, .ofNat 0, .ofNat 0)), (2, 4, (8, .ofNat 1, .ofNat 0), (0, .ofNat 0, .ofNat 999), (0, .ofNat 0, .ofNat 0)), (2, 3, (8, .ofNat 1, .ofNat 0), (0, .ofNat 0, .ofNat 0), (0, .ofNat 0, .ofNat 0)), (2, 5, (7, .ofNat 1, .ofNat 0), (0, .ofNat 0, .ofNat 1000), (0, .ofNat 0, .ofNat 0)), (2, 3, (7, .ofNat 1, .ofNat 0), (0, .ofNat 0, .ofNat 0), (0, .ofNat 0, .ofNat 0)), (2, 5, (6, .ofNat 1, .ofNat 0), (0, .ofNat 0, .ofNat 1000000), (0, .ofNat 0, .ofNat 0)), (2, 3, (6, .ofNat 1, .ofNat 0), (0, .ofNat 0, .ofNat 1), (0, .ofNat 0, .ofNat 0)), (0, 115, (4, .ofNat 1, .ofNat 2), (8, .ofNat 1, .ofNat 0), (0, .ofNat 0, .ofNat 0)), (0, 115, (4, .ofNat 1, .ofNat 1), (7, .ofNat 1, .ofNat 0), (0, .ofNat 0, .ofNat 0)), (0, 115, (4, .ofNat 1, .ofNat 0), (6, .ofNat 1, .ofNat 0), (0, .ofNat 0, .ofNat 0)), (2, 1, (0, .ofNat 0, .ofNat 1), (0, .ofNat 0, .ofNat 0), (0, .ofNat 0, .ofNat 0)), (2, 5, (4, .ofNat 1, .ofNat 0), (5, .ofNat 1, .negSucc 2), (0, .ofNat 0, .ofNat 0)), (0, 114, (0, .ofNat 0, .ofNat 0), (5, .ofNat 1, .ofNat 0), (0, .ofNat 0, .ofNat 0)), (2, 3, (4, .ofNat 1, .ofNat 0), (0, .ofNat 0, .ofNat 0), (0, .ofNat 0, .ofNat 0)), (2, 3, (1, .ofNat 1, .ofNat 0), (0, .ofNat 0, .ofNat 0), (0, .ofNat 0, .ofNat 0)), (2, 2, (3, .ofNat 1, .ofNat 0), (2, .ofNat 1, .ofNat 0), (0, .ofNat 0, .ofNat 0))], [(1, [(.ofNat 0, .ofNat 57)]), (2, [(.ofNat 1, .ofNat 16)]), (3, [(.ofNat 0, .ofNat 15)]), (4, [(.ofNat 0, .ofNat 57)]), (5, [(.ofNat 3, .ofNat 60)]), (6, [(.ofNat 1, .ofNat 1000000)]), (7, [(.ofNat 0, .ofNat 1000)]), (8, [(.ofNat 1000, .ofNat 2147483647)])], [((1, .ofNat 1, .ofNat 0), (3, .ofNat 3, .ofNat 0), (4, .ofNat 1, .ofNat 0))], []),
  (4, [(0, .inr (.inl [0])), (1, .inr (.inl [114])), (2, .inl (false, (1, .ofNat 1, .ofNat 0))), (3, .inl (false, (2, .ofNat 1, .ofNat 0))), (4, .inl (false, (3, .ofNat 1, .ofNat 1))), (5, .inl (false, (4, .ofNat 1, .ofNat 0))), (6, .inl (false, (0, .ofNat 0, .ofNat 0)))], [], [(2, 0, (0, .ofNat 0, .ofNat 0), (0, .ofNat 0, .ofNat 0), (0, .ofNat 0, .ofNat 0)), (2, 2, (10, .ofNat 1, .ofNat 0), (0, .ofNat 0, .ofNat 16), (0, .ofNat 0, .ofNat 0)), (0, 6, (0, .ofNat 0, .ofNat 0), (9, .ofNat 1, .ofNat 0), (0, .ofNat 0, .ofNat 0)), (2, 1, (0, .ofNat 0, .ofNat 1), (0, .ofNat 0, .ofNat 0), (0, .ofNat 0, .ofNat 0)), (2, 5, (8, .ofNat 1, .ofNat 0), (0, .ofNat 0, .ofNat 999), (0, .ofNat 0, .ofNat 0)), (2, 3, (8, .ofNat 1, .ofNat 0), (0, .ofNat 0, .ofNat 0), (0, .ofNat 0, .ofNat 0)), (2, 5, (7, .ofNat 1, .ofNat 0), (0, .ofNat 0, .ofNat 1000), (0, .ofNat 0, .ofNat 0)), (2, 3, (7, .ofNat 1, .ofNat 0), (0, .ofNat 0, .ofNat 0), (0, .ofNat 0, .ofNat 0)), (2, 5, (6, .ofNat 1, .ofNat 0), (0, .ofNat 0, .ofNat 1000000), (0, .ofNat 0, .ofNat 0)), (2, 3, (6, .ofNat 1, .ofNat 0), (0, .ofNat 0, .ofNat 1), (0, .ofNat 0, .ofNat 0)), (0, 115, (4, .ofNat 1, .ofNat 2), (8, .ofNat 1, .ofNat 0), (0, .ofNat 0, .ofNat 0)), (0, 115, (4, .ofNat 1, .ofNat 1), (7, .ofNat 1, .ofNat 0), (0, .ofNat 0, .ofNat 0)), (0, 115, (4, .ofNat 1, .ofNat 0), (6, .ofNat 1, .ofNat 0), (0, .ofNat 0, .ofNat 0)), (2, 1, (0, .ofNat 0, .ofNat 1), (0, .ofNat 0, .ofNat 0), (0, .ofNat 0, .ofNat 0)), (2, 5, (4, .ofNat 1, .ofNat 0), (5, .ofNat 1, .negSucc 2), (0, .ofNat 0, .ofNat 0)), (0, 114, (0, .ofNat 0, .ofNat 0), (5, .ofNat 1, .ofNat 0), (0, .ofNat 0, .ofNat 0)), (2, 3, (4, .ofNat 1, .ofNat 0), (0, .ofNat 0, .ofNat 0), (0, .ofNat 0, .ofNat 0)), (2, 3, (1, .ofNat 1, .ofNat 0), (0, .ofNat 0, .ofNat 0), (0, .ofNat 0, .ofNat 0)), (2, 2, (3, .ofNat 1, .ofNat 0), (2, .ofNat 1, .ofNat 0), (0, .ofNat 0, .ofNat 0))], [(1, [(.ofNat 0, .ofNat 57)]), (2, [(.ofNat 1, .ofNat 16)]), (3, [(.ofNat 0, .ofNat 15)]), (4, [(.ofNat 0, .ofNat 57)]), (5, [(.ofNat 3, .ofNat 60)]), (6, [(.ofNat 1, .ofNat 1000000)]), (7, [(.ofNat 0, .ofNat 1000)]), (8, [(.ofNat 0, .ofNat 999)]), (9, [(.ofNat 0, .ofNat 16)]), (10, [(.ofNat 0, .ofNat 15)])], [((9, .ofNat 1, .ofNat 0), (3, .ofNat 1, .ofNat 0), (10, .ofNat 1, .ofNat 0)), ((1, .ofNat 1, .ofNat 0), (3, .ofNat 3, .ofNat 0), (4, .ofNat 1, .ofNat 0))], []),
  (0, [], [.inl (false, (0, .ofNat 0, .negSucc 22))], [(2, 1, (0, .ofNat 0, .negSucc 2), (0, .ofNat 0, .ofNat 0), (0, .ofNat 0, .ofNat 0)), (2, 3, (10, .ofNat 1, .ofNat 0), (0, .ofNat 0, .ofNat 16), (0, .ofNat 0, .ofNat 0)), (0, 6, (0, .ofNat 0, .ofNat 0), (9, .ofNat 1, .ofNat 0), (0, .ofNat 0, .ofNat 0)), (2, 1, (0, .ofNat 0, .ofNat 1), (0, .ofNat 0, .ofNat 0), (0, .ofNat 0, .ofNat 0)), (2, 5, (8, .ofNat 1, .ofNat 0), (0, .ofNat 0, .ofNat 999), (0, .ofNat 0, .ofNat 0)), (2, 3, (8, .ofNat 1, .ofNat 0), (0, .ofNat 0, .ofNat 0), (0, .ofNat 0, .ofNat 0)), (2, 5, (7, .ofNat 1, .ofNat 0), (0, .ofNat 0, .ofNat 1000), (0, .ofNat 0, .ofNat 0)), (2, 3, (7, .ofNat 1, .ofNat 0), (0, .ofNat 0, .ofNat 0), (0, .ofNat 0, .ofNat 0)), (2, 5, (6, .ofNat 1, .ofNat 0), (0, .ofNat 0, .ofNat 1000000), (0, .ofNat 0, .ofNat 0)), (2, 3, (6, .ofNat 1, .ofNat 0), (0, .ofNat 0, .ofNat 1), (0, .ofNat 0, .ofNat 0)), (0, 115, (4, .ofNat 1, .ofNat 2), (8, .ofNat 1, .ofNat 0), (0, .ofNat 0, .ofNat 0)), (0, 115, (4, .ofNat 1, .ofNat 1), (7, .ofNat 1, .ofNat 0), (0, .ofNat 0, .ofNat 0)), (0, 115, (4, .ofNat 1, .ofNat 0), (6, .ofNat 1, .ofNat 0), (0, .ofNat 0, .ofNat 0)), (2, 1, (0, .ofNat 0, .ofNat 1), (0, .ofNat 0, .ofNat 0), (0, .ofNat 0, .ofNat 0)), (2, 5, (4, .ofNat 1, .ofNat 0), (5, .ofNat 1, .negSucc 2), (0, .ofNat 0, .ofNat 0)), (0, 114, (0, .ofNat 0, .ofNat 0), (5, .ofNat 1, .ofNat 0), (0, .ofNat 0, .ofNat 0)), (2, 3, (4, .ofNat 1, .ofNat 0), (0, .ofNat 0, .ofNat 0), (0, .ofNat 0, .ofNat 0)), (2, 3, (1, .ofNat 1, .ofNat 0), (0, .ofNat 0, .ofNat 0), (0, .ofNat 0, .ofNat 0)), (2, 2, (3, .ofNat 1, .ofNat 0), (2, .ofNat 1, .ofNat 0), (0, .ofNat 0, .ofNat 0))], [(1, [(.ofNat 0, .ofNat 57)]), (2, [(.ofNat 1, .ofNat 16)]), (3, [(.ofNat 0, .ofNat 15)]), (4, [(.ofNat 0, .ofNat 57)]), (5, [(.ofNat 3, .ofNat 60)]), (6, [(.ofNat 1, .ofNat 1000000)]), (7, [(.ofNat 0, .ofNat 1000)]), (8, [(.ofNat 0, .ofNat 999)]), (9, [(.ofNat 0, .ofNat 16)]), (10, [(.ofNat 16, .ofNat 31)])], [((9, .ofNat 1, .ofNat 0), (3, .ofNat 1, .ofNat 0), (10, .ofNat 1, .ofNat 0)), ((1, .ofNat 1, .ofNat 0), (3, .ofNat 3, .ofNat 0), (4, .ofNat 1, .ofNat 0))], [])]
set_option maxRecDepth 1000000 in
theorem sg_sr_x0c_g : sg_go [] [3] 3000 155 3 1 4 [(0, [(.ofNat 0, .ofNat 0)]), (1, [(.ofNat 0, .ofNat 57)]), (2, [(.ofNat 0, .ofNat 16)]), (3, [(.ofNat 0, .ofNat 16)])] [] [] [] [(0, .inr (.inl [0])), (1, .inr (.inl [114])), (2, .inl (false, (1, .ofNat 1, .ofNat 0))), (3, .inl (false, (2, .ofNat 1, .ofNat 0))), (4, .inl (false, (3, .ofNat 1, .ofNat 0)))] [] [] sg_sr_x0c_Z = true := by decide +kernel
theorem sg_sr_x0c {Q : Option Value × am_S → Prop} {d : Nat} {S : am_S} {L : am_L} {x1 x2 x3 : Int} (hd : 1 ≤ d) (hP : ax_P0 none S) (l0 : lc L 0 0) (l1 : lc L 1 114) (l2 : li L 2 x1) (l3 : li L 3 x2) (l4 : li L 4 x3) (b1 : (0 ≤ x1 ∧ x1 ≤ 57)) (b2 : (0 ≤ x2 ∧ x2 ≤ 16)) (b3 : (0 ≤ x3 ∧ x3 ≤ 16))
    (k0 : ∀ (i1 : Int32), x2 ≤ x3 → (0 ≤ x1 ∧ x1 ≤ 57) → (0 ≤ x2 ∧ x2 ≤ 16) → (0 ≤ x3 ∧ x3 ≤ 16) → i1.toInt = 0 → Q (some (.int i1), S))
    (k1 : ∀ (x4 x5 : Int) (i1 : Int32), x3 < x2 → 0 ≤ x1 → 0 ≤ x4 → rd S 114 0 = x5 → x5 + (-3) < x4 → (0 ≤ x1 ∧ x1 ≤ 57) → (1 ≤ x2 ∧ x2 ≤ 16) → (0 ≤ x3 ∧ x3 ≤ 15) → (0 ≤ x4 ∧ x4 ≤ 102) → (0 ≤ x5 ∧ x5 ≤ 60) → x1 + (3 * x3 + 0) = x4 → i1.toInt = (-12) → Q (some (.int i1), S))
    (k2 : ∀ (x4 x5 x6 x7 x8 : Int) (i1 : Int32), x3 < x2 → 0 ≤ x1 → 0 ≤ x4 → rd S 114 0 = x5 → x4 ≤ x5 + (-3) → rd S 115 x4 = x6 → rd S 115 (x4 + 1) = x7 → rd S 115 (x4 + 2) = x8 → x6 < 1 → (0 ≤ x1 ∧ x1 ≤ 57) → (1 ≤ x2 ∧ x2 ≤ 16) → (0 ≤ x3 ∧ x3 ≤ 15) → (0 ≤ x4 ∧ x4 ≤ 57) → (3 ≤ x5 ∧ x5 ≤ 60) → ((-2147483648) ≤ x6 ∧ x6 ≤ 0) → x1 + (3 * x3 + 0) = x4 → i1.toInt = (-21) → Q (some (.int i1), S))
    (k3 : ∀ (x4 x5 x6 x7 x8 : Int) (i1 : Int32), x3 < x2 → 0 ≤ x1 → 0 ≤ x4 → rd S 114 0 = x5 → x4 ≤ x5 + (-3) → rd S 115 x4 = x6 → rd S 115 (x4 + 1) = x7 → rd S 115 (x4 + 2) = x8 → 1 ≤ x6 → 1000000 < x6 → (0 ≤ x1 ∧ x1 ≤ 57) → (1 ≤ x2 ∧ x2 ≤ 16) → (0 ≤ x3 ∧ x3 ≤ 15) → (0 ≤ x4 ∧ x4 ≤ 57) → (3 ≤ x5 ∧ x5 ≤ 60) → (1000001 ≤ x6 ∧ x6 ≤ 2147483647) → x1 + (3 * x3 + 0) = x4 → i1.toInt = (-21) → Q (some (.int i1), S))
    (k4 : ∀ (x4 x5 x6 x7 x8 : Int) (i1 : Int32), x3 < x2 → 0 ≤ x1 → 0 ≤ x4 → rd S 114 0 = x5 → x4 ≤ x5 + (-3) → rd S 115 x4 = x6 → rd S 115 (x4 + 1) = x7 → rd S 115 (x4 + 2) = x8 → 1 ≤ x6 → x6 ≤ 1000000 → x7 < 0 → (0 ≤ x1 ∧ x1 ≤ 57) → (1 ≤ x2 ∧ x2 ≤ 16) → (0 ≤ x3 ∧ x3 ≤ 15) → (0 ≤ x4 ∧ x4 ≤ 57) → (3 ≤ x5 ∧ x5 ≤ 60) → (1 ≤ x6 ∧ x6 ≤ 1000000) → ((-2147483648) ≤ x7 ∧ x7 ≤ (-1)) → x1 + (3 * x3 + 0) = x4 → i1.toInt = (-21) → Q (some (.int i1), S))
    (k5 : ∀ (x4 x5 x6 x7 x8 : Int) (i1 : Int32), x3 < x2 → 0 ≤ x1 → 0 ≤ x4 → rd S 114 0 = x5 → x4 ≤ x5 + (-3) → rd S 115 x4 = x6 → rd S 115 (x4 + 1) = x7 → rd S 115 (x4 + 2) = x8 → 1 ≤ x6 → x6 ≤ 1000000 → 0 ≤ x7 → 1000 < x7 → (0 ≤ x1 ∧ x1 ≤ 57) → (1 ≤ x2 ∧ x2 ≤ 16) → (0 ≤ x3 ∧ x3 ≤ 15) → (0 ≤ x4 ∧ x4 ≤ 57) → (3 ≤ x5 ∧ x5 ≤ 60) → (1 ≤ x6 ∧ x6 ≤ 1000000) → (1001 ≤ x7 ∧ x7 ≤ 2147483647) → x1 + (3 * x3 + 0) = x4 → i1.toInt = (-21) → Q (some (.int i1), S))
    (k6 : ∀ (x4 x5 x6 x7 x8 : Int) (i1 : Int32), x3 < x2 → 0 ≤ x1 → 0 ≤ x4 → rd S 114 0 = x5 → x4 ≤ x5 + (-3) → rd S 115 x4 = x6 → rd S 115 (x4 + 1) = x7 → rd S 115 (x4 + 2) = x8 → 1 ≤ x6 → x6 ≤ 1000000 → 0 ≤ x7 → x7 ≤ 1000 → x8 < 0 → (0 ≤ x1 ∧ x1 ≤ 57) → (1 ≤ x2 ∧ x2 ≤ 16) → (0 ≤ x3 ∧ x3 ≤ 15) → (0 ≤ x4 ∧ x4 ≤ 57) → (3 ≤ x5 ∧ x5 ≤ 60) → (1 ≤ x6 ∧ x6 ≤ 1000000) → (0 ≤ x7 ∧ x7 ≤ 1000) → ((-2147483648) ≤ x8 ∧ x8 ≤ (-1)) → x1 + (3 * x3 + 0) = x4 → i1.toInt = (-21) → Q (some (.int i1), S))
    (k7 : ∀ (x4 x5 x6 x7 x8 : Int) (i1 : Int32), x3 < x2 → 0 ≤ x1 → 0 ≤ x4 → rd S 114 0 = x5 → x4 ≤ x5 + (-3) → rd S 115 x4 = x6 → rd S 115 (x4 + 1) = x7 → rd S 115 (x4 + 2) = x8 → 1 ≤ x6 → x6 ≤ 1000000 → 0 ≤ x7 → x7 ≤ 1000 → 0 ≤ x8 → 999 < x8 → (0 ≤ x1 ∧ x1 ≤ 57) → (1 ≤ x2 ∧ x2 ≤ 16) → (0 ≤ x3 ∧ x3 ≤ 15) → (0 ≤ x4 ∧ x4 ≤ 57) → (3 ≤ x5 ∧ x5 ≤ 60) → (1 ≤ x6 ∧ x6 ≤ 1000000) → (0 ≤ x7 ∧ x7 ≤ 1000) → (1000 ≤ x8 ∧ x8 ≤ 2147483647) → x1 + (3 * x3 + 0) = x4 → i1.toInt = (-21) → Q (some (.int i1), S))
    (k8 : ∀ (x4 x5 x6 x7 x8 x9 x10 : Int) (L' : am_L), x3 < x2 → 0 ≤ x1 → 0 ≤ x4 → rd S 114 0 = x5 → x4 ≤ x5 + (-3) → rd S 115 x4 = x6 → rd S 115 (x4 + 1) = x7 → rd S 115 (x4 + 2) = x8 → 1 ≤ x6 → x6 ≤ 1000000 → 0 ≤ x7 → x7 ≤ 1000 → 0 ≤ x8 → x8 ≤ 999 → rd S 6 0 = x9 → x10 < 16 → (0 ≤ x1 ∧ x1 ≤ 57) → (1 ≤ x2 ∧ x2 ≤ 16) → (0 ≤ x3 ∧ x3 ≤ 15) → (0 ≤ x4 ∧ x4 ≤ 57) → (3 ≤ x5 ∧ x5 ≤ 60) → (1 ≤ x6 ∧ x6 ≤ 1000000) → (0 ≤ x7 ∧ x7 ≤ 1000) → (0 ≤ x8 ∧ x8 ≤ 999) → (0 ≤ x9 ∧ x9 ≤ 16) → (0 ≤ x10 ∧ x10 ≤ 15) → x9 + x3 = x10 → x1 + (3 * x3 + 0) = x4 → lc L' 0 0 → lc L' 1 114 → li L' 2 x1 → li L' 3 x2 → li L' 4 (x3 + 1) → li L' 5 x4 → li L' 6 0 → am_V none d 155 3 L' ([]) S Q)
    (k9 : ∀ (x4 x5 x6 x7 x8 x9 x10 : Int) (i1 : Int32), x3 < x2 → 0 ≤ x1 → 0 ≤ x4 → rd S 114 0 = x5 → x4 ≤ x5 + (-3) → rd S 115 x4 = x6 → rd S 115 (x4 + 1) = x7 → rd S 115 (x4 + 2) = x8 → 1 ≤ x6 → x6 ≤ 1000000 → 0 ≤ x7 → x7 ≤ 1000 → 0 ≤ x8 → x8 ≤ 999 → rd S 6 0 = x9 → 16 ≤ x10 → (0 ≤ x1 ∧ x1 ≤ 57) → (1 ≤ x2 ∧ x2 ≤ 16) → (0 ≤ x3 ∧ x3 ≤ 15) → (0 ≤ x4 ∧ x4 ≤ 57) → (3 ≤ x5 ∧ x5 ≤ 60) → (1 ≤ x6 ∧ x6 ≤ 1000000) → (0 ≤ x7 ∧ x7 ≤ 1000) → (0 ≤ x8 ∧ x8 ≤ 999) → (0 ≤ x9 ∧ x9 ≤ 16) → (16 ≤ x10 ∧ x10 ≤ 31) → x9 + x3 = x10 → x1 + (3 * x3 + 0) = x4 → i1.toInt = (-23) → Q (some (.int i1), S)) : am_V none d 155 3 L ([]) S Q := by
  refine sg_use sg_sr_x0c_g hd hP (sg_xs [0, x1, x2, x3]) ⟨⟨Int.le_refl 0, Int.le_refl 0⟩, b1, b2, b3, trivial⟩ trivial trivial trivial ⟨l0, l1, l2, l3, l4, trivial⟩ trivial ?_
  intro z hz x' L' st' S' hx hP' hW hL' hs' hJ hE' hT' hD'
  have q1 : x' 1 = x1 := hx 1 (by decide)
  subst q1
  have q2 : x' 2 = x2 := hx 2 (by decide)
  subst q2
  have q3 : x' 3 = x3 := hx 3 (by decide)
  subst q3
  have eS : S' = S := hW.1 rfl
  subst eS
  simp only [sg_sr_x0c_Z, List.mem_cons, List.not_mem_nil, or_false] at hz
  rcases hz with rfl | rfl | rfl | rfl | rfl | rfl | rfl | rfl | rfl | rfl
  · obtain ⟨f0, hσ⟩ := hJ
    obtain ⟨e0, e1, e2, -⟩ := hE'
    intro v hv
    subst hv
    cases v with
    | none => exact hs'.elim
    | some v1 =>
      obtain ⟨⟨i1, rfl, g1⟩, -⟩ := hs'
      exact k0 i1 f0 e0 e1 e2 g1
  · obtain ⟨f0, f1, f2, f3, f4, -, hσ⟩ := hJ
    obtain ⟨e0, e1, e2, e3, e4, -⟩ := hE'
    obtain ⟨t0, -⟩ := hT'
    intro v hv
    subst hv
    cases v with
    | none => exact hs'.elim
    | some v1 =>
      obtain ⟨⟨i1, rfl, g1⟩, -⟩ := hs'
      exact k1 (x' 4) (x' 5) i1 f0 f1 f2 f3 f4 e0 e1 e2 e3 e4 t0 g1
  · obtain ⟨f0, f1, f2, f3, f4, -, f6, f7, f8, f9, -, -, hσ⟩ := hJ
    obtain ⟨e0, e1, e2, e3, e4, e5, -⟩ := hE'
    obtain ⟨t0, -⟩ := hT'
    intro v hv
    subst hv
    cases v with
    | none => exact hs'.elim
    | some v1 =>
      obtain ⟨⟨i1, rfl, g1⟩, -⟩ := hs'
      exact k2 (x' 4) (x' 5) (x' 6) (x' 7) (x' 8) i1 f0 f1 f2 f3 f4 f6 f7 f8 f9 e0 e1 e2 e3 e4 e5 t0 g1
  · obtain ⟨f0, f1, f2, f3, f4, -, f6, f7, f8, f9, f10, -, -, hσ⟩ := hJ
    obtain ⟨e0, e1, e2, e3, e4, e5, -⟩ := hE'
    obtain ⟨t0, -⟩ := hT'
    intro v hv
    subst hv
    cases v with
    | none => exact hs'.elim
    | some v1 =>
      obtain ⟨⟨i1, rfl, g1⟩, -⟩ := hs'
      exact k3 (x' 4) (x' 5) (x' 6) (x' 7) (x' 8) i1 f0 f1 f2 f3 f4 f6 f7 f8 f9 f10 e0 e1 e2 e3 e4 e5 t0 g1
  · obtain ⟨f0, f1, f2, f3, f4, -, f6, f7, f8, f9, f10, f11, -, -, hσ⟩ := hJ
    obtain ⟨e0, e1, e2, e3, e4, e5, e6, -⟩ := hE'
    obtain ⟨t0, -⟩ := hT'
    intro v hv
    subst hv
    cases v with
    | none => exact hs'.elim
    | some v1 =>
      obtain ⟨⟨i1, rfl, g1⟩, -⟩ := hs'
      exact k4 (x' 4) (x' 5) (x' 6) (x' 7) (x' 8) i1 f0 f1 f2 f3 f4 f6 f7 f8 f9 f10 f11 e0 e1 e2 e3 e4 e5 e6 t0 g1
  · obtain ⟨f0, f1, f2, f3, f4, -, f6, f7, f8, f9, f10, f11, f12, -, -, hσ⟩ := hJ
    obtain ⟨e0, e1, e2, e3, e4, e5, e6, -⟩ := hE'
    obtain ⟨t0, -⟩ := hT'
    intro v hv
    subst hv
    cases v with
    | none => exact hs'.elim
    | some v1 =>
      obtain ⟨⟨i1, rfl, g1⟩, -⟩ := hs'
      exact k5 (x' 4) (x' 5) (x' 6) (x' 7) (x' 8) i1 f0 f1 f2 f3 f4 f6 f7 f8 f9 f10 f11 f12 e0 e1 e2 e3 e4 e5 e6 t0 g1
  · obtain ⟨f0, f1, f2, f3, f4, -, f6, f7, f8, f9, f10, f11, f12, f13, -, -, hσ⟩ := hJ
    obtain ⟨e0, e1, e2, e3, e4, e5, e6, e7, -⟩ := hE'
    obtain ⟨t0, -⟩ := hT'
    intro v hv
    subst hv
    cases v with
    | none => exact hs'.elim
    | some v1 =>
      obtain ⟨⟨i1, rfl, g1⟩, -⟩ := hs'
      exact k6 (x' 4) (x' 5) (x' 6) (x' 7) (x' 8) i1 f0 f1 f2 f3 f4 f6 f7 f8 f9 f10 f11 f12 f13 e0 e1 e2 e3 e4 e5 e6 e7 t0 g1
  · obtain ⟨f0, f1, f2, f3, f4, -, f6, f7, f8, f9, f10, f11, f12, f13, f14, -, -, hσ⟩ := hJ
    obtain ⟨e0, e1, e2, e3, e4, e5, e6, e7, -⟩ := hE'
    obtain ⟨t0, -⟩ := hT'
    intro v hv
    subst hv
    cases v with
    | none => exact hs'.elim
    | some v1 =>
      obtain ⟨⟨i1, rfl, g1⟩, -⟩ := hs'
      exact k7 (x' 4) (x' 5) (x' 6) (x' 7) (x' 8) i1 f0 f1 f2 f3 f4 f6 f7 f8 f9 f10 f11 f12 f13 f14 e0 e1 e2 e3 e4 e5 e6 e7 t0 g1
  · obtain ⟨f0, f1, f2, f3, f4, -, f6, f7, f8, f9, f10, f11, f12, f13, f14, -, f16, f17, -, hσ⟩ := hJ
    obtain ⟨e0, e1, e2, e3, e4, e5, e6, e7, e8, e9, -⟩ := hE'
    obtain ⟨t0, t1, -⟩ := hT'
    obtain ⟨p0, p1, p2, p3, p4, p5, p6, -⟩ := hL'
    obtain rfl := sg_tn hs'
    exact k8 (x' 4) (x' 5) (x' 6) (x' 7) (x' 8) (x' 9) (x' 10) L' f0 f1 f2 f3 f4 f6 f7 f8 f9 f10 f11 f12 f13 f14 f16 f17 e0 e1 e2 e3 e4 e5 e6 e7 e8 e9 t0 t1 p0 p1 p2 p3 p4 p5 p6
  · obtain ⟨f0, f1, f2, f3, f4, -, f6, f7, f8, f9, f10, f11, f12, f13, f14, -, f16, f17, -, hσ⟩ := hJ
    obtain ⟨e0, e1, e2, e3, e4, e5, e6, e7, e8, e9, -⟩ := hE'
    obtain ⟨t0, t1, -⟩ := hT'
    intro v hv
    subst hv
    cases v with
    | none => exact hs'.elim
    | some v1 =>
      obtain ⟨⟨i1, rfl, g1⟩, -⟩ := hs'
      exact k9 (x' 4) (x' 5) (x' 6) (x' 7) (x' 8) (x' 9) (x' 10) i1 f0 f1 f2 f3 f4 f6 f7 f8 f9 f10 f11 f12 f13 f14 f16 f17 e0 e1 e2 e3 e4 e5 e6 e7 e8 e9 t0 t1 g1
def sg_sc_x10_Z : List sg_z := [(89, [(0, .inr (.inl [0])), (1, .inl (false, (0, .ofNat 0, .ofNat 0))), (3, .inl (false, (2, .ofNat 1, .ofNat 0))), (4, .inl (false, (3, .ofNat 1, .ofNat 0))), (6, .inl (false, (0, .ofNat 0, .ofNat 0))), (7, .inr (.inl [115])), (8, .inl (false, (0, .ofNat 0, .ofNat 0)))], [], [(2, 0, (4, .ofNat 1, .ofNat 0), (0, .ofNat 0, .ofNat 0), (0, .ofNat 0, .ofNat 0))], [(1, [(.ofNat 0, .ofNat 0)]), (3, [(.ofNat 0, .ofNat 16)]), (4, [(.ofNat 0, .ofNat 0)])], [], []),
  (0, [], [.inl (false, (4, .ofNat 1, .ofNat 0))], [(2, 1, (4, .ofNat 1, .ofNat 0), (0, .ofNat 0, .ofNat 0), (0, .ofNat 0, .ofNat 0))], [(1, [(.ofNat 0, .ofNat 0)]), (3, [(.ofNat 0, .ofNat 16)]), (4, [(.negSucc 2147483647, .negSucc 0), (.ofNat 1, .ofNat 2147483647)])], [], [])]
set_option maxRecDepth 1000000 in
theorem sg_sc_x10_g : sg_go [] [88] 3000 140 64 0 5 [(0, [(.ofNat 0, .ofNat 0)]), (1, [(.ofNat 0, .ofNat 0)]), (2, [(.negSucc 2147483647, .ofNat 2147483647)]), (3, [(.ofNat 0, .ofNat 16)]), (4, [(.negSucc 2147483647, .ofNat 2147483647)])] [] [] [] [(0, .inr (.inl [0])), (1, .inl (false, (1, .ofNat 1, .ofNat 0))), (3, .inl (false, (2, .ofNat 1, .ofNat 0))), (4, .inl (false, (3, .ofNat 1, .ofNat 0)))] [.inl (false, (4, .ofNat 1, .ofNat 0))] [] sg_sc_x10_Z = true := by decide +kernel
theorem sg_sc_x10 {Q : Option Value × am_S → Prop} {d : Nat} {S : am_S} {L : am_L} {x1 x2 x3 x4 : Int} {i1 : Int32} (hd : 0 ≤ d) (hP : ax_P0 none S) (l0 : lc L 0 0) (l1 : li L 1 x1) (l3 : li L 3 x2) (l4 : li L 4 x3) (b1 : (0 ≤ x1 ∧ x1 ≤ 0)) (b2 : ((-2147483648) ≤ x2 ∧ x2 ≤ 2147483647)) (b3 : (0 ≤ x3 ∧ x3 ≤ 16)) (b4 : ((-2147483648) ≤ x4 ∧ x4 ≤ 2147483647)) (s1 : i1.toInt = x4)
    (k0 : ∀ (L' : am_L), x4 = 0 → (0 ≤ x1 ∧ x1 ≤ 0) → (0 ≤ x3 ∧ x3 ≤ 16) → (0 ≤ x4 ∧ x4 ≤ 0) → lc L' 0 0 → li L' 1 0 → li L' 3 x2 → li L' 4 x3 → li L' 6 0 → lc L' 7 115 → li L' 8 0 → am_V none d 140 88 L' ([]) S Q)
    (k1 : ∀ (i1 : Int32), x4 ≠ 0 → (0 ≤ x1 ∧ x1 ≤ 0) → (0 ≤ x3 ∧ x3 ≤ 16) → ((-2147483648) ≤ x4 ∧ x4 ≤ (-1)) ∨ (1 ≤ x4 ∧ x4 ≤ 2147483647) → i1.toInt = x4 → Q (some (.int i1), S)) : am_V none d 140 64 L ((.int i1) :: []) S Q := by
  refine sg_use sg_sc_x10_g hd hP (sg_xs [0, x1, x2, x3, x4]) ⟨⟨Int.le_refl 0, Int.le_refl 0⟩, b1, b2, b3, b4, trivial⟩ trivial trivial trivial ⟨l0, l1, l3, l4, trivial⟩ ⟨⟨_, rfl, s1⟩, trivial⟩ ?_
  intro z hz x' L' st' S' hx hP' hW hL' hs' hJ hE' hT' hD'
  have q1 : x' 1 = x1 := hx 1 (by decide)
  subst q1
  have q2 : x' 2 = x2 := hx 2 (by decide)
  subst q2
  have q3 : x' 3 = x3 := hx 3 (by decide)
  subst q3
  have q4 : x' 4 = x4 := hx 4 (by decide)
  subst q4
  have eS : S' = S := hW.1 rfl
  subst eS
  simp only [sg_sc_x10_Z, List.mem_cons, List.not_mem_nil, or_false] at hz
  rcases hz with rfl | rfl
  · obtain ⟨f0, hσ⟩ := hJ
    obtain ⟨e0, e1, e2, -⟩ := hE'
    obtain ⟨p0, p1, p2, p3, p4, p5, p6, -⟩ := hL'
    obtain rfl := sg_tn hs'
    exact k0 L' f0 e0 e1 e2 p0 p1 p2 p3 p4 p5 p6
  · obtain ⟨f0, hσ⟩ := hJ
    obtain ⟨e0, e1, e2, -⟩ := hE'
    intro v hv
    subst hv
    cases v with
    | none => exact hs'.elim
    | some v1 =>
      obtain ⟨⟨i1, rfl, g1⟩, -⟩ := hs'
      exact k1 i1 f0 e0 e1 e2 g1
def sg_sc_x20_Z : List sg_z := [(0, [], [.inl (false, (4, .ofNat 1, .ofNat 0))], [(0, 6, (0, .ofNat 0, .ofNat 0), (4, .ofNat 1, .ofNat 0), (0, .ofNat 0, .ofNat 0)), (2, 3, (3, .ofNat 1, .ofNat 0), (2, .ofNat 1, .ofNat 0), (0, .ofNat 0, .ofNat 0))], [(1, [(.ofNat 0, .ofNat 57)]), (2, [(.ofNat 0, .ofNat 16)]), (3, [(.ofNat 0, .ofNat 16)]), (4, [(.ofNat 0, .ofNat 15)]), (5, [(.ofNat 0, .ofNat 57)]), (6, [(.ofNat 1, .ofNat 1000000)]), (7, [(.ofNat 0, .ofNat 1000)]), (8, [(.ofNat 0, .ofNat 999)])], [], []),
  (89, [(0, .inr (.inl [0])), (3, .inl (false, (1, .ofNat 1, .ofNat 0))), (4, .inl (false, (2, .ofNat 1, .ofNat 0))), (7, .inr (.inl [115])), (8, .inl (false, (3, .ofNat 1, .ofNat 1))), (9, .inl (false, (5, .ofNat 1, .ofNat 0)))], [], [(0, 6, (0, .ofNat 0, .ofNat 0), (4, .ofNat 1, .ofNat 1), (0, .ofNat 0, .ofNat 0)), (1, 6, (0, .ofNat 0, .ofNat 0), (4, .ofNat 1, .ofNat 1), (0, .ofNat 0, .ofNat 0)), (0, 6, (0, .ofNat 0, .ofNat 0), (4, .ofNat 1, .ofNat 0), (0, .ofNat 0, .ofNat 0)), (1, 12, (4, .ofNat 1, .ofNat 0), (0, .ofNat 0, .negSucc 3), (0, .ofNat 0, .ofNat 0)), (1, 11, (4, .ofNat 1, .ofNat 0), (0, .ofNat 0, .negSucc 3), (0, .ofNat 0, .ofNat 0)), (0, 6, (0, .ofNat 0, .ofNat 0), (4, .ofNat 1, .ofNat 0), (0, .ofNat 0, .ofNat 0)), (1, 10, (4, .ofNat 1, .ofNat 0), (0, .ofNat 0, .ofNat 0), (0, .ofNat 0, .ofNat 0)), (0, 6, (0, .ofNat 0, .ofNat 0), (4, .ofNat 1, .ofNat 0), (0, .ofNat 0, .ofNat 0)), (1, 9, (4, .ofNat 1, .ofNat 0), (8, .ofNat 1, .ofNat 0), (0, .ofNat 0, .ofNat 0)), (0, 6, (0, .ofNat 0, .ofNat 0), (4, .ofNat 1, .ofNat 0), (0, .ofNat 0, .ofNat 0)), (1, 8, (4, .ofNat 1, .ofNat 0), (7, .ofNat 1, .ofNat 0), (0, .ofNat 0, .ofNat 0)), (0, 6, (0, .ofNat 0, .ofNat 0), (4, .ofNat 1, .ofNat 0), (0, .ofNat 0, .ofNat 0)), (1, 7, (4, .ofNat 1, .ofNat 0), (6, .ofNat 1, .ofNat 0), (0, .ofNat 0, .ofNat 0)), (0, 6, (0, .ofNat 0, .ofNat 0), (4, .ofNat 1, .ofNat 0), (0, .ofNat 0, .ofNat 0)), (0, 115, (5, .ofNat 1, .ofNat 2), (8, .ofNat 1, .ofNat 0), (0, .ofNat 0, .ofNat 0)), (0, 115, (5, .ofNat 1, .ofNat 1), (7, .ofNat 1, .ofNat 0), (0, .ofNat 0, .ofNat 0)), (0, 115, (5, .ofNat 1, .ofNat 0), (6, .ofNat 1, .ofNat 0), (0, .ofNat 0, .ofNat 0)), (2, 2, (3, .ofNat 1, .ofNat 0), (2, .ofNat 1, .ofNat 0), (0, .ofNat 0, .ofNat 0))], [(1, [(.ofNat 0, .ofNat 57)]), (2, [(.ofNat 1, .ofNat 16)]), (3, [(.ofNat 0, .ofNat 15)]), (4, [(.ofNat 0, .ofNat 15)]), (5, [(.ofNat 0, .ofNat 57)]), (6, [(.ofNat 1, .ofNat 1000000)]), (7, [(.ofNat 0, .ofNat 1000)]), (8, [(.ofNat 0, .ofNat 999)])], [((1, .ofNat 1, .ofNat 0), (3, .ofNat 3, .ofNat 0), (5, .ofNat 1, .ofNat 0))], [])]
set_option maxRecDepth 1000000 in
theorem sg_sc_x20_g : sg_go [] [88] 3000 140 88 2 9 [(0, [(.ofNat 0, .ofNat 0)]), (1, [(.ofNat 0, .ofNat 57)]), (2, [(.ofNat 0, .ofNat 16)]), (3, [(.ofNat 0, .ofNat 16)]), (4, [(.ofNat 0, .ofNat 15)]), (5, [(.ofNat 0, .ofNat 57)]), (6, [(.ofNat 1, .ofNat 1000000)]), (7, [(.ofNat 0, .ofNat 1000)]), (8, [(.ofNat 0, .ofNat 999)])] [(6, (0, .ofNat 0, .ofNat 0), (4, .ofNat 1, .ofNat 0)), (115, (5, .ofNat 1, .ofNat 0), (6, .ofNat 1, .ofNat 0)), (115, (5, .ofNat 1, .ofNat 1), (7, .ofNat 1, .ofNat 0)), (115, (5, .ofNat 1, .ofNat 2), (8, .ofNat 1, .ofNat 0))] [((1, .ofNat 1, .ofNat 0), (3, .ofNat 3, .ofNat 0), (5, .ofNat 1, .ofNat 0))] [] [(0, .inr (.inl [0])), (3, .inl (false, (1, .ofNat 1, .ofNat 0))), (4, .inl (false, (2, .ofNat 1, .ofNat 0))), (7, .inr (.inl [115])), (8, .inl (false, (3, .ofNat 1, .ofNat 0)))] [] [(6, some 0), (7, none), (8, none), (9, none), (10, none), (11, none), (12, none)] sg_sc_x20_Z = true := by decide +kernel
theorem sg_sc_x20 {Q : Option Value × am_S → Prop} {d : Nat} {S : am_S} {L : am_L} {x1 x2 x3 x4 x5 x6 x7 x8 : Int} (hd : 2 ≤ d) (hP : ax_P0 none S) (l0 : lc L 0 0) (l3 : li L 3 x1) (l4 : li L 4 x2) (l7 : lc L 7 115) (l8 : li L 8 x3) (b1 : (0 ≤ x1 ∧ x1 ≤ 57)) (b2 : (0 ≤ x2 ∧ x2 ≤ 16)) (b3 : (0 ≤ x3 ∧ x3 ≤ 16)) (b4 : (0 ≤ x4 ∧ x4 ≤ 15)) (b5 : (0 ≤ x5 ∧ x5 ≤ 57)) (b6 : (1 ≤ x6 ∧ x6 ≤ 1000000)) (b7 : (0 ≤ x7 ∧ x7 ≤ 1000)) (b8 : (0 ≤ x8 ∧ x8 ≤ 999)) (m6_0 : rd S 6 0 = x4) (n0 : ax_rd S 115 x5 = some x6) (n1 : ax_rd S 115 (x5 + 1) = some x7) (n2 : ax_rd S 115 (x5 + 2) = some x8) (t0 : x1 + (3 * x3 + 0) = x5)
    (k0 : ∀ (S' : am_S) (i1 : Int32), ax_P0 none S' → rd S' = rd S → x2 ≤ x3 → rd S 6 0 = x4 → (0 ≤ x1 ∧ x1 ≤ 57) → (0 ≤ x2 ∧ x2 ≤ 16) → (0 ≤ x3 ∧ x3 ≤ 16) → (0 ≤ x4 ∧ x4 ≤ 15) → (0 ≤ x5 ∧ x5 ≤ 57) → (1 ≤ x6 ∧ x6 ≤ 1000000) → (0 ≤ x7 ∧ x7 ≤ 1000) → (0 ≤ x8 ∧ x8 ≤ 999) → i1.toInt = x4 → Q (some (.int i1), S'))
    (k1 : ∀ (L' : am_L) (S' : am_S), ax_P0 none S' → rd S' = sg_up (sg_up (sg_up (sg_up (sg_up (sg_up (sg_up (rd S) 7 x4 x6) 8 x4 x7) 9 x4 x8) 10 x4 0) 11 x4 (-4)) 12 x4 (-4)) 6 0 (x4 + 1) → x3 < x2 → rd S 115 x5 = x6 → rd S 115 (x5 + 1) = x7 → rd S 115 (x5 + 2) = x8 → rd S 6 0 = x4 → (0 ≤ x1 ∧ x1 ≤ 57) → (1 ≤ x2 ∧ x2 ≤ 16) → (0 ≤ x3 ∧ x3 ≤ 15) → (0 ≤ x4 ∧ x4 ≤ 15) → (0 ≤ x5 ∧ x5 ≤ 57) → (1 ≤ x6 ∧ x6 ≤ 1000000) → (0 ≤ x7 ∧ x7 ≤ 1000) → (0 ≤ x8 ∧ x8 ≤ 999) → x1 + (3 * x3 + 0) = x5 → lc L' 0 0 → li L' 3 x1 → li L' 4 x2 → lc L' 7 115 → li L' 8 (x3 + 1) → li L' 9 x5 → am_V none d 140 88 L' ([]) S' Q) : am_V none d 140 88 L ([]) S Q := by
  refine sg_use sg_sc_x20_g hd hP (sg_xs [0, x1, x2, x3, x4, x5, x6, x7, x8]) ⟨⟨Int.le_refl 0, Int.le_refl 0⟩, b1, b2, b3, b4, b5, b6, b7, b8, trivial⟩ ⟨sg_fs hP rfl m6_0, n0, n1, n2, trivial⟩ ⟨t0, trivial⟩ trivial ⟨l0, l3, l4, l7, l8, trivial⟩ trivial ?_
  intro z hz x' L' st' S' hx hP' hW hL' hs' hJ hE' hT' hD'
  have q1 : x' 1 = x1 := hx 1 (by decide)
  subst q1
  have q2 : x' 2 = x2 := hx 2 (by decide)
  subst q2
  have q3 : x' 3 = x3 := hx 3 (by decide)
  subst q3
  have q4 : x' 4 = x4 := hx 4 (by decide)
  subst q4
  have q5 : x' 5 = x5 := hx 5 (by decide)
  subst q5
  have q6 : x' 6 = x6 := hx 6 (by decide)
  subst q6
  have q7 : x' 7 = x7 := hx 7 (by decide)
  subst q7
  have q8 : x' 8 = x8 := hx 8 (by decide)
  subst q8
  simp only [sg_sc_x20_Z, List.mem_cons, List.not_mem_nil, or_false] at hz
  rcases hz with rfl | rfl
  · obtain ⟨f0, f1, hσ⟩ := hJ
    obtain ⟨e0, e1, e2, e3, e4, e5, e6, e7, -⟩ := hE'
    intro v hv
    subst hv
    cases v with
    | none => exact hs'.elim
    | some v1 =>
      obtain ⟨⟨i1, rfl, g1⟩, -⟩ := hs'
      exact k0 S' i1 hP' hσ f0 f1 e0 e1 e2 e3 e4 e5 e6 e7 g1
  · obtain ⟨f0, f1, f2, f3, f4, -, -, -, -, -, -, hσ⟩ := hJ
    obtain ⟨e0, e1, e2, e3, e4, e5, e6, e7, -⟩ := hE'
    obtain ⟨t0, -⟩ := hT'
    obtain ⟨p0, p1, p2, p3, p4, p5, -⟩ := hL'
    obtain rfl := sg_tn hs'
    exact k1 L' S' hP' hσ f0 f1 f2 f3 f4 e0 e1 e2 e3 e4 e5 e6 e7 t0 p0 p1 p2 p3 p4 p5
def sg_rn_x1_Z : List sg_z := [(16, [(0, .inr (.inl [116])), (1, .inl (false, (1, .ofNat 1, .ofNat 0))), (2, .inl (false, (2, .ofNat 1, .ofNat 0)))], [.inl (false, (0, .ofNat 0, .ofNat 0)), .inr (.inl [117])], [(1, 116, (0, .ofNat 0, .ofNat 0), (2, .ofNat 1, .ofNat 0), (0, .ofNat 0, .ofNat 0)), (1, 116, (0, .ofNat 0, .ofNat 2), (1, .ofNat 1, .ofNat 0), (0, .ofNat 0, .ofNat 0))], [(1, [(.ofNat 0, .ofNat 2)]), (2, [(.ofNat 0, .ofNat 60)])], [], [])]
set_option maxRecDepth 1000000 in
theorem sg_rn_x1_g : sg_go [] [15] 3000 61 0 0 3 [(0, [(.ofNat 0, .ofNat 0)]), (1, [(.ofNat 0, .ofNat 2)]), (2, [(.ofNat 0, .ofNat 60)])] [] [] [] [(0, .inr (.inl [116])), (1, .inl (false, (1, .ofNat 1, .ofNat 0))), (2, .inl (false, (2, .ofNat 1, .ofNat 0)))] [] [(116, some 0), (116, some 2)] sg_rn_x1_Z = true := by decide +kernel
theorem sg_rn_x1 {Q : Option Value × am_S → Prop} {d : Nat} {S : am_S} {L : am_L} {x1 x2 : Int} (hd : 0 ≤ d) (hP : ax_P0 none S) (l0 : lc L 0 116) (l1 : li L 1 x1) (l2 : li L 2 x2) (b1 : (0 ≤ x1 ∧ x1 ≤ 2)) (b2 : (0 ≤ x2 ∧ x2 ≤ 60))
    (k0 : ∀ (L' : am_L) (S' : am_S) (i1 : Int32), ax_P0 none S' → rd S' = sg_up (sg_up (rd S) 116 2 x1) 116 0 x2 → (0 ≤ x1 ∧ x1 ≤ 2) → (0 ≤ x2 ∧ x2 ≤ 60) → lc L' 0 116 → li L' 1 x1 → li L' 2 x2 → i1.toInt = 0 → am_V none d 61 15 L' ((.int i1) :: (.ref 117) :: []) S' Q) : am_V none d 61 0 L ([]) S Q := by
  refine sg_use sg_rn_x1_g hd hP (sg_xs [0, x1, x2]) ⟨⟨Int.le_refl 0, Int.le_refl 0⟩, b1, b2, trivial⟩ trivial trivial trivial ⟨l0, l1, l2, trivial⟩ trivial ?_
  intro z hz x' L' st' S' hx hP' hW hL' hs' hJ hE' hT' hD'
  have q1 : x' 1 = x1 := hx 1 (by decide)
  subst q1
  have q2 : x' 2 = x2 := hx 2 (by decide)
  subst q2
  simp only [sg_rn_x1_Z, List.mem_cons, List.not_mem_nil, or_false] at hz
  rcases hz with rfl
  · have hσ := hJ
    obtain ⟨e0, e1, -⟩ := hE'
    obtain ⟨p0, p1, p2, -⟩ := hL'
    obtain ⟨v1, r1, rfl, ⟨i1, rfl, g1⟩, hs1⟩ := sg_tc hs'
    obtain ⟨v2, r2, rfl, rfl, hs2⟩ := sg_tc hs1
    obtain rfl := sg_tn hs2
    exact k0 L' S' i1 hP' hσ e0 e1 p0 p1 p2 g1
def sg_fl_x1a_Z : List sg_z := [(6, [(0, .inr (.inl [117])), (1, .inl (false, (0, .ofNat 0, .ofNat 0))), (2, .inl (false, (0, .ofNat 0, .ofNat 0))), (3, .inl (false, (0, .ofNat 0, .ofNat 60)))], [], [], [(1, [(.ofNat 0, .ofNat 0)])], [], [])]
set_option maxRecDepth 1000000 in
theorem sg_fl_x1a_g : sg_go [] [5] 3000 261 0 0 2 [(0, [(.ofNat 0, .ofNat 0)]), (1, [(.ofNat 0, .ofNat 0)])] [] [] [] [(0, .inr (.inl [117])), (1, .inl (false, (1, .ofNat 1, .ofNat 0)))] [] [] sg_fl_x1a_Z = true := by decide +kernel
theorem sg_fl_x1a {Q : Option Value × am_S → Prop} {d : Nat} {S : am_S} {L : am_L} {x1 : Int} (hd : 0 ≤ d) (hP : ax_P0 none S) (l0 : lc L 0 117) (l1 : li L 1 x1) (b1 : (0 ≤ x1 ∧ x1 ≤ 0))
    (k0 : ∀ (L' : am_L), (0 ≤ x1 ∧ x1 ≤ 0) → lc L' 0 117 → li L' 1 0 → li L' 2 0 → li L' 3 60 → am_V none d 261 5 L' ([]) S Q) : am_V none d 261 0 L ([]) S Q := by
  refine sg_use sg_fl_x1a_g hd hP (sg_xs [0, x1]) ⟨⟨Int.le_refl 0, Int.le_refl 0⟩, b1, trivial⟩ trivial trivial trivial ⟨l0, l1, trivial⟩ trivial ?_
  intro z hz x' L' st' S' hx hP' hW hL' hs' hJ hE' hT' hD'
  have q1 : x' 1 = x1 := hx 1 (by decide)
  subst q1
  have eS : S' = S := hW.1 rfl
  subst eS
  simp only [sg_fl_x1a_Z, List.mem_cons, List.not_mem_nil, or_false] at hz
  rcases hz with rfl
  · have hσ := hJ
    obtain ⟨e0, -⟩ := hE'
    obtain ⟨p0, p1, p2, p3, -⟩ := hL'
    obtain rfl := sg_tn hs'
    exact k0 L' e0 p0 p1 p2 p3
def sg_fl_x1b_Z : List sg_z := [(0, [], [], [(2, 3, (2, .ofNat 1, .ofNat 0), (0, .ofNat 0, .ofNat 60), (0, .ofNat 0, .ofNat 0))], [(1, [(.ofNat 0, .ofNat 0)]), (2, [(.ofNat 60, .ofNat 60)]), (3, [(.ofNat 60, .ofNat 60)])], [], []),
  (6, [(0, .inr (.inl [117])), (1, .inl (false, (0, .ofNat 0, .ofNat 0))), (2, .inl (false, (2, .ofNat 1, .ofNat 1))), (3, .inl (false, (0, .ofNat 0, .ofNat 60)))], [], [(1, 117, (2, .ofNat 1, .ofNat 0), (0, .ofNat 0, .ofNat 0), (0, .ofNat 0, .ofNat 0)), (2, 2, (2, .ofNat 1, .ofNat 0), (0, .ofNat 0, .ofNat 60), (0, .ofNat 0, .ofNat 0))], [(1, [(.ofNat 0, .ofNat 0)]), (2, [(.ofNat 0, .ofNat 59)]), (3, [(.ofNat 60, .ofNat 60)])], [], [])]
set_option maxRecDepth 1000000 in
theorem sg_fl_x1b_g : sg_go [] [5] 3000 261 5 0 4 [(0, [(.ofNat 0, .ofNat 0)]), (1, [(.ofNat 0, .ofNat 0)]), (2, [(.ofNat 0, .ofNat 60)]), (3, [(.ofNat 60, .ofNat 60)])] [] [] [] [(0, .inr (.inl [117])), (1, .inl (false, (1, .ofNat 1, .ofNat 0))), (2, .inl (false, (2, .ofNat 1, .ofNat 0))), (3, .inl (false, (3, .ofNat 1, .ofNat 0)))] [] [(117, none)] sg_fl_x1b_Z = true := by decide +kernel
theorem sg_fl_x1b {Q : Option Value × am_S → Prop} {d : Nat} {S : am_S} {L : am_L} {x1 x2 x3 : Int} (hd : 0 ≤ d) (hP : ax_P0 none S) (l0 : lc L 0 117) (l1 : li L 1 x1) (l2 : li L 2 x2) (l3 : li L 3 x3) (b1 : (0 ≤ x1 ∧ x1 ≤ 0)) (b2 : (0 ≤ x2 ∧ x2 ≤ 60)) (b3 : (60 ≤ x3 ∧ x3 ≤ 60))
    (k0 : ∀ (S' : am_S), ax_P0 none S' → rd S' = rd S → 60 ≤ x2 → (0 ≤ x1 ∧ x1 ≤ 0) → (60 ≤ x2 ∧ x2 ≤ 60) → (60 ≤ x3 ∧ x3 ≤ 60) → Q (none, S'))
    (k1 : ∀ (L' : am_L) (S' : am_S), ax_P0 none S' → rd S' = sg_up (rd S) 117 x2 0 → x2 < 60 → (0 ≤ x1 ∧ x1 ≤ 0) → (0 ≤ x2 ∧ x2 ≤ 59) → (60 ≤ x3 ∧ x3 ≤ 60) → lc L' 0 117 → li L' 1 0 → li L' 2 (x2 + 1) → li L' 3 60 → am_V none d 261 5 L' ([]) S' Q) : am_V none d 261 5 L ([]) S Q := by
  refine sg_use sg_fl_x1b_g hd hP (sg_xs [0, x1, x2, x3]) ⟨⟨Int.le_refl 0, Int.le_refl 0⟩, b1, b2, b3, trivial⟩ trivial trivial trivial ⟨l0, l1, l2, l3, trivial⟩ trivial ?_
  intro z hz x' L' st' S' hx hP' hW hL' hs' hJ hE' hT' hD'
  have q1 : x' 1 = x1 := hx 1 (by decide)
  subst q1
  have q2 : x' 2 = x2 := hx 2 (by decide)
  subst q2
  have q3 : x' 3 = x3 := hx 3 (by decide)
  subst q3
  simp only [sg_fl_x1b_Z, List.mem_cons, List.not_mem_nil, or_false] at hz
  rcases hz with rfl | rfl
  · obtain ⟨f0, hσ⟩ := hJ
    obtain ⟨e0, e1, e2, -⟩ := hE'
    intro v hv
    subst hv
    cases v with
    | some _ => exact hs'.elim
    | none =>
      exact k0 S' hP' hσ f0 e0 e1 e2
  · obtain ⟨f0, hσ⟩ := hJ
    obtain ⟨e0, e1, e2, -⟩ := hE'
    obtain ⟨p0, p1, p2, p3, -⟩ := hL'
    obtain rfl := sg_tn hs'
    exact k1 L' S' hP' hσ f0 e0 e1 e2 p0 p1 p2 p3
def sg_sr_x1a_Z : List sg_z := [(4, [(0, .inr (.inl [0])), (1, .inr (.inl [116])), (2, .inl (false, (1, .ofNat 1, .ofNat 0))), (3, .inl (false, (2, .ofNat 1, .ofNat 0))), (4, .inl (false, (0, .ofNat 0, .ofNat 0)))], [], [], [(2, [(.ofNat 0, .ofNat 16)])], [], [])]
set_option maxRecDepth 1000000 in
theorem sg_sr_x1a_g : sg_go [] [3] 3000 155 0 0 3 [(0, [(.ofNat 0, .ofNat 0)]), (1, [(.negSucc 2147483647, .ofNat 2147483647)]), (2, [(.ofNat 0, .ofNat 16)])] [] [] [] [(0, .inr (.inl [0])), (1, .inr (.inl [116])), (2, .inl (false, (1, .ofNat 1, .ofNat 0))), (3, .inl (false, (2, .ofNat 1, .ofNat 0)))] [] [] sg_sr_x1a_Z = true := by decide +kernel
theorem sg_sr_x1a {Q : Option Value × am_S → Prop} {d : Nat} {S : am_S} {L : am_L} {x1 x2 : Int} (hd : 0 ≤ d) (hP : ax_P0 none S) (l0 : lc L 0 0) (l1 : lc L 1 116) (l2 : li L 2 x1) (l3 : li L 3 x2) (b1 : ((-2147483648) ≤ x1 ∧ x1 ≤ 2147483647)) (b2 : (0 ≤ x2 ∧ x2 ≤ 16))
    (k0 : ∀ (L' : am_L), (0 ≤ x2 ∧ x2 ≤ 16) → lc L' 0 0 → lc L' 1 116 → li L' 2 x1 → li L' 3 x2 → li L' 4 0 → am_V none d 155 3 L' ([]) S Q) : am_V none d 155 0 L ([]) S Q := by
  refine sg_use sg_sr_x1a_g hd hP (sg_xs [0, x1, x2]) ⟨⟨Int.le_refl 0, Int.le_refl 0⟩, b1, b2, trivial⟩ trivial trivial trivial ⟨l0, l1, l2, l3, trivial⟩ trivial ?_
  intro z hz x' L' st' S' hx hP' hW hL' hs' hJ hE' hT' hD'
  have q1 : x' 1 = x1 := hx 1 (by decide)
  subst q1
  have q2 : x' 2 = x2 := hx 2 (by decide)
  subst q2
  have eS : S' = S := hW.1 rfl
  subst eS
  simp only [sg_sr_x1a_Z, List.mem_cons, List.not_mem_nil, or_false] at hz
  rcases hz with rfl
  · have hσ := hJ
    obtain ⟨e0, -⟩ := hE'
    obtain ⟨p0, p1, p2, p3, p4, -⟩ := hL'
    obtain rfl := sg_tn hs'
    exact k0 L' e0 p0 p1 p2 p3 p4
def sg_sr_x1b_Z : List sg_z := [(0, [], [.inl (false, (0, .ofNat 0, .ofNat 0))], [(2, 3, (0, .ofNat 0, .ofNat 0), (2, .ofNat 1, .ofNat 0), (0, .ofNat 0, .ofNat 0))], [(1, [(.negSucc 2147483647, .negSucc 0), (.ofNat 58, .ofNat 2147483647)]), (2, [(.ofNat 0, .ofNat 0)]), (3, [(.ofNat 0, .ofNat 0)])], [], []),
  (0, [], [.inl (false, (0, .ofNat 0, .negSucc 11))], [(2, 2, (1, .ofNat 1, .ofNat 0), (0, .ofNat 0, .ofNat 0), (0, .ofNat 0, .ofNat 0)), (2, 2, (0, .ofNat 0, .ofNat 0), (2, .ofNat 1, .ofNat 0), (0, .ofNat 0, .ofNat 0))], [(1, [(.negSucc 2147483647, .negSucc 0)]), (2, [(.ofNat 1, .ofNat 16)]), (3, [(.ofNat 0, .ofNat 0)])], [], []),
  (0, [], [.inl (false, (0, .ofNat 0, .negSucc 11))], [(2, 0, (0, .ofNat 0, .ofNat 0), (0, .ofNat 0, .ofNat 0), (0, .ofNat 0, .ofNat 0)), (2, 4, (1, .ofNat 1, .ofNat 0), (4, .ofNat 1, .negSucc 2), (0, .ofNat 0, .ofNat 0)), (0, 116, (0, .ofNat 0, .ofNat 0), (4, .ofNat 1, .ofNat 0), (0, .ofNat 0, .ofNat 0)), (2, 3, (1, .ofNat 1, .ofNat 0), (0, .ofNat 0, .ofNat 0), (0, .ofNat 0, .ofNat 0)), (2, 3, (1, .ofNat 1, .ofNat 0), (0, .ofNat 0, .ofNat 0), (0, .ofNat 0, .ofNat 0)), (2, 2, (0, .ofNat 0, .ofNat 0), (2, .ofNat 1, .ofNat 0), (0, .ofNat 0, .ofNat 0))], [(1, [(.ofNat 58, .ofNat 2147483647)]), (2, [(.ofNat 1, .ofNat 16)]), (3, [(.ofNat 0, .ofNat 0)]), (4, [(.ofNat 0, .ofNat 60)])], [], [])]
set_option maxRecDepth 1000000 in
theorem sg_sr_x1b_g : sg_go [] [3] 3000 155 3 1 4 [(0, [(.ofNat 0, .ofNat 0)]), (1, [(.negSucc 2147483647, .negSucc 0), (.ofNat 58, .ofNat 2147483647)]), (2, [(.ofNat 0, .ofNat 16)]), (3, [(.ofNat 0, .ofNat 0)])] [] [] [] [(0, .inr (.inl [0])), (1, .inr (.inl [116])), (2, .inl (false, (1, .ofNat 1, .ofNat 0))), (3, .inl (false, (2, .ofNat 1, .ofNat 0))), (4, .inl (false, (3, .ofNat 1, .ofNat 0)))] [] [] sg_sr_x1b_Z = true := by decide +kernel
theorem sg_sr_x1b {Q : Option Value × am_S → Prop} {d : Nat} {S : am_S} {L : am_L} {x1 x2 x3 : Int} (hd : 1 ≤ d) (hP : ax_P0 none S) (l0 : lc L 0 0) (l1 : lc L 1 116) (l2 : li L 2 x1) (l3 : li L 3 x2) (l4 : li L 4 x3) (b1 : ((-2147483648) ≤ x1 ∧ x1 ≤ (-1)) ∨ (58 ≤ x1 ∧ x1 ≤ 2147483647)) (b2 : (0 ≤ x2 ∧ x2 ≤ 16)) (b3 : (0 ≤ x3 ∧ x3 ≤ 0))
    (k0 : ∀ (i1 : Int32), x2 ≤ 0 → ((-2147483648) ≤ x1 ∧ x1 ≤ (-1)) ∨ (58 ≤ x1 ∧ x1 ≤ 2147483647) → (0 ≤ x2 ∧ x2 ≤ 0) → (0 ≤ x3 ∧ x3 ≤ 0) → i1.toInt = 0 → Q (some (.int i1), S))
    (k1 : ∀ (i1 : Int32), 0 < x2 → x1 < 0 → ((-2147483648) ≤ x1 ∧ x1 ≤ (-1)) → (1 ≤ x2 ∧ x2 ≤ 16) → (0 ≤ x3 ∧ x3 ≤ 0) → i1.toInt = (-12) → Q (some (.int i1), S))
    (k2 : ∀ (x4 : Int) (i1 : Int32), 0 < x2 → 0 ≤ x1 → 0 ≤ x1 → rd S 116 0 = x4 → x4 + (-3) < x1 → (58 ≤ x1 ∧ x1 ≤ 2147483647) → (1 ≤ x2 ∧ x2 ≤ 16) → (0 ≤ x3 ∧ x3 ≤ 0) → (0 ≤ x4 ∧ x4 ≤ 60) → i1.toInt = (-12) → Q (some (.int i1), S)) : am_V none d 155 3 L ([]) S Q := by
  refine sg_use sg_sr_x1b_g hd hP (sg_xs [0, x1, x2, x3]) ⟨⟨Int.le_refl 0, Int.le_refl 0⟩, b1, b2, b3, trivial⟩ trivial trivial trivial ⟨l0, l1, l2, l3, l4, trivial⟩ trivial ?_
  intro z hz x' L' st' S' hx hP' hW hL' hs' hJ hE' hT' hD'
  have q1 : x' 1 = x1 := hx 1 (by decide)
  subst q1
  have q2 : x' 2 = x2 := hx 2 (by decide)
  subst q2
  have q3 : x' 3 = x3 := hx 3 (by decide)
  subst q3
  have eS : S' = S := hW.1 rfl
  subst eS
  simp only [sg_sr_x1b_Z, List.mem_cons, List.not_mem_nil, or_false] at hz
  rcases hz with rfl | rfl | rfl
  · obtain ⟨f0, hσ⟩ := hJ
    obtain ⟨e0, e1, e2, -⟩ := hE'
    intro v hv
    subst hv
    cases v with
    | none => exact hs'.elim
    | some v1 =>
      obtain ⟨⟨i1, rfl, g1⟩, -⟩ := hs'
      exact k0 i1 f0 e0 e1 e2 g1
  · obtain ⟨f0, f1, hσ⟩ := hJ
    obtain ⟨e0, e1, e2, -⟩ := hE'
    intro v hv
    subst hv
    cases v with
    | none => exact hs'.elim
    | some v1 =>
      obtain ⟨⟨i1, rfl, g1⟩, -⟩ := hs'
      exact k1 i1 f0 f1 e0 e1 e2 g1
  · obtain ⟨f0, f1, f2, f3, f4, -, hσ⟩ := hJ
    obtain ⟨e0, e1, e2, e3, -⟩ := hE'
    intro v hv
    subst hv
    cases v with
    | none => exact hs'.elim
    | some v1 =>
      obtain ⟨⟨i1, rfl, g1⟩, -⟩ := hs'
      exact k2 (x' 4) i1 f0 f1 f2 f3 f4 e0 e1 e2 e3 g1
def sg_sr_x1c_Z : List sg_z := [(0, [], [.inl (false, (0, .ofNat 0, .ofNat 0))], [(2, 3, (3, .ofNat 1, .ofNat 0), (2, .ofNat 1, .ofNat 0), (0, .ofNat 0, .ofNat 0))], [(1, [(.ofNat 0, .ofNat 57)]), (2, [(.ofNat 0, .ofNat 16)]), (3, [(.ofNat 0, .ofNat 16)])], [], []),
  (0, [], [.inl (false, (0, .ofNat 0, .negSucc 11))], [(2, 0, (0, .ofNat 0, .ofNat 0), (0, .ofNat 0, .ofNat 0), (0, .ofNat 0, .ofNat 0)), (2, 4, (4, .ofNat 1, .ofNat 0), (5, .ofNat 1, .negSucc 2), (0, .ofNat 0, .ofNat 0)), (0, 116, (0, .ofNat 0, .ofNat 0), (5, .ofNat 1, .ofNat 0), (0, .ofNat 0, .ofNat 0)), (2, 3, (4, .ofNat 1, .ofNat 0), (0, .ofNat 0, .ofNat 0), (0, .ofNat 0, .ofNat 0)), (2, 3, (1, .ofNat 1, .ofNat 0), (0, .ofNat 0, .ofNat 0), (0, .ofNat 0, .ofNat 0)), (2, 2, (3, .ofNat 1, .ofNat 0), (2, .ofNat 1, .ofNat 0), (0, .ofNat 0, .ofNat 0))], [(1, [(.ofNat 0, .ofNat 57)]), (2, [(.ofNat 1, .ofNat 16)]), (3, [(.ofNat 0, .ofNat 15)]), (4, [(.ofNat 0, .ofNat 102)]), (5, [(.ofNat 0, .ofNat 60)])], [((1, .ofNat 1, .ofNat 0), (3, .ofNat 3, .ofNat 0), (4, .ofNat 1, .ofNat 0))], []),
  (0, [], [.inl (false, (0, .ofNat 0, .negSucc 20))], [(2, 1, (0, .ofNat 0, .negSucc 0), (0, .ofNat 0, .ofNat 0), (0, .ofNat 0, .ofNat 0)), (2, 0, (0, .ofNat 0, .ofNat 0), (0, .ofNat 0, .ofNat 0), (0, .ofNat 0, .ofNat 0)), (2, 2, (6, .ofNat 1, .ofNat 0), (0, .ofNat 0, .ofNat 1), (0, .ofNat 0, .ofNat 0)), (0, 117, (4, .ofNat 1, .ofNat 2), (8, .ofNat 1, .ofNat 0), (0, .ofNat 0, .ofNat 0)), (0, 117, (4, .ofNat 1, .ofNat 1), (7, .ofNat 1, .ofNat 0), (0, .ofNat 0, .ofNat 0)), (0, 117, (4, .ofNat 1, .ofNat 0), (6, .ofNat 1, .ofNat 0), (0, .ofNat 0, .ofNat 0)), (2, 1, (0, .ofNat 0, .ofNat 1), (0, .ofNat 0, .ofNat 0), (0, .ofNat 0, .ofNat 0)), (2, 5, (4, .ofNat 1, .ofNat 0), (5, .ofNat 1, .negSucc 2), (0, .ofNat 0, .ofNat 0)), (0, 116, (0, .ofNat 0, .ofNat 0), (5, .ofNat 1, .ofNat 0), (0, .ofNat 0, .ofNat 0)), (2, 3, (4, .ofNat 1, .ofNat 0), (0, .ofNat 0, .ofNat 0), (0, .ofNat 0, .ofNat 0)), (2, 3, (1, .ofNat 1, .ofNat 0), (0, .ofNat 0, .ofNat 0), (0, .ofNat 0, .ofNat 0)), (2, 2, (3, .ofNat 1, .ofNat 0), (2, .ofNat 1, .ofNat 0), (0, .ofNat 0, .ofNat 0))], [(1, [(.ofNat 0, .ofNat 57)]), (2, [(.ofNat 1, .ofNat 16)]), (3, [(.ofNat 0, .ofNat 15)]), (4, [(.ofNat 0, .ofNat 57)]), (5, [(.ofNat 3, .ofNat 60)]), (6, [(.negSucc 2147483647, .ofNat 0)])], [((1, .ofNat 1, .ofNat 0), (3, .ofNat 3, .ofNat 0), (4, .ofNat 1, .ofNat 0))], []),
  (0, [], [.inl (false, (0, .ofNat 0, .negSucc 20))], [(2, 1, (0, .ofNat 0, .negSucc 0), (0, .ofNat 0, .ofNat 0), (0, .ofNat 0, .ofNat 0)), (2, 0, (0, .ofNat 0, .ofNat 0), (0, .ofNat 0, .ofNat 0), (0, .ofNat 0, .ofNat 0)), (2, 4, (6, .ofNat 1, .ofNat 0), (0, .ofNat 0, .ofNat 1000000), (0, .ofNat 0, .ofNat 0)), (2, 3, (6, .ofNat 1, .ofNat 0), (0, .ofNat 0, .ofNat 1), (0, .ofNat 0, .ofNat 0)), (0, 117, (4, .ofNat 1, .ofNat 2), (8, .ofNat 1, .ofNat 0), (0, .ofNat 0, .ofNat 0)), (0, 117, (4, .ofNat 1, .ofNat 1), (7, .ofNat 1, .ofNat 0), (0, .ofNat 0, .ofNat 0)), (0, 117, (4, .ofNat 1, .ofNat 0), (6, .ofNat 1, .ofNat 0), (0, .ofNat 0, .ofNat 0)), (2, 1, (0, .ofNat 0, .ofNat 1), (0, .ofNat 0, .ofNat 0), (0, .ofNat 0, .ofNat 0)), (2, 5, (4, .ofNat 1, .ofNat 0), (5, .ofNat 1, .negSucc 2), (0, .ofNat 0, .ofNat 0)), (0, 116, (0, .ofNat 0, .ofNat 0), (5, .ofNat 1, .ofNat 0), (0, .ofNat 0, .ofNat 0)), (2, 3, (4, .ofNat 1, .ofNat 0), (0, .ofNat 0, .ofNat 0), (0, .ofNat 0, .ofNat 0)), (2, 3, (1, .ofNat 1, .ofNat 0), (0, .ofNat 0, .ofNat 0), (0, .ofNat 0, .ofNat 0)), (2, 2, (3, .ofNat 1, .ofNat 0), (2, .ofNat 1, .ofNat 0), (0, .ofNat 0, .ofNat 0))], [(1, [(.ofNat 0, .ofNat 57)]), (2, [(.ofNat 1, .ofNat 16)]), (3, [(.ofNat 0, .ofNat 15)]), (4, [(.ofNat 0, .ofNat 57)]), (5, [(.ofNat 3, .ofNat 60)]), (6, [(.ofNat 1000001, .ofNat 2147483647)])], [((1, .ofNat 1, .ofNat 0), (3, .ofNat 3, .ofNat 0), (4, .ofNat 1, .ofNat 0))], []),
  (0, [], [.inl (false, (0, .ofNat 0, .negSucc 20))], [(2, 1, (0, .ofNat 0, .negSucc 0), (0, .ofNat 0, .ofNat 0), (0, .ofNat 0, .ofNat 0)), (2, 0, (0, .ofNat 0, .ofNat 0), (0, .ofNat 0, .ofNat 0), (0, .ofNat 0, .ofNat 0)), (2, 2, (7, .ofNat 1, .ofNat 0), (0, .ofNat 0, .ofNat 0), (0, .ofNat 0, .ofNat 0)), (2, 5, (6, .ofNat 1, .ofNat 0), (0, .ofNat 0, .ofNat 1000000), (0, .ofNat 0, .ofNat 0)), (2, 3, (6, .ofNat 1, .ofNat 0), (0, .ofNat 0, .ofNat 1), (0, .ofNat 0, .ofNat 0)), (0, 117, (4, .ofNat 1, .ofNat 2), (8, .ofNat 1, .ofNat 0), (0, .ofNat 0, .ofNat 0)), (0, 117, (4, .ofNat 1, .ofNat 1), (7, .ofNat 1, .ofNat 0), (0, .ofNat 0, .ofNat 0)), (0, 117, (4, .ofNat 1, .ofNat 0), (6, .ofNat 1, .ofNat 0), (0, .ofNat 0, .ofNat 0)), (2, 1, (0, .ofNat 0, .ofNat 1), (0, .ofNat 0, .ofNat 0), (0, .ofNat 0, .ofNat 0)), (2, 5, (4, .ofNat 1, .ofNat 0), (5, .ofNat 1, .negSucc 2), (0, .ofNat 0, .ofNat 0)), (0, 116, (0, .ofNat 0, .ofNat 0), (5, .ofNat 1, .ofNat 0), (0, .ofNat 0, .ofNat 0)), (2, 3, (4, .ofNat 1, .ofNat 0), (0, .ofNat 0, .ofNat 0), (0, .ofNat 0, .ofNat 0)), (2, 3, (1, .ofNat 1, .ofNat 0), (0, .ofNat 0, .ofNat 0), (0, .ofNat 0, .ofNat 0)), (2, 2, (3, .ofNat 1, .ofNat 0), (2, .ofNat 1, .ofNat 0), (0, .ofNat 0, .ofNat 0))], [(1, [(.ofNat 0, .ofNat 57)]), (2, [(.ofNat 1, .ofNat 16)]), (3, [(.ofNat 0, .ofNat 15)]), (4, [(.ofNat 0, .ofNat 57)]), (5, [(.ofNat 3, .ofNat 60)]), (6, [(.ofNat 1, .ofNat 1000000)]), (7, [(.negSucc 2147483647, .negSucc 0)])], [((1, .ofNat 1, .ofNat 0), (3, .ofNat 3, .ofNat 0), (4, .ofNat 1, .ofNat 0))], []),
  (0, [], [.inl (false, (0, .ofNat 0, .negSucc 20))], [(2, 1, (0, .ofNat 0, .negSucc 0), (0, .ofNat 0, .ofNat 0), (0, .ofNat 0, .ofNat 0)), (2, 0, (0, .ofNat 0, .ofNat 0), (0, .ofNat 0, .ofNat 0), (0, .ofNat 0, .ofNat 0)), (2, 4, (7, .ofNat 1, .ofNat 0), (0, .ofNat 0, .ofNat 1000), (0, .ofNat 0, .ofNat 0)), (2, 3, (7, .ofNat 1, .ofNat 0), (0, .ofNat 0, .ofNat 0), (0, .ofNat 0, .ofNat 0)), (2, 5, (6, .ofNat 1, .ofNat 0), (0, .ofNat 0, .ofNat 1000000), (0, .ofNat 0, .ofNat 0)), (2, 3, (6, .ofNat 1, .ofNat 0), (0, .ofNat 0, .ofNat 1), (0, .ofNat 0, .ofNat 0)), (0, 117, (4, .ofNat 1, .ofNat 2), (8, .ofNat 1, .ofNat 0), (0, .ofNat 0, .ofNat 0)), (0, 117, (4, .ofNat 1, .ofNat 1), (7, .ofNat 1, .ofNat 0), (0, .ofNat 0, .ofNat 0)), (0, 117, (4, .ofNat 1, .ofNat 0), (6, .ofNat 1, .ofNat 0), (0, .ofNat 0, .ofNat 0)), (2, 1, (0, .ofNat 0, .ofNat 1), (0, .ofNat 0, .ofNat 0), (0, .ofNat 0, .ofNat 0)), (2, 5, (4, .ofNat 1, .ofNat 0), (5, .ofNat 1, .negSucc 2), (0, .ofNat 0, .ofNat 0)), (0, 116, (0, .ofNat 0, .ofNat 0), (5, .ofNat 1, .ofNat 0), (0, .ofNat 0, .ofNat 0)), (2, 3, (4, .ofNat 1, .ofNat 0), (0, .ofNat 0, .ofNat 0), (0, .ofNat 0, .ofNat 0)), (2, 3, (1, .ofNat 1, .ofNat 0), (0, .ofNat 0, .ofNat 0), (0, .ofNat 0, .ofNat 0)), (2, 2, (3, .ofNat 1, .ofNat 0), (2, .ofNat 1, .ofNat 0), (0, .ofNat 0, .ofNat 0))], [(1, [(.ofNat 0, .ofNat 57)]), (2, [(.ofNat 1, .ofNat 16)]), (3, [(.ofNat 0, .ofNat 15)]), (4, [(.ofNat 0, .ofNat 57)]), (5, [(.ofNat 3, .ofNat 60)]), (6, [(.ofNat 1, .ofNat 1000000)]), (7, [(.ofNat 1001, .ofNat 2147483647)])], [((1, .ofNat 1, .ofNat 0), (3, .ofNat 3, .ofNat 0), (4, .ofNat 1, .ofNat 0))], []),
  (0, [], [.inl (false, (0, .ofNat 0, .negSucc 20))], [(2, 1, (0, .ofNat 0, .negSucc 0), (0, .ofNat 0, .ofNat 0), (0, .ofNat 0, .ofNat 0)), (2, 0, (0, .ofNat 0, .ofNat 0), (0, .ofNat 0, .ofNat 0), (0, .ofNat 0, .ofNat 0)), (2, 2, (8, .ofNat 1, .ofNat 0), (0, .ofNat 0, .ofNat 0), (0, .ofNat 0, .ofNat 0)), (2, 5, (7, .ofNat 1, .ofNat 0), (0, .ofNat 0, .ofNat 1000), (0, .ofNat 0, .ofNat 0)), (2, 3, (7, .ofNat 1, .ofNat 0), (0, .ofNat 0, .ofNat 0), (0, .ofNat 0, .ofNat 0)), (2, 5, (6, .ofNat 1, .ofNat 0), (0, .ofNat 0, .ofNat 1000000), (0, .ofNat 0, .ofNat 0)), (2, 3, (6, .ofNat 1, .ofNat 0), (0, .ofNat 0, .ofNat 1), (0, .ofNat 0, .ofNat 0)), (0, 117, (4, .ofNat 1, .ofNat 2), (8, .ofNat 1, .ofNat 0), (0, .ofNat 0, .ofNat 0)), (0, 117, (4, .ofNat 1, .ofNat 1), (7, .ofNat 1, .ofNat 0), (0, .ofNat 0, .ofNat 0)), (0, 117, (4, .ofNat 1, .ofNat 0), (6, .ofNat 1, .ofNat 0), (0, .ofNat 0, .ofNat 0)), (2, 1, (0, .ofNat 0, .ofNat 1), (0, .ofNat 0, .ofNat 0), (0, .ofNat 0, .ofNat 0)), (2, 5, (4, .ofNat 1, .ofNat 0), (5, .ofNat 1, .negSucc 2), (0, .ofNat 0, .ofNat 0)), (0, 116, (0, .ofNat 0, .ofNat 0), (5, .ofNat 1, .ofNat 0), (0, .ofNat 0, .ofNat 0)), (2, 3, (4, .ofNat 1, .ofNat 0), (0, .ofNat 0, .ofNat 0), (0, .ofNat 0, .ofNat 0)), (2, 3, (1, .ofNat 1, .ofNat 0), (0, .ofNat 0, .ofNat 0), (0, .ofNat 0, .ofNat 0)), (2, 2, (3, .ofNat 1, .ofNat 0), (2, .ofNat 1, .ofNat 0), (0, .ofNat 0, .ofNat 0))], [(1, [(.ofNat 0, .ofNat 57)]), (2, [(.ofNat 1, .ofNat 16)]), (3, [(.ofNat 0, .ofNat 15)]), (4, [(.ofNat 0, .ofNat 57)]), (5, [(.ofNat 3, .ofNat 60)]), (6, [(.ofNat 1, .ofNat 1000000)]), (7, [(.ofNat 0, .ofNat 1000)]), (8, [(.negSucc 2147483647, .negSucc 0)])], [((1, .ofNat 1, .ofNat 0), (3, .ofNat 3, .ofNat 0), (4, .ofNat 1, .ofNat 0))], []),
  (0, [], [.inl (false, (0, .ofNat 0, .negSucc 20))], [(2, 1, (0, .ofNat 0, .negSucc 0), (0, .ofNat 0, .ofNat 0), (0, .ofNat 0, .ofNat 0)), (2, 0, (0, .ofNat 0, .ofNat 0), (0, .ofNat 0, .ofNat 0), (0, .ofNat 0, .ofNat 0)), (2, 4, (8, .ofNat 1, .ofNat 0), (0, .ofNat 0, .ofNat 999), (0, .ofNat 0, .ofNat 0)), (2, 3, (8, .ofNat 1, .ofNat 0), (0, .ofNat 0, .ofNat 0), (0, .ofNat 0, .ofNat 0)), (2, 5, (7, .ofNat 1, .ofNat 0), (0, .ofNat 0, .ofNat 1000), (0, .ofNat 0, .ofNat 0)), (2, 3, (7, .ofNat 1, .ofNat 0), (0, .ofNat 0, .ofNat 0), (0, .ofNat 0, .ofNat 0)), (2, 5, (6, .ofNat 1, .ofNat 0), (0, .ofNat 0, .ofNat 1000000), (0, .ofNat 0, .ofNat 0)), (2, 3, (6, .ofNat 1, .ofNat 0), (0, .ofNat 0, .ofNat 1), (0, .ofNat 0, .ofNat 0)), (0, 117, (4, .ofNat 1, .ofNat 2), (8, .ofNat 1, .ofNat 0), (0, .ofNat 0, .ofNat 0)), (0, 117, (4, .ofNat 1, .ofNat 1), (7, .ofNat 1, .ofNat 0), (0, .ofNat 0, .ofNat 0)), (0, 117, (4, .ofNat 1, .ofNat 0), (6, .ofNat 1, .ofNat 0), (0, .ofNat 0, .ofNat 0)), (2, 1, (0, .ofNat 0, .ofNat 1), (0, .ofNat 0, .ofNat 0), (0, .ofNat 0, .ofNat 0)), (2, 5, (4, .ofNat 1, .ofNat 0), (5, .ofNat 1, .negSucc 2), (0, .ofNat 0, .ofNat 0)), (0, 116, (0, .ofNat 0, .ofNat 0), (5, .ofNat 1, .ofNat 0), (0, .ofNat 0, .ofNat 0)), (2, 3, (4, .ofNat 1, .ofNat 0), (0, .ofNat 0, .ofNat 0), (0, .ofNat 0, .ofNat 0)), (2, 3, (1, .ofNat 1, .ofNat 0), (0, .ofNat 0, .ofNat 0), (0, .ofNat 0, .ofNat 0)), (2, 2, (3, .ofNat 1, .ofNat 0), (2, .ofNat 1, .ofNat 0), (0, .ofNat 0, .ofNat 0))], [(1, [(.ofNat 0, .ofNat 57)]), (2, [(.ofNat 1, .ofNat 16)]), (3, [(.ofNat 0, .ofNat 15)]), (4, [(.ofNat 0, .ofNat 57)]), (5, [(.ofNat 3, .ofNat 60)]), (6, [(.ofNat 1, .ofNat 1000000)]), (7, [(.ofNat 0, .ofNat 1000)]), (8, [(.ofNat 1000, .ofNat 2147483647)])], [((1, .ofNat 1, .ofNat 0), (3, .ofNat 3, .ofNat 0), (4, .ofNat 1, .ofNat 0))], []),
  (4, [(0, .inr (.inl [0])), (1, .inr (.inl [116])), (2, .inl (false, (1, .ofNat 1, .ofNat 0))), (3, .inl (false, (2, .ofNat 1, .ofNat 0))), (4, .inl (false, (3, .ofNat 1, .ofNat 1))), (5, .inl (false, (4, .ofNat 1, .ofNat 0))), (6, .inl (false, (0, .ofNat 0, .ofNat 0)))], [], [(2, 0, (0, .ofNat 0, .ofNat 0), (0, .ofNat 0, .ofNat 0), (0, .ofNat 0, .ofNat 0)), (2, 2, (10, .ofNat 1, .ofNat 0), (0, .ofNat 0, .ofNat 16), (0, .ofNat 0, .ofNat 0)), (0, 6, (0, .ofNat 0, .ofNat 0), (9, .ofNat 1, .ofNat 0), (0, .ofNat 0, .ofNat 0)), (2, 1, (0, .ofNat 0, .ofNat 1), (0, .ofNat 0, .ofNat 0), (0, .ofNat 0, .ofNat 0)), (2, 5, (8, .ofNat 1, .ofNat 0), (0, .ofNat 0, .ofNat 999), (0, .ofNat 0, .ofNat 0)), (2, 3, (8, .ofNat 1, .ofNat 0), (0, .ofNat 0, .ofNat 0), (0, .ofNat 0, .ofNat 0)), (2, 5, (7, .ofNat 1, .ofNat 0), (0, .ofNat 0, .ofNat 1000), (0, .ofNat 0, .ofNat 0)), (2, 3, (7, .ofNat 1, .ofNat 0), (0, .ofNat 0, .ofNat 0), (0, .ofNat 0, .ofNat 0)), (2, 5, (6, .ofNat 1, .ofNat 0), (0, .ofNat 0, .ofNat 1000000), (0, .ofNat 0, .ofNat 0)), (2, 3, (6, .ofNat 1, .ofNat 0), (0, .ofNat 0, .ofNat 1), (0, .ofNat 0, .ofNat 0)), (0, 117, (4, .ofNat 1, .ofNat 2), (8, .ofNat 1, .ofNat 0), (0, .ofNat 0, .ofNat 0)), (0, 117, (4, .ofNat 1, .ofNat 1), (7, .ofNat 1, .ofNat 0), (0, .ofNat 0, .ofNat 0)), (0, 117, (4, .ofNat 1, .ofNat 0), (6, .ofNat 1, .ofNat 0), (0, .ofNat 0, .ofNat 0)), (2, 1, (0, .ofNat 0, .ofNat 1), (0, .ofNat 0, .ofNat 0), (0, .ofNat 0, .ofNat 0)), (2, 5, (4, .ofNat 1, .ofNat 0), (5, .ofNat 1, .negSucc 2), (0, .ofNat 0, .ofNat 0)), (0, 116, (0, .ofNat 0, .ofNat 0), (5, .ofNat 1, .ofNat 0), (0, .ofNat 0, .ofNat 0)), (2, 3, (4, .ofNat 1, .ofNat 0), (0, .ofNat 0, .ofNat 0), (0, .ofNat 0, .ofNat 0)), (2, 3, (1, .ofNat 1, .ofNat 0), (0, .ofNat 0, .ofNat 0), (0, .ofNat 0, .ofNat 0)), (2, 2, (3, .ofNat 1, .ofNat 0), (2, .ofNat 1, .ofNat 0), (0, .ofNat 0, .ofNat 0))], [(1, [(.ofNat 0, .ofNat 57)]), (2, [(.ofNat 1, .ofNat 16)]), (3, [(.ofNat 0, .ofNat 15)]), (4, [(.ofNat 0, .ofNat 57)]), (5, [(.ofNat 3, .ofNat 60)]), (6, [(.ofNat 1, .ofNat 1000000)]), (7, [(.ofNat 0, .ofNat 1000)]), (8, [(.ofNat 0, .ofNat 999)]), (9, [(.ofNat 0, .ofNat 16)]), (10, [(.ofNat 0, .ofNat 15)])], [((9, .ofNat 1, .ofNat 0), (3, .ofNat 1, .ofNat 0), (10, .ofNat 1, .ofNat 0)), ((1, .ofNat 1, .ofNat 0), (3, .ofNat 3, .ofNat 0), (4, .ofNat 1, .ofNat 0))], []),
  (0, [], [.inl (false, (0, .ofNat 0, .negSucc 22))], [(2, 1, (0, .ofNat 0, .negSucc 2), (0, .ofNat 0, .ofNat 0), (0, .ofNat 0, .ofNat 0)), (2, 3, (10, .ofNat 1, .ofNat 0), (0, .ofNat 0, .ofNat 16), (0, .ofNat 0, .ofNat 0)), (0, 6, (0, .ofNat 0, .ofNat 0), (9, .ofNat 1, .ofNat 0), (0, .ofNat 0, .ofNat 0)), (2, 1, (0, .ofNat 0, .ofNat 1), (0, .ofNat 0, .ofNat 0), (0, .ofNat 0, .ofNat 0)), (2, 5, (8, .ofNat 1, .ofNat 0), (0, .ofNat 0, .ofNat 999), (0, .ofNat 0, .ofNat 0)), (2, 3, (8, .ofNat 1, .ofNat 0), (0, .ofNat 0, .ofNat 0), (0, .ofNat 0, .ofNat 0)), (2, 5, (7, .ofNat 1, .ofNat 0), (0, .ofNat 0, .ofNat 1000), (0, .ofNat 0, .ofNat 0)), (2, 3, (7, .ofNat 1, .ofNat 0), (0, .ofNat 0, .ofNat 0), (0, .ofNat 0, .ofNat 0)), (2, 5, (6, .ofNat 1, .ofNat 0), (0, .ofNat 0, .ofNat 1000000), (0, .ofNat 0, .ofNat 0)), (2, 3, (6, .ofNat 1, .ofNat 0), (0, .ofNat 0, .ofNat 1), (0, .ofNat 0, .ofNat 0)), (0, 117, (4, .ofNat 1, .ofNat 2), (8, .ofNat 1, .ofNat 0), (0, .ofNat 0, .ofNat 0)), (0, 117, (4, .ofNat 1, .ofNat 1), (7, .ofNat 1, .ofNat 0), (0, .ofNat 0, .ofNat 0)), (0, 117, (4, .ofNat 1, .ofNat 0), (6, .ofNat 1, .ofNat 0), (0, .ofNat 0, .ofNat 0)), (2, 1, (0, .ofNat 0, .ofNat 1), (0, .ofNat 0, .ofNat 0), (0, .ofNat 0, .ofNat 0)), (2, 5, (4, .ofNat 1, .ofNat 0), (5, .ofNat 1, .negSucc 2), (0, .ofNat 0, .ofNat 0)), (0, 116, (0, .ofNat 0, .ofNat 0), (5, .ofNat 1, .ofNat 0), (0, .ofNat 0, .ofNat 0)), (2, 3, (4, .ofNat 1, .ofNat 0), (0, .ofNat 0, .ofNat 0), (0, .ofNat 0, .ofNat 0)), (2, 3, (1, .ofNat 1, .ofNat 0), (0, .ofNat 0, .ofNat 0), (0, .ofNat 0, .ofNat 0)), (2, 2, (3, .ofNat 1, .ofNat 0), (2, .ofNat 1, .ofNat 0), (0, .ofNat 0, .ofNat 0))], [(1, [(.ofNat 0, .ofNat 57)]), (2, [(.ofNat 1, .ofNat 16)]), (3, [(.ofNat 0, .ofNat 15)]), (4, [(.ofNat 0, .ofNat 57)]), (5, [(.ofNat 3, .ofNat 60)]), (6, [(.ofNat 1, .ofNat 1000000)]), (7, [(.ofNat 0, .ofNat 1000)]), (8, [(.ofNat 0, .ofNat 999)]), (9, [(.ofNat 0, .ofNat 16)]), (10, [(.ofNat 16, .ofNat 31)])], [((9, .ofNat 1, .ofNat 0), (3, .ofNat 1, .ofNat 0), (10, .ofNat 1, .ofNat 0)), ((1, .ofNat 1, .ofNat 0), (3, .ofNat 3, .ofNat 0), (4, .ofNat 1, .ofNat 0))], [])]
set_option maxRecDepth 1000000 in
theorem sg_sr_x1c_g : sg_go [] [3] 3000 155 3 1 4 [(0, [(.ofNat 0, .ofNat 0)]), (1, [(.ofNat 0, .ofNat 57)]), (2, [(.ofNat 0, .ofNat 16)]), (3, [(.ofNat 0, .ofNat 16)])] [] [] [] [(0, .inr (.inl [0])), (1, .inr (.inl [116])), (2, .inl (false, (1, .ofNat 1, .ofNat 0))), (3, .inl (false, (2, .ofNat 1, .ofNat 0))), (4, .inl (false, (3, .ofNat 1, .ofNat 0)))] [] [] sg_sr_x1c_Z = true := by decide +kernel
theorem sg_sr_x1c {Q : Option Value × am_S → Prop} {d : Nat} {S : am_S} {L : am_L} {x1 x2 x3 : Int} (hd : 1 ≤ d) (hP : ax_P0 none S) (l0 : lc L 0 0) (l1 : lc L 1 116) (l2 : li L 2 x1) (l3 : li L 3 x2) (l4 : li L 4 x3) (b1 : (0 ≤ x1 ∧ x1 ≤ 57)) (b2 : (0 ≤ x2 ∧ x2 ≤ 16)) (b3 : (0 ≤ x3 ∧ x3 ≤ 16))
    (k0 : ∀ (i1 : Int32), x2 ≤ x3 → (0 ≤ x1 ∧ x1 ≤ 57) → (0 ≤ x2 ∧ x2 ≤ 16) → (0 ≤ x3 ∧ x3 ≤ 16) → i1.toInt = 0 → Q (some (.int i1), S))
    (k1 : ∀ (x4 x5 : Int) (i1 : Int32), x3 < x2 → 0 ≤ x1 → 0 ≤ x4 → rd S 116 0 = x5 → x5 + (-3) < x4 → (0 ≤ x1 ∧ x1 ≤ 57) → (1 ≤ x2 ∧ x2 ≤ 16) → (0 ≤ x3 ∧ x3 ≤ 15) → (0 ≤ x4 ∧ x4 ≤ 102) → (0 ≤ x5 ∧ x5 ≤ 60) → x1 + (3 * x3 + 0) = x4 → i1.toInt = (-12) → Q (some (.int i1), S))
    (k2 : ∀ (x4 x5 x6 x7 x8 : Int) (i1 : Int32), x3 < x2 → 0 ≤ x1 → 0 ≤ x4 → rd S 116 0 = x5 → x4 ≤ x5 + (-3) → rd S 117 x4 = x6 → rd S 117 (x4 + 1) = x7 → rd S 117 (x4 + 2) = x8 → x6 < 1 → (0 ≤ x1 ∧ x1 ≤ 57) → (1 ≤ x2 ∧ x2 ≤ 16) → (0 ≤ x3 ∧ x3 ≤ 15) → (0 ≤ x4 ∧ x4 ≤ 57) → (3 ≤ x5 ∧ x5 ≤ 60) → ((-2147483648) ≤ x6 ∧ x6 ≤ 0) → x1 + (3 * x3 + 0) = x4 → i1.toInt = (-21) → Q (some (.int i1), S))
    (k3 : ∀ (x4 x5 x6 x7 x8 : Int) (i1 : Int32), x3 < x2 → 0 ≤ x1 → 0 ≤ x4 → rd S 116 0 = x5 → x4 ≤ x5 + (-3) → rd S 117 x4 = x6 → rd S 117 (x4 + 1) = x7 → rd S 117 (x4 + 2) = x8 → 1 ≤ x6 → 1000000 < x6 → (0 ≤ x1 ∧ x1 ≤ 57) → (1 ≤ x2 ∧ x2 ≤ 16) → (0 ≤ x3 ∧ x3 ≤ 15) → (0 ≤ x4 ∧ x4 ≤ 57) → (3 ≤ x5 ∧ x5 ≤ 60) → (1000001 ≤ x6 ∧ x6 ≤ 2147483647) → x1 + (3 * x3 + 0) = x4 → i1.toInt = (-21) → Q (some (.int i1), S))
    (k4 : ∀ (x4 x5 x6 x7 x8 : Int) (i1 : Int32), x3 < x2 → 0 ≤ x1 → 0 ≤ x4 → rd S 116 0 = x5 → x4 ≤ x5 + (-3) → rd S 117 x4 = x6 → rd S 117 (x4 + 1) = x7 → rd S 117 (x4 + 2) = x8 → 1 ≤ x6 → x6 ≤ 1000000 → x7 < 0 → (0 ≤ x1 ∧ x1 ≤ 57) → (1 ≤ x2 ∧ x2 ≤ 16) → (0 ≤ x3 ∧ x3 ≤ 15) → (0 ≤ x4 ∧ x4 ≤ 57) → (3 ≤ x5 ∧ x5 ≤ 60) → (1 ≤ x6 ∧ x6 ≤ 1000000) → ((-2147483648) ≤ x7 ∧ x7 ≤ (-1)) → x1 + (3 * x3 + 0) = x4 → i1.toInt = (-21) → Q (some (.int i1), S))
    (k5 : ∀ (x4 x5 x6 x7 x8 : Int) (i1 : Int32), x3 < x2 → 0 ≤ x1 → 0 ≤ x4 → rd S 116 0 = x5 → x4 ≤ x5 + (-3) → rd S 117 x4 = x6 → rd S 117 (x4 + 1) = x7 → rd S 117 (x4 + 2) = x8 → 1 ≤ x6 → x6 ≤ 1000000 → 0 ≤ x7 → 1000 < x7 → (0 ≤ x1 ∧ x1 ≤ 57) → (1 ≤ x2 ∧ x2 ≤ 16) → (0 ≤ x3 ∧ x3 ≤ 15) → (0 ≤ x4 ∧ x4 ≤ 57) → (3 ≤ x5 ∧ x5 ≤ 60) → (1 ≤ x6 ∧ x6 ≤ 1000000) → (1001 ≤ x7 ∧ x7 ≤ 2147483647) → x1 + (3 * x3 + 0) = x4 → i1.toInt = (-21) → Q (some (.int i1), S))
    (k6 : ∀ (x4 x5 x6 x7 x8 : Int) (i1 : Int32), x3 < x2 → 0 ≤ x1 → 0 ≤ x4 → rd S 116 0 = x5 → x4 ≤ x5 + (-3) → rd S 117 x4 = x6 → rd S 117 (x4 + 1) = x7 → rd S 117 (x4 + 2) = x8 → 1 ≤ x6 → x6 ≤ 1000000 → 0 ≤ x7 → x7 ≤ 1000 → x8 < 0 → (0 ≤ x1 ∧ x1 ≤ 57) → (1 ≤ x2 ∧ x2 ≤ 16) → (0 ≤ x3 ∧ x3 ≤ 15) → (0 ≤ x4 ∧ x4 ≤ 57) → (3 ≤ x5 ∧ x5 ≤ 60) → (1 ≤ x6 ∧ x6 ≤ 1000000) → (0 ≤ x7 ∧ x7 ≤ 1000) → ((-2147483648) ≤ x8 ∧ x8 ≤ (-1)) → x1 + (3 * x3 + 0) = x4 → i1.toInt = (-21) → Q (some (.int i1), S))
    (k7 : ∀ (x4 x5 x6 x7 x8 : Int) (i1 : Int32), x3 < x2 → 0 ≤ x1 → 0 ≤ x4 → rd S 116 0 = x5 → x4 ≤ x5 + (-3) → rd S 117 x4 = x6 → rd S 117 (x4 + 1) = x7 → rd S 117 (x4 + 2) = x8 → 1 ≤ x6 → x6 ≤ 1000000 → 0 ≤ x7 → x7 ≤ 1000 → 0 ≤ x8 → 999 < x8 → (0 ≤ x1 ∧ x1 ≤ 57) → (1 ≤ x2 ∧ x2 ≤ 16) → (0 ≤ x3 ∧ x3 ≤ 15) → (0 ≤ x4 ∧ x4 ≤ 57) → (3 ≤ x5 ∧ x5 ≤ 60) → (1 ≤ x6 ∧ x6 ≤ 1000000) → (0 ≤ x7 ∧ x7 ≤ 1000) → (1000 ≤ x8 ∧ x8 ≤ 2147483647) → x1 + (3 * x3 + 0) = x4 → i1.toInt = (-21) → Q (some (.int i1), S))
    (k8 : ∀ (x4 x5 x6 x7 x8 x9 x10 : Int) (L' : am_L), x3 < x2 → 0 ≤ x1 → 0 ≤ x4 → rd S 116 0 = x5 → x4 ≤ x5 + (-3) → rd S 117 x4 = x6 → rd S 117 (x4 + 1) = x7 → rd S 117 (x4 + 2) = x8 → 1 ≤ x6 → x6 ≤ 1000000 → 0 ≤ x7 → x7 ≤ 1000 → 0 ≤ x8 → x8 ≤ 999 → rd S 6 0 = x9 → x10 < 16 → (0 ≤ x1 ∧ x1 ≤ 57) → (1 ≤ x2 ∧ x2 ≤ 16) → (0 ≤ x3 ∧ x3 ≤ 15) → (0 ≤ x4 ∧ x4 ≤ 57) → (3 ≤ x5 ∧ x5 ≤ 60) → (1 ≤ x6 ∧ x6 ≤ 1000000) → (0 ≤ x7 ∧ x7 ≤ 1000) → (0 ≤ x8 ∧ x8 ≤ 999) → (0 ≤ x9 ∧ x9 ≤ 16) → (0 ≤ x10 ∧ x10 ≤ 15) → x9 + x3 = x10 → x1 + (3 * x3 + 0) = x4 → lc L' 0 0 → lc L' 1 116 → li L' 2 x1 → li L' 3 x2 → li L' 4 (x3 + 1) → li L' 5 x4 → li L' 6 0 → am_V none d 155 3 L' ([]) S Q)
    (k9 : ∀ (x4 x5 x6 x7 x8 x9 x10 : Int) (i1 : Int32), x3 < x2 → 0 ≤ x1 → 0 ≤ x4 → rd S 116 0 = x5 → x4 ≤ x5 + (-3) → rd S 117 x4 = x6 → rd S 117 (x4 + 1) = x7 → rd S 117 (x4 + 2) = x8 → 1 ≤ x6 → x6 ≤ 1000000 → 0 ≤ x7 → x7 ≤ 1000 → 0 ≤ x8 → x8 ≤ 999 → rd S 6 0 = x9 → 16 ≤ x10 → (0 ≤ x1 ∧ x1 ≤ 57) → (1 ≤ x2 ∧ x2 ≤ 16) → (0 ≤ x3 ∧ x3 ≤ 15) → (0 ≤ x4 ∧ x4 ≤ 57) → (3 ≤ x5 ∧ x5 ≤ 60) → (1 ≤ x6 ∧ x6 ≤ 1000000) → (0 ≤ x7 ∧ x7 ≤ 1000) → (0 ≤ x8 ∧ x8 ≤ 999) → (0 ≤ x9 ∧ x9 ≤ 16) → (16 ≤ x10 ∧ x10 ≤ 31) → x9 + x3 = x10 → x1 + (3 * x3 + 0) = x4 → i1.toInt = (-23) → Q (some (.int i1), S)) : am_V none d 155 3 L ([]) S Q := by
  refine sg_use sg_sr_x1c_g hd hP (sg_xs [0, x1, x2, x3]) ⟨⟨Int.le_refl 0, Int.le_refl 0⟩, b1, b2, b3, trivial⟩ trivial trivial trivial ⟨l0, l1, l2, l3, l4, trivial⟩ trivial ?_
  intro z hz x' L' st' S' hx hP' hW hL' hs' hJ hE' hT' hD'
  have q1 : x' 1 = x1 := hx 1 (by decide)
  subst q1
  have q2 : x' 2 = x2 := hx 2 (by decide)
  subst q2
  have q3 : x' 3 = x3 := hx 3 (by decide)
  subst q3
  have eS : S' = S := hW.1 rfl
  subst eS
  simp only [sg_sr_x1c_Z, List.mem_cons, List.not_mem_nil, or_false] at hz
  rcases hz with rfl | rfl | rfl | rfl | rfl | rfl | rfl | rfl | rfl | rfl
  · obtain ⟨f0, hσ⟩ := hJ
    obtain ⟨e0, e1, e2, -⟩ := hE'
    intro v hv
    subst hv
    cases v with
    | none => exact hs'.elim
    | some v1 =>
      obtain ⟨⟨i1, rfl, g1⟩, -⟩ := hs'
      exact k0 i1 f0 e0 e1 e2 g1
  · obtain ⟨f0, f1, f2, f3, f4, -, hσ⟩ := hJ
    obtain ⟨e0, e1, e2, e3, e4, -⟩ := hE'
    obtain ⟨t0, -⟩ := hT'
    intro v hv
    subst hv
    cases v with
    | none => exact hs'.elim
    | some v1 =>
      obtain ⟨⟨i1, rfl, g1⟩, -⟩ := hs'
      exact k1 (x' 4) (x' 5) i1 f0 f1 f2 f3 f4 e0 e1 e2 e3 e4 t0 g1
  · obtain ⟨f0, f1, f2, f3, f4, -, f6, f7, f8, f9, -, -, hσ⟩ := hJ
    obtain ⟨e0, e1, e2, e3, e4, e5, -⟩ := hE'
    obtain ⟨t0, -⟩ := hT'
    intro v hv
    subst hv
    cases v with
    | none => exact hs'.elim
    | some v1 =>
      obtain ⟨⟨i1, rfl, g1⟩, -⟩ := hs'
      exact k2 (x' 4) (x' 5) (x' 6) (x' 7) (x' 8) i1 f0 f1 f2 f3 f4 f6 f7 f8 f9 e0 e1 e2 e3 e4 e5 t0 g1
  · obtain ⟨f0, f1, f2, f3, f4, -, f6, f7, f8, f9, f10, -, -, hσ⟩ := hJ
    obtain ⟨e0, e1, e2, e3, e4, e5, -⟩ := hE'
    obtain ⟨t0, -⟩ := hT'
    intro v hv
    subst hv
    cases v with
    | none => exact hs'.elim
    | some v1 =>
      obtain ⟨⟨i1, rfl, g1⟩, -⟩ := hs'
      exact k3 (x' 4) (x' 5) (x' 6) (x' 7) (x' 8) i1 f0 f1 f2 f3 f4 f6 f7 f8 f9 f10 e0 e1 e2 e3 e4 e5 t0 g1
  · obtain ⟨f0, f1, f2, f3, f4, -, f6, f7, f8, f9, f10, f11, -, -, hσ⟩ := hJ
    obtain ⟨e0, e1, e2, e3, e4, e5, e6, -⟩ := hE'
    obtain ⟨t0, -⟩ := hT'
    intro v hv
    subst hv
    cases v with
    | none => exact hs'.elim
    | some v1 =>
      obtain ⟨⟨i1, rfl, g1⟩, -⟩ := hs'
      exact k4 (x' 4) (x' 5) (x' 6) (x' 7) (x' 8) i1 f0 f1 f2 f3 f4 f6 f7 f8 f9 f10 f11 e0 e1 e2 e3 e4 e5 e6 t0 g1
  · obtain ⟨f0, f1, f2, f3, f4, -, f6, f7, f8, f9, f10, f11, f12, -, -, hσ⟩ := hJ
    obtain ⟨e0, e1, e2, e3, e4, e5, e6, -⟩ := hE'
    obtain ⟨t0, -⟩ := hT'
    intro v hv
    subst hv
    cases v with
    | none => exact hs'.elim
    | some v1 =>
      obtain ⟨⟨i1, rfl, g1⟩, -⟩ := hs'
      exact k5 (x' 4) (x' 5) (x' 6) (x' 7) (x' 8) i1 f0 f1 f2 f3 f4 f6 f7 f8 f9 f10 f11 f12 e0 e1 e2 e3 e4 e5 e6 t0 g1
  · obtain ⟨f0, f1, f2, f3, f4, -, f6, f7, f8, f9, f10, f11, f12, f13, -, -, hσ⟩ := hJ
    obtain ⟨e0, e1, e2, e3, e4, e5, e6, e7, -⟩ := hE'
    obtain ⟨t0, -⟩ := hT'
    intro v hv
    subst hv
    cases v with
    | none => exact hs'.elim
    | some v1 =>
      obtain ⟨⟨i1, rfl, g1⟩, -⟩ := hs'
      exact k6 (x' 4) (x' 5) (x' 6) (x' 7) (x' 8) i1 f0 f1 f2 f3 f4 f6 f7 f8 f9 f10 f11 f12 f13 e0 e1 e2 e3 e4 e5 e6 e7 t0 g1
  · obtain ⟨f0, f1, f2, f3, f4, -, f6, f7, f8, f9, f10, f11, f12, f13, f14, -, -, hσ⟩ := hJ
    obtain ⟨e0, e1, e2, e3, e4, e5, e6, e7, -⟩ := hE'
    obtain ⟨t0, -⟩ := hT'
    intro v hv
    subst hv
    cases v with
    | none => exact hs'.elim
    | some v1 =>
      obtain ⟨⟨i1, rfl, g1⟩, -⟩ := hs'
      exact k7 (x' 4) (x' 5) (x' 6) (x' 7) (x' 8) i1 f0 f1 f2 f3 f4 f6 f7 f8 f9 f10 f11 f12 f13 f14 e0 e1 e2 e3 e4 e5 e6 e7 t0 g1
  · obtain ⟨f0, f1, f2, f3, f4, -, f6, f7, f8, f9, f10, f11, f12, f13, f14, -, f16, f17, -, hσ⟩ := hJ
    obtain ⟨e0, e1, e2, e3, e4, e5, e6, e7, e8, e9, -⟩ := hE'
    obtain ⟨t0, t1, -⟩ := hT'
    obtain ⟨p0, p1, p2, p3, p4, p5, p6, -⟩ := hL'
    obtain rfl := sg_tn hs'
    exact k8 (x' 4) (x' 5) (x' 6) (x' 7) (x' 8) (x' 9) (x' 10) L' f0 f1 f2 f3 f4 f6 f7 f8 f9 f10 f11 f12 f13 f14 f16 f17 e0 e1 e2 e3 e4 e5 e6 e7 e8 e9 t0 t1 p0 p1 p2 p3 p4 p5 p6
  · obtain ⟨f0, f1, f2, f3, f4, -, f6, f7, f8, f9, f10, f11, f12, f13, f14, -, f16, f17, -, hσ⟩ := hJ
    obtain ⟨e0, e1, e2, e3, e4, e5, e6, e7, e8, e9, -⟩ := hE'
    obtain ⟨t0, t1, -⟩ := hT'
    intro v hv
    subst hv
    cases v with
    | none => exact hs'.elim
    | some v1 =>
      obtain ⟨⟨i1, rfl, g1⟩, -⟩ := hs'
      exact k9 (x' 4) (x' 5) (x' 6) (x' 7) (x' 8) (x' 9) (x' 10) i1 f0 f1 f2 f3 f4 f6 f7 f8 f9 f10 f11 f12 f13 f14 f16 f17 e0 e1 e2 e3 e4 e5 e6 e7 e8 e9 t0 t1 g1
def sg_sc_x11_Z : List sg_z := [(89, [(0, .inr (.inl [0])), (1, .inl (false, (0, .ofNat 0, .ofNat 1))), (3, .inl (false, (2, .ofNat 1, .ofNat 0))), (4, .inl (false, (3, .ofNat 1, .ofNat 0))), (6, .inl (false, (0, .ofNat 0, .ofNat 0))), (7, .inr (.inl [117])), (8, .inl (false, (0, .ofNat 0, .ofNat 0)))], [], [(2, 0, (4, .ofNat 1, .ofNat 0), (0, .ofNat 0, .ofNat 0), (0, .ofNat 0, .ofNat 0))], [(1, [(.ofNat 1, .ofNat 1)]), (3, [(.ofNat 0, .ofNat 16)]), (4, [(.ofNat 0, .ofNat 0)])], [], []),
  (0, [], [.inl (false, (4, .ofNat 1, .ofNat 0))], [(2, 1, (4, .ofNat 1, .ofNat 0), (0, .ofNat 0, .ofNat 0), (0, .ofNat 0, .ofNat 0))], [(1, [(.ofNat 1, .ofNat 1)]), (3, [(.ofNat 0, .ofNat 16)]), (4, [(.negSucc 2147483647, .negSucc 0), (.ofNat 1, .ofNat 2147483647)])], [], [])]
set_option maxRecDepth 1000000 in
theorem sg_sc_x11_g : sg_go [] [88] 3000 140 64 0 5 [(0, [(.ofNat 0, .ofNat 0)]), (1, [(.ofNat 1, .ofNat 1)]), (2, [(.negSucc 2147483647, .ofNat 2147483647)]), (3, [(.ofNat 0, .ofNat 16)]), (4, [(.negSucc 2147483647, .ofNat 2147483647)])] [] [] [] [(0, .inr (.inl [0])), (1, .inl (false, (1, .ofNat 1, .ofNat 0))), (3, .inl (false, (2, .ofNat 1, .ofNat 0))), (4, .inl (false, (3, .ofNat 1, .ofNat 0)))] [.inl (false, (4, .ofNat 1, .ofNat 0))] [] sg_sc_x11_Z = true := by decide +kernel
theorem sg_sc_x11 {Q : Option Value × am_S → Prop} {d : Nat} {S : am_S} {L : am_L} {x1 x2 x3 x4 : Int} {i1 : Int32} (hd : 0 ≤ d) (hP : ax_P0 none S) (l0 : lc L 0 0) (l1 : li L 1 x1) (l3 : li L 3 x2) (l4 : li L 4 x3) (b1 : (1 ≤ x1 ∧ x1 ≤ 1)) (b2 : ((-2147483648) ≤ x2 ∧ x2 ≤ 2147483647)) (b3 : (0 ≤ x3 ∧ x3 ≤ 16)) (b4 : ((-2147483648) ≤ x4 ∧ x4 ≤ 2147483647)) (s1 : i1.toInt = x4)
    (k0 : ∀ (L' : am_L), x4 = 0 → (1 ≤ x1 ∧ x1 ≤ 1) → (0 ≤ x3 ∧ x3 ≤ 16) → (0 ≤ x4 ∧ x4 ≤ 0) → lc L' 0 0 → li L' 1 1 → li L' 3 x2 → li L' 4 x3 → li L' 6 0 → lc L' 7 117 → li L' 8 0 → am_V none d 140 88 L' ([]) S Q)
    (k1 : ∀ (i1 : Int32), x4 ≠ 0 → (1 ≤ x1 ∧ x1 ≤ 1) → (0 ≤ x3 ∧ x3 ≤ 16) → ((-2147483648) ≤ x4 ∧ x4 ≤ (-1)) ∨ (1 ≤ x4 ∧ x4 ≤ 2147483647) → i1.toInt = x4 → Q (some (.int i1), S)) : am_V none d 140 64 L ((.int i1) :: []) S Q := by
  refine sg_use sg_sc_x11_g hd hP (sg_xs [0, x1, x2, x3, x4]) ⟨⟨Int.le_refl 0, Int.le_refl 0⟩, b1, b2, b3, b4, trivial⟩ trivial trivial trivial ⟨l0, l1, l3, l4, trivial⟩ ⟨⟨_, rfl, s1⟩, trivial⟩ ?_
  intro z hz x' L' st' S' hx hP' hW hL' hs' hJ hE' hT' hD'
  have q1 : x' 1 = x1 := hx 1 (by decide)
  subst q1
  have q2 : x' 2 = x2 := hx 2 (by decide)
  subst q2
  have q3 : x' 3 = x3 := hx 3 (by decide)
  subst q3
  have q4 : x' 4 = x4 := hx 4 (by decide)
  subst q4
  have eS : S' = S := hW.1 rfl
  subst eS
  simp only [sg_sc_x11_Z, List.mem_cons, List.not_mem_nil, or_false] at hz
  rcases hz with rfl | rfl
  · obtain ⟨f0, hσ⟩ := hJ
    obtain ⟨e0, e1, e2, -⟩ := hE'
    obtain ⟨p0, p1, p2, p3, p4, p5, p6, -⟩ := hL'
    obtain rfl := sg_tn hs'
    exact k0 L' f0 e0 e1 e2 p0 p1 p2 p3 p4 p5 p6
  · obtain ⟨f0, hσ⟩ := hJ
    obtain ⟨e0, e1, e2, -⟩ := hE'
    intro v hv
    subst hv
    cases v with
    | none => exact hs'.elim
    | some v1 =>
      obtain ⟨⟨i1, rfl, g1⟩, -⟩ := hs'
      exact k1 i1 f0 e0 e1 e2 g1
def sg_sc_x21_Z : List sg_z := [(0, [], [.inl (false, (4, .ofNat 1, .ofNat 0))], [(0, 6, (0, .ofNat 0, .ofNat 0), (4, .ofNat 1, .ofNat 0), (0, .ofNat 0, .ofNat 0)), (2, 3, (3, .ofNat 1, .ofNat 0), (2, .ofNat 1, .ofNat 0), (0, .ofNat 0, .ofNat 0))], [(1, [(.ofNat 0, .ofNat 57)]), (2, [(.ofNat 0, .ofNat 16)]), (3, [(.ofNat 0, .ofNat 16)]), (4, [(.ofNat 0, .ofNat 15)]), (5, [(.ofNat 0, .ofNat 57)]), (6, [(.ofNat 1, .ofNat 1000000)]), (7, [(.ofNat 0, .ofNat 1000)]), (8, [(.ofNat 0, .ofNat 999)])], [], []),
  (89, [(0, .inr (.inl [0])), (3, .inl (false, (1, .ofNat 1, .ofNat 0))), (4, .inl (false, (2, .ofNat 1, .ofNat 0))), (7, .inr (.inl [117])), (8, .inl (false, (3, .ofNat 1, .ofNat 1))), (9, .inl (false, (5, .ofNat 1, .ofNat 0)))], [], [(0, 6, (0, .ofNat 0, .ofNat 0), (4, .ofNat 1, .ofNat 1), (0, .ofNat 0, .ofNat 0)), (1, 6, (0, .ofNat 0, .ofNat 0), (4, .ofNat 1, .ofNat 1), (0, .ofNat 0, .ofNat 0)), (0, 6, (0, .ofNat 0, .ofNat 0), (4, .ofNat 1, .ofNat 0), (0, .ofNat 0, .ofNat 0)), (1, 12, (4, .ofNat 1, .ofNat 0), (0, .ofNat 0, .negSucc 3), (0, .ofNat 0, .ofNat 0)), (1, 11, (4, .ofNat 1, .ofNat 0), (0, .ofNat 0, .negSucc 3), (0, .ofNat 0, .ofNat 0)), (0, 6, (0, .ofNat 0, .ofNat 0), (4, .ofNat 1, .ofNat 0), (0, .ofNat 0, .ofNat 0)), (1, 10, (4, .ofNat 1, .ofNat 0), (0, .ofNat 0, .ofNat 0), (0, .ofNat 0, .ofNat 0)), (0, 6, (0, .ofNat 0, .ofNat 0), (4, .ofNat 1, .ofNat 0), (0, .ofNat 0, .ofNat 0)), (1, 9, (4, .ofNat 1, .ofNat 0), (8, .ofNat 1, .ofNat 0), (0, .ofNat 0, .ofNat 0)), (0, 6, (0, .ofNat 0, .ofNat 0), (4, .ofNat 1, .ofNat 0), (0, .ofNat 0, .ofNat 0)), (1, 8, (4, .ofNat 1, .ofNat 0), (7, .ofNat 1, .ofNat 0), (0, .ofNat 0, .ofNat 0)), (0, 6, (0, .ofNat 0, .ofNat 0), (4, .ofNat 1, .ofNat 0), (0, .ofNat 0, .ofNat 0)), (1, 7, (4, .ofNat 1, .ofNat 0), (6, .ofNat 1, .ofNat 0), (0, .ofNat 0, .ofNat 0)), (0, 6, (0, .ofNat 0, .ofNat 0), (4, .ofNat 1, .ofNat 0), (0, .ofNat 0, .ofNat 0)), (0, 117, (5, .ofNat 1, .ofNat 2), (8, .ofNat 1, .ofNat 0), (0, .ofNat 0, .ofNat 0)), (0, 117, (5, .ofNat 1, .ofNat 1), (7, .ofNat 1, .ofNat 0), (0, .ofNat 0, .ofNat 0)), (0, 117, (5, .ofNat 1, .ofNat 0), (6, .ofNat 1, .ofNat 0), (0, .ofNat 0, .ofNat 0)), (2, 2, (3, .ofNat 1, .ofNat 0), (2, .ofNat 1, .ofNat 0), (0, .ofNat 0, .ofNat 0))], [(1, [(.ofNat 0, .ofNat 57)]), (2, [(.ofNat 1, .ofNat 16)]), (3, [(.ofNat 0, .ofNat 15)]), (4, [(.ofNat 0, .ofNat 15)]), (5, [(.ofNat 0, .ofNat 57)]), (6, [(.ofNat 1, .ofNat 1000000)]), (7, [(.ofNat 0, .ofNat 1000)]), (8, [(.ofNat 0, .ofNat 999)])], [((1, .ofNat 1, .ofNat 0), (3, .ofNat 3, .ofNat 0), (5, .ofNat 1, .ofNat 0))], [])]
set_option maxRecDepth 1000000 in
theorem sg_sc_x21_g : sg_go [] [88] 3000 140 88 2 9 [(0, [(.ofNat 0, .ofNat 0)]), (1, [(.ofNat 0, .ofNat 57)]), (2, [(.ofNat 0, .ofNat 16)]), (3, [(.ofNat 0, .ofNat 16)]), (4, [(.ofNat 0, .ofNat 15)]), (5, [(.ofNat 0, .ofNat 57)]), (6, [(.ofNat 1, .ofNat 1000000)]), (7, [(.ofNat 0, .ofNat 1000)]), (8, [(.ofNat 0, .ofNat 999)])] [(6, (0, .ofNat 0, .ofNat 0), (4, .ofNat 1, .ofNat 0)), (117, (5, .ofNat 1, .ofNat 0), (6, .ofNat 1, .ofNat 0)), (117, (5, .ofNat 1, .ofNat 1), (7, .ofNat 1, .ofNat 0)), (117, (5, .ofNat 1, .ofNat 2), (8, .ofNat 1, .ofNat 0))] [((1, .ofNat 1, .ofNat 0), (3, .ofNat 3, .ofNat 0), (5, .ofNat 1, .ofNat 0))] [] [(0, .inr (.inl [0])), (3, .inl (false, (1, .ofNat 1, .ofNat 0))), (4, .inl (false, (2, .ofNat 1, .ofNat 0))), (7, .inr (.inl [117])), (8, .inl (false, (3, .ofNat 1, .ofNat 0)))] [] [(6, some 0), (7, none), (8, none), (9, none), (10, none), (11, none), (12, none)] sg_sc_x21_Z = true := by decide +kernel
theorem sg_sc_x21 {Q : Option Value × am_S → Prop} {d : Nat} {S : am_S} {L : am_L} {x1 x2 x3 x4 x5 x6 x7 x8 : Int} (hd : 2 ≤ d) (hP : ax_P0 none S) (l0 : lc L 0 0) (l3 : li L 3 x1) (l4 : li L 4 x2) (l7 : lc L 7 117) (l8 : li L 8 x3) (b1 : (0 ≤ x1 ∧ x1 ≤ 57)) (b2 : (0 ≤ x2 ∧ x2 ≤ 16)) (b3 : (0 ≤ x3 ∧ x3 ≤ 16)) (b4 : (0 ≤ x4 ∧ x4 ≤ 15)) (b5 : (0 ≤ x5 ∧ x5 ≤ 57)) (b6 : (1 ≤ x6 ∧ x6 ≤ 1000000)) (b7 : (0 ≤ x7 ∧ x7 ≤ 1000)) (b8 : (0 ≤ x8 ∧ x8 ≤ 999)) (m6_0 : rd S 6 0 = x4) (n0 : ax_rd S 117 x5 = some x6) (n1 : ax_rd S 117 (x5 + 1) = some x7) (n2 : ax_rd S 117 (x5 + 2) = some x8) (t0 : x1 + (3 * x3 + 0) = x5)
    (k0 : ∀ (S' : am_S) (i1 : Int32), ax_P0 none S' → rd S' = rd S → x2 ≤ x3 → rd S 6 0 = x4 → (0 ≤ x1 ∧ x1 ≤ 57) → (0 ≤ x2 ∧ x2 ≤ 16) → (0 ≤ x3 ∧ x3 ≤ 16) → (0 ≤ x4 ∧ x4 ≤ 15) → (0 ≤ x5 ∧ x5 ≤ 57) → (1 ≤ x6 ∧ x6 ≤ 1000000) → (0 ≤ x7 ∧ x7 ≤ 1000) → (0 ≤ x8 ∧ x8 ≤ 999) → i1.toInt = x4 → Q (some (.int i1), S'))
    (k1 : ∀ (L' : am_L) (S' : am_S), ax_P0 none S' → rd S' = sg_up (sg_up (sg_up (sg_up (sg_up (sg_up (sg_up (rd S) 7 x4 x6) 8 x4 x7) 9 x4 x8) 10 x4 0) 11 x4 (-4)) 12 x4 (-4)) 6 0 (x4 + 1) → x3 < x2 → rd S 117 x5 = x6 → rd S 117 (x5 + 1) = x7 → rd S 117 (x5 + 2) = x8 → rd S 6 0 = x4 → (0 ≤ x1 ∧ x1 ≤ 57) → (1 ≤ x2 ∧ x2 ≤ 16) → (0 ≤ x3 ∧ x3 ≤ 15) → (0 ≤ x4 ∧ x4 ≤ 15) → (0 ≤ x5 ∧ x5 ≤ 57) → (1 ≤ x6 ∧ x6 ≤ 1000000) → (0 ≤ x7 ∧ x7 ≤ 1000) → (0 ≤ x8 ∧ x8 ≤ 999) → x1 + (3 * x3 + 0) = x5 → lc L' 0 0 → li L' 3 x1 → li L' 4 x2 → lc L' 7 117 → li L' 8 (x3 + 1) → li L' 9 x5 → am_V none d 140 88 L' ([]) S' Q) : am_V none d 140 88 L ([]) S Q := by
  refine sg_use sg_sc_x21_g hd hP (sg_xs [0, x1, x2, x3, x4, x5, x6, x7, x8]) ⟨⟨Int.le_refl 0, Int.le_refl 0⟩, b1, b2, b3, b4, b5, b6, b7, b8, trivial⟩ ⟨sg_fs hP rfl m6_0, n0, n1, n2, trivial⟩ ⟨t0, trivial⟩ trivial ⟨l0, l3, l4, l7, l8, trivial⟩ trivial ?_
  intro z hz x' L' st' S' hx hP' hW hL' hs' hJ hE' hT' hD'
  have q1 : x' 1 = x1 := hx 1 (by decide)
  subst q1
  have q2 : x' 2 = x2 := hx 2 (by decide)
  subst q2
  have q3 : x' 3 = x3 := hx 3 (by decide)
  subst q3
  have q4 : x' 4 = x4 := hx 4 (by decide)
  subst q4
  have q5 : x' 5 = x5 := hx 5 (by decide)
  subst q5
  have q6 : x' 6 = x6 := hx 6 (by decide)
  subst q6
  have q7 : x' 7 = x7 := hx 7 (by decide)
  subst q7
  have q8 : x' 8 = x8 := hx 8 (by decide)
  subst q8
  simp only [sg_sc_x21_Z, List.mem_cons, List.not_mem_nil, or_false] at hz
  rcases hz with rfl | rfl
  · obtain ⟨f0, f1, hσ⟩ := hJ
    obtain ⟨e0, e1, e2, e3, e4, e5, e6, e7, -⟩ := hE'
    intro v hv
    subst hv
    cases v with
    | none => exact hs'.elim
    | some v1 =>
      obtain ⟨⟨i1, rfl, g1⟩, -⟩ := hs'
      exact k0 S' i1 hP' hσ f0 f1 e0 e1 e2 e3 e4 e5 e6 e7 g1
  · obtain ⟨f0, f1, f2, f3, f4, -, -, -, -, -, -, hσ⟩ := hJ
    obtain ⟨e0, e1, e2, e3, e4, e5, e6, e7, -⟩ := hE'
    obtain ⟨t0, -⟩ := hT'
    obtain ⟨p0, p1, p2, p3, p4, p5, -⟩ := hL'
    obtain rfl := sg_tn hs'
    exact k1 L' S' hP' hσ f0 f1 f2 f3 f4 e0 e1 e2 e3 e4 e5 e6 e7 t0 p0 p1 p2 p3 p4 p5
def sg_rn_x2_Z : List sg_z := [(16, [(0, .inr (.inl [118])), (1, .inl (false, (1, .ofNat 1, .ofNat 0))), (2, .inl (false, (2, .ofNat 1, .ofNat 0)))], [.inl (false, (0, .ofNat 0, .ofNat 0)), .inr (.inl [119])], [(1, 118, (0, .ofNat 0, .ofNat 0), (2, .ofNat 1, .ofNat 0), (0, .ofNat 0, .ofNat 0)), (1, 118, (0, .ofNat 0, .ofNat 2), (1, .ofNat 1, .ofNat 0), (0, .ofNat 0, .ofNat 0))], [(1, [(.ofNat 0, .ofNat 2)]), (2, [(.ofNat 0, .ofNat 60)])], [], [])]
set_option maxRecDepth 1000000 in
theorem sg_rn_x2_g : sg_go [] [15] 3000 61 0 0 3 [(0, [(.ofNat 0, .ofNat 0)]), (1, [(.ofNat 0, .ofNat 2)]), (2, [(.ofNat 0, .ofNat 60)])] [] [] [] [(0, .inr (.inl [118])), (1, .inl (false, (1, .ofNat 1, .ofNat 0))), (2, .inl (false, (2, .ofNat 1, .ofNat 0)))] [] [(118, some 0), (118, some 2)] sg_rn_x2_Z = true := by decide +kernel
theorem sg_rn_x2 {Q : Option Value × am_S → Prop} {d : Nat} {S : am_S} {L : am_L} {x1 x2 : Int} (hd : 0 ≤ d) (hP : ax_P0 none S) (l0 : lc L 0 118) (l1 : li L 1 x1) (l2 : li L 2 x2) (b1 : (0 ≤ x1 ∧ x1 ≤ 2)) (b2 : (0 ≤ x2 ∧ x2 ≤ 60))
    (k0 : ∀ (L' : am_L) (S' : am_S) (i1 : Int32), ax_P0 none S' → rd S' = sg_up (sg_up (rd S) 118 2 x1) 118 0 x2 → (0 ≤ x1 ∧ x1 ≤ 2) → (0 ≤ x2 ∧ x2 ≤ 60) → lc L' 0 118 → li L' 1 x1 → li L' 2 x2 → i1.toInt = 0 → am_V none d 61 15 L' ((.int i1) :: (.ref 119) :: []) S' Q) : am_V none d 61 0 L ([]) S Q := by
  refine sg_use sg_rn_x2_g hd hP (sg_xs [0, x1, x2]) ⟨⟨Int.le_refl 0, Int.le_refl 0⟩, b1, b2, trivial⟩ trivial trivial trivial ⟨l0, l1, l2, trivial⟩ trivial ?_
  intro z hz x' L' st' S' hx hP' hW hL' hs' hJ hE' hT' hD'
  have q1 : x' 1 = x1 := hx 1 (by decide)
  subst q1
  have q2 : x' 2 = x2 := hx 2 (by decide)
  subst q2
  simp only [sg_rn_x2_Z, List.mem_cons, List.not_mem_nil, or_false] at hz
  rcases hz with rfl
  · have hσ := hJ
    obtain ⟨e0, e1, -⟩ := hE'
    obtain ⟨p0, p1, p2, -⟩ := hL'
    obtain ⟨v1, r1, rfl, ⟨i1, rfl, g1⟩, hs1⟩ := sg_tc hs'
    obtain ⟨v2, r2, rfl, rfl, hs2⟩ := sg_tc hs1
    obtain rfl := sg_tn hs2
    exact k0 L' S' i1 hP' hσ e0 e1 p0 p1 p2 g1
def sg_fl_x2a_Z : List sg_z := [(6, [(0, .inr (.inl [119])), (1, .inl (false, (0, .ofNat 0, .ofNat 0))), (2, .inl (false, (0, .ofNat 0, .ofNat 0))), (3, .inl (false, (0, .ofNat 0, .ofNat 60)))], [], [], [(1, [(.ofNat 0, .ofNat 0)])], [], [])]
set_option maxRecDepth 1000000 in
theorem sg_fl_x2a_g : sg_go [] [5] 3000 261 0 0 2 [(0, [(.ofNat 0, .ofNat 0)]), (1, [(.ofNat 0, .ofNat 0)])] [] [] [] [(0, .inr (.inl [119])), (1, .inl (false, (1, .ofNat 1, .ofNat 0)))] [] [] sg_fl_x2a_Z = true := by decide +kernel
theorem sg_fl_x2a {Q : Option Value × am_S → Prop} {d : Nat} {S : am_S} {L : am_L} {x1 : Int} (hd : 0 ≤ d) (hP : ax_P0 none S) (l0 : lc L 0 119) (l1 : li L 1 x1) (b1 : (0 ≤ x1 ∧ x1 ≤ 0))
    (k0 : ∀ (L' : am_L), (0 ≤ x1 ∧ x1 ≤ 0) → lc L' 0 119 → li L' 1 0 → li L' 2 0 → li L' 3 60 → am_V none d 261 5 L' ([]) S Q) : am_V none d 261 0 L ([]) S Q := by
  refine sg_use sg_fl_x2a_g hd hP (sg_xs [0, x1]) ⟨⟨Int.le_refl 0, Int.le_refl 0⟩, b1, trivial⟩ trivial trivial trivial ⟨l0, l1, trivial⟩ trivial ?_
  intro z hz x' L' st' S' hx hP' hW hL' hs' hJ hE' hT' hD'
  have q1 : x' 1 = x1 := hx 1 (by decide)
  subst q1
  have eS : S' = S := hW.1 rfl
  subst eS
  simp only [sg_fl_x2a_Z, List.mem_cons, List.not_mem_nil, or_false] at hz
  rcases hz with rfl
  · have hσ := hJ
    obtain ⟨e0, -⟩ := hE'
    obtain ⟨p0, p1, p2, p3, -⟩ := hL'
    obtain rfl := sg_tn hs'
    exact k0 L' e0 p0 p1 p2 p3
def sg_fl_x2b_Z : List sg_z := [(0, [], [], [(2, 3, (2, .ofNat 1, .ofNat 0), (0, .ofNat 0, .ofNat 60), (0, .ofNat 0, .ofNat 0))], [(1, [(.ofNat 0, .ofNat 0)]), (2, [(.ofNat 60, .ofNat 60)]), (3, [(.ofNat 60, .ofNat 60)])], [], []),
  (6, [(0, .inr (.inl [119])), (1, .inl (false, (0, .ofNat 0, .ofNat 0))), (2, .inl (false, (2, .ofNat 1, .ofNat 1))), (3, .inl (false, (0, .ofNat 0, .ofNat 60)))], [], [(1, 119, (2, .ofNat 1, .ofNat 0), (0, .ofNat 0, .ofNat 0), (0, .ofNat 0, .ofNat 0)), (2, 2, (2, .ofNat 1, .ofNat 0), (0, .ofNat 0, .ofNat 60), (0, .ofNat 0, .ofNat 0))], [(1, [(.ofNat 0, .ofNat 0)]), (2, [(.ofNat 0, .ofNat 59)]), (3, [(.ofNat 60, .ofNat 60)])], [], [])]
set_option maxRecDepth 1000000 in
theorem sg_fl_x2b_g : sg_go [] [5] 3000 261 5 0 4 [(0, [(.ofNat 0, .ofNat 0)]), (1, [(.ofNat 0, .ofNat 0)]), (2, [(.ofNat 0, .ofNat 60)]), (3, [(.ofNat 60, .ofNat 60)])] [] [] [] [(0, .inr (.inl [119])), (1, .inl (false, (1, .ofNat 1, .ofNat 0))), (2, .inl (false, (2, .ofNat 1, .ofNat 0))), (3, .inl (false, (3, .ofNat 1, .ofNat 0)))] [] [(119, none)] sg_fl_x2b_Z = true := by decide +kernel
theorem sg_fl_x2b {Q : Option Value × am_S → Prop} {d : Nat} {S : am_S} {L : am_L} {x1 x2 x3 : Int} (hd : 0 ≤ d) (hP : ax_P0 none S) (l0 : lc L 0 119) (l1 : li L 1 x1) (l2 : li L 2 x2) (l3 : li L 3 x3) (b1 : (0 ≤ x1 ∧ x1 ≤ 0)) (b2 : (0 ≤ x2 ∧ x2 ≤ 60)) (b3 : (60 ≤ x3 ∧ x3 ≤ 60))
    (k0 : ∀ (S' : am_S), ax_P0 none S' → rd S' = rd S → 60 ≤ x2 → (0 ≤ x1 ∧ x1 ≤ 0) → (60 ≤ x2 ∧ x2 ≤ 60) → (60 ≤ x3 ∧ x3 ≤ 60) → Q (none, S'))
    (k1 : ∀ (L' : am_L) (S' : am_S), ax_P0 none S' → rd S' = sg_up (rd S) 119 x2 0 → x2 < 60 → (0 ≤ x1 ∧ x1 ≤ 0) → (0 ≤ x2 ∧ x2 ≤ 59) → (60 ≤ x3 ∧ x3 ≤ 60) → lc L' 0 119 → li L' 1 0 → li L' 2 (x2 + 1) → li L' 3 60 → am_V none d 261 5 L' ([]) S' Q) : am_V none d 261 5 L ([]) S Q := by
  refine sg_use sg_fl_x2b_g hd hP (sg_xs [0, x1, x2, x3]) ⟨⟨Int.le_refl 0, Int.le_refl 0⟩, b1, b2, b3, trivial⟩ trivial trivial trivial ⟨l0, l1, l2, l3, trivial⟩ trivial ?_
  intro z hz x' L' st' S' hx hP' hW hL' hs' hJ hE' hT' hD'
  have q1 : x' 1 = x1 := hx 1 (by decide)
  subst q1
  have q2 : x' 2 = x2 := hx 2 (by decide)
  subst q2
  have q3 : x' 3 = x3 := hx 3 (by decide)
  subst q3
  simp only [sg_fl_x2b_Z, List.mem_cons, List.not_mem_nil, or_false] at hz
  rcases hz with rfl | rfl
  · obtain ⟨f0, hσ⟩ := hJ
    obtain ⟨e0, e1, e2, -⟩ := hE'
    intro v hv
    subst hv
    cases v with
    | some _ => exact hs'.elim
    | none =>
      exact k0 S' hP' hσ f0 e0 e1 e2
  · obtain ⟨f0, hσ⟩ := hJ
    obtain ⟨e0, e1, e2, -⟩ := hE'
    obtain ⟨p0, p1, p2, p3, -⟩ := hL'
    obtain rfl := sg_tn hs'
    exact k1 L' S' hP' hσ f0 e0 e1 e2 p0 p1 p2 p3
def sg_sr_x2a_Z : List sg_z := [(4, [(0, .inr (.inl [0])), (1, .inr (.inl [118])), (2, .inl (false, (1, .ofNat 1, .ofNat 0))), (3, .inl (false, (2, .ofNat 1, .ofNat 0))), (4, .inl (false, (0, .ofNat 0, .ofNat 0)))], [], [], [(2, [(.ofNat 0, .ofNat 16)])], [], [])]
set_option maxRecDepth 1000000 in
theorem sg_sr_x2a_g : sg_go [] [3] 3000 155 0 0 3 [(0, [(.ofNat 0, .ofNat 0)]), (1, [(.negSucc 2147483647, .ofNat 2147483647)]), (2, [(.ofNat 0, .ofNat 16)])] [] [] [] [(0, .inr (.inl [0])), (1, .inr (.inl [118])), (2, .inl (false, (1, .ofNat 1, .ofNat 0))), (3, .inl (false, (2, .ofNat 1, .ofNat 0)))] [] [] sg_sr_x2a_Z = true := by decide +kernel
theorem sg_sr_x2a {Q : Option Value × am_S → Prop} {d : Nat} {S : am_S} {L : am_L} {x1 x2 : Int} (hd : 0 ≤ d) (hP : ax_P0 none S) (l0 : lc L 0 0) (l1 : lc L 1 118) (l2 : li L 2 x1) (l3 : li L 3 x2) (b1 : ((-2147483648) ≤ x1 ∧ x1 ≤ 2147483647)) (b2 : (0 ≤ x2 ∧ x2 ≤ 16))
    (k0 : ∀ (L' : am_L), (0 ≤ x2 ∧ x2 ≤ 16) → lc L' 0 0 → lc L' 1 118 → li L' 2 x1 → li L' 3 x2 → li L' 4 0 → am_V none d 155 3 L' ([]) S Q) : am_V none d 155 0 L ([]) S Q := by
  refine sg_use sg_sr_x2a_g hd hP (sg_xs [0, x1, x2]) ⟨⟨Int.le_refl 0, Int.le_refl 0⟩, b1, b2, trivial⟩ trivial trivial trivial ⟨l0, l1, l2, l3, trivial⟩ trivial ?_
  intro z hz x' L' st' S' hx hP' hW hL' hs' hJ hE' hT' hD'
  have q1 : x' 1 = x1 := hx 1 (by decide)
  subst q1
  have q2 : x' 2 = x2 := hx 2 (by decide)
  subst q2
  have eS : S' = S := hW.1 rfl
  subst eS
  simp only [sg_sr_x2a_Z, List.mem_cons, List.not_mem_nil, or_false] at hz
  rcases hz with rfl
  · have hσ := hJ
    obtain ⟨e0, -⟩ := hE'
    obtain ⟨p0, p1, p2, p3, p4, -⟩ := hL'
    obtain rfl := sg_tn hs'
    exact k0 L' e0 p0 p1 p2 p3 p4
def sg_sr_x2b_Z : List sg_z := [(0, [], [.inl (false, (0, .ofNat 0, .ofNat 0))], [(2, 3, (0, .ofNat 0, .ofNat 0), (2, .ofNat 1, .ofNat 0), (0, .ofNat 0, .ofNat 0))], [(1, [(.negSucc 2147483647, .negSucc 0), (.ofNat 58, .ofNat 2147483647)]), (2, [(.ofNat 0, .ofNat 0)]), (3, [(.ofNat 0, .ofNat 0)])], [], []),
  (0, [], [.inl (false, (0, .ofNat 0, .negSucc 11))], [(2, 2, (1, .ofNat 1, .ofNat 0), (0, .ofNat 0, .ofNat 0), (0, .ofNat 0, .ofNat 0)), (2, 2, (0, .ofNat 0, .ofNat 0), (2, .ofNat 1, .ofNat 0), (0, .ofNat 0, .ofNat 0))], [(1, [(.negSucc 2147483647, .negSucc 0)]), (2, [(.ofNat 1, .ofNat 16)]), (3, [(.ofNat 0, .ofNat 0)])], [], []),
  (0, [], [.inl (false, (0, .ofNat 0, .negSucc 11))], [(2, 0, (0, .ofNat 0, .ofNat 0), (0, .ofNat 0, .ofNat 0), (0, .ofNat 0, .ofNat 0)), (2, 4, (1, .ofNat 1, .ofNat 0), (4, .ofNat 1, .negSucc 2), (0, .ofNat 0, .ofNat 0)), (0, 118, (0, .ofNat 0, .ofNat 0), (4, .ofNat 1, .ofNat 0), (0, .ofNat 0, .ofNat 0)), (2, 3, (1, .ofNat 1, .ofNat 0), (0, .ofNat 0, .ofNat 0), (0, .ofNat 0, .ofNat 0)), (2, 3, (1, .ofNat 1, .ofNat 0), (0, .ofNat 0, .ofNat 0), (0, .ofNat 0, .ofNat 0)), (2, 2, (0, .ofNat 0, .ofNat 0), (2, .ofNat 1, .ofNat 0), (0, .ofNat 0, .ofNat 0))], [(1, [(.ofNat 58, .ofNat 2147483647)]), (2, [(.ofNat 1, .ofNat 16)]), (3, [(.ofNat 0, .ofNat 0)]), (4, [(.ofNat 0, .ofNat 60)])], [], [])]
set_option maxRecDepth 1000000 in
theorem sg_sr_x2b_g : sg_go [] [3] 3000 155 3 1 4 [(0, [(.ofNat 0, .ofNat 0)]), (1, [(.negSucc 2147483647, .negSucc 0), (.ofNat 58, .ofNat 2147483647)]), (2, [(.ofNat 0, .ofNat 16)]), (3, [(.ofNat 0, .ofNat 0)])] [] [] [] [(0, .inr (.inl [0])), (1, .inr (.inl [118])), (2, .inl (false, (1, .ofNat 1, .ofNat 0))), (3, .inl (false, (2, .ofNat 1, .ofNat 0))), (4, .inl (false, (3, .ofNat 1, .ofNat 0)))] [] [] sg_sr_x2b_Z = true := by decide +kernel
theorem sg_sr_x2b {Q : Option Value × am_S → Prop} {d : Nat} {S : am_S} {L : am_L} {x1 x2 x3 : Int} (hd : 1 ≤ d) (hP : ax_P0 none S) (l0 : lc L 0 0) (l1 : lc L 1 118) (l2 : li L 2 x1) (l3 : li L 3 x2) (l4 : li L 4 x3) (b1 : ((-2147483648) ≤ x1 ∧ x1 ≤ (-1)) ∨ (58 ≤ x1 ∧ x1 ≤ 2147483647)) (b2 : (0 ≤ x2 ∧ x2 ≤ 16)) (b3 : (0 ≤ x3 ∧ x3 ≤ 0))
    (k0 : ∀ (i1 : Int32), x2 ≤ 0 → ((-2147483648) ≤ x1 ∧ x1 ≤ (-1)) ∨ (58 ≤ x1 ∧ x1 ≤ 2147483647) → (0 ≤ x2 ∧ x2 ≤ 0) → (0 ≤ x3 ∧ x3 ≤ 0) → i1.toInt = 0 → Q (some (.int i1), S))
    (k1 : ∀ (i1 : Int32), 0 < x2 → x1 < 0 → ((-2147483648) ≤ x1 ∧ x1 ≤ (-1)) → (1 ≤ x2 ∧ x2 ≤ 16) → (0 ≤ x3 ∧ x3 ≤ 0) → i1.toInt = (-12) → Q (some (.int i1), S))
    (k2 : ∀ (x4 : Int) (i1 : Int32), 0 < x2 → 0 ≤ x1 → 0 ≤ x1 → rd S 118 0 = x4 → x4 + (-3) < x1 → (58 ≤ x1 ∧ x1 ≤ 2147483647) → (1 ≤ x2 ∧ x2 ≤ 16) → (0 ≤ x3 ∧ x3 ≤ 0) → (0 ≤ x4 ∧ x4 ≤ 60) → i1.toInt = (-12) → Q (some (.int i1), S)) : am_V none d 155 3 L ([]) S Q := by
  refine sg_use sg_sr_x2b_g hd hP (sg_xs [0, x1, x2, x3]) ⟨⟨Int.le_refl 0, Int.le_refl 0⟩, b1, b2, b3, trivial⟩ trivial trivial trivial ⟨l0, l1, l2, l3, l4, trivial⟩ trivial ?_
  intro z hz x' L' st' S' hx hP' hW hL' hs' hJ hE' hT' hD'
  have q1 : x' 1 = x1 := hx 1 (by decide)
  subst q1
  have q2 : x' 2 = x2 := hx 2 (by decide)
  subst q2
  have q3 : x' 3 = x3 := hx 3 (by decide)
  subst q3
  have eS : S' = S := hW.1 rfl
  subst eS
  simp only [sg_sr_x2b_Z, List.mem_cons, List.not_mem_nil, or_false] at hz
  rcases hz with rfl | rfl | rfl
  · obtain ⟨f0, hσ⟩ := hJ
    obtain ⟨e0, e1, e2, -⟩ := hE'
    intro v hv
    subst hv
    cases v with
    | none => exact hs'.elim
    | some v1 =>
      obtain ⟨⟨i1, rfl, g1⟩, -⟩ := hs'
      exact k0 i1 f0 e0 e1 e2 g1
  · obtain ⟨f0, f1, hσ⟩ := hJ
    obtain ⟨e0, e1, e2, -⟩ := hE'
    intro v hv
    subst hv
    cases v with
    | none => exact hs'.elim
    | some v1 =>
      obtain ⟨⟨i1, rfl, g1⟩, -⟩ := hs'
      exact k1 i1 f0 f1 e0 e1 e2 g1
  · obtain ⟨f0, f1, f2, f3, f4, -, hσ⟩ := hJ
    obtain ⟨e0, e1, e2, e3, -⟩ := hE'
    intro v hv
    subst hv
    cases v with
    | none => exact hs'.elim
    | some v1 =>
      obtain ⟨⟨i1, rfl, g1⟩, -⟩ := hs'
      exact k2 (x' 4) i1 f0 f1 f2 f3 f4 e0 e1 e2 e3 g1
def sg_sr_x2c_Z : List sg_z := [(0, [], [.inl (false, (0, .ofNat 0, .ofNat 0))], [(2, 3, (3, .ofNat 1, .ofNat 0), (2, .ofNat 1, .ofNat 0), (0, .ofNat 0, .ofNat 0))], [(1, [(.ofNat 0, .ofNat 57)]), (2, [(.ofNat 0, .ofNat 16)]), (3, [(.ofNat 0, .ofNat 16)])], [], []),
  (0, [], [.inl (false, (0, .ofNat 0, .negSucc 11))], [(2, 0, (0, .ofNat 0, .ofNat 0), (0, .ofNat 0, .ofNat 0), (0, .ofNat 0, .ofNat 0)), (2, 4, (4, .ofNat 1, .ofNat 0), (5, .ofNat 1, .negSucc 2), (0, .ofNat 0, .ofNat 0)), (0, 118, (0, .ofNat 0, .ofNat 0), (5, .ofNat 1, .ofNat 0), (0, .ofNat 0, .ofNat 0)), (2, 3, (4, .ofNat 1, .ofNat 0), (0, .ofNat 0, .ofNat 0), (0, .ofNat 0, .ofNat 0)), (2, 3, (1, .ofNat 1, .ofNat 0), (0, .ofNat 0, .ofNat 0), (0, .ofNat 0, .ofNat 0)), (2, 2, (3, .ofNat 1, .ofNat 0), (2, .ofNat 1, .ofNat 0), (0, .ofNat 0, .ofNat 0))], [(1, [(.ofNat 0, .ofNat 57)]), (2, [(.ofNat 1, .ofNat 16)]), (3, [(.ofNat 0, .ofNat 15)]), (4, [(.ofNat 0, .ofNat 102)]), (5, [(.ofNat 0, .ofNat 60)])], [((1, .ofNat 1, .ofNat 0), (3, .ofNat 3, .ofNat 0), (4, .ofNat 1, .ofNat 0))], []),
  (0, [], [.inl (false, (0, .ofNat 0, .negSucc 20))], [(2, 1, (0, .ofNat 0, .negSucc 0), (0, .ofNat 0, .ofNat 0), (0, .ofNat 0, .ofNat 0)), (2, 0, (0, .ofNat 0, .ofNat 0), (0, .ofNat 0, .ofNat 0), (0, .ofNat 0, .ofNat 0)), (2, 2, (6, .ofNat 1, .ofNat 0), (0, .ofNat 0, .ofNat 1), (0, .ofNat 0, .ofNat 0)), (0, 119, (4, .ofNat 1, .ofNat 2), (8, .ofNat 1, .ofNat 0), (0, .ofNat 0, .ofNat 0)), (0, 119, (4, .ofNat 1, .ofNat 1), (7, .ofNat 1, .ofNat 0), (0, .ofNat 0, .ofNat 0)), (0, 119, (4, .ofNat 1, .ofNat 0), (6, .ofNat 1, .ofNat 0), (0, .ofNat 0, .ofNat 0)), (2, 1, (0, .ofNat 0, .ofNat 1), (0, .ofNat 0, .ofNat 0), (0, .ofNat 0, .ofNat 0)), (2, 5, (4, .ofNat 1, .ofNat 0), (5, .ofNat 1, .negSucc 2), (0, .ofNat 0, .ofNat 0)), (0, 118, (0, .ofNat 0, .ofNat 0), (5, .ofNat 1, .ofNat 0), (0, .ofNat 0, .ofNat 0)), (2, 3, (4, .ofNat 1, .ofNat 0), (0, .ofNat 0, .ofNat 0), (0, .ofNat 0, .ofNat 0)), (2, 3, (1, .ofNat 1, .ofNat 0), (0, .ofNat 0, .ofNat 0), (0, .ofNat 0, .ofNat 0)), (2, 2, (3, .ofNat 1, .ofNat 0), (2, .ofNat 1, .ofNat 0), (0, .ofNat 0, .ofNat 0))], [(1, [(.ofNat 0, .ofNat 57)]), (2, [(.ofNat 1, .ofNat 16)]), (3, [(.ofNat 0, .ofNat 15)]), (4, [(.ofNat 0, .ofNat 57)]), (5, [(.ofNat 3, .ofNat 60)]), (6, [(.negSucc 2147483647, .ofNat 0)])], [((1, .ofNat 1, .ofNat 0), (3, .ofNat 3, .ofNat 0), (4, .ofNat 1, .ofNat 0))], []),
  (0, [], [.inl (false, (0, .ofNat 0, .negSucc 20))], [(2, 1, (0, .ofNat 0, .negSucc 0), (0, .ofNat 0, .ofNat 0), (0, .ofNat 0, .ofNat 0)), (2, 0, (0, .ofNat 0, .ofNat 0), (0, .ofNat 0, .ofNat 0), (0, .ofNat 0, .ofNat 0)), (2, 4, (6, .ofNat 1, .ofNat 0), (0, .ofNat 0, .ofNat 1000000), (0, .ofNat 0, .ofNat 0)), (2, 3, (6, .ofNat 1, .ofNat 0), (0, .ofNat 0, .ofNat 1), (0, .ofNat 0, .ofNat 0)), (0, 119, (4, .ofNat 1, .ofNat 2), (8, .ofNat 1, .ofNat 0), (0, .ofNat 0, .ofNat 0)), (0, 119, (4, .ofNat 1, .ofNat 1), (7, .ofNat 1, .ofNat 0), (0, .ofNat 0, .ofNat 0)), (0, 119, (4, .ofNat 1, .ofNat 0), (6, .ofNat 1, .ofNat 0), (0, .ofNat 0, .ofNat 0)), (2, 1, (0, .ofNat 0, .ofNat 1), (0, .ofNat 0, .ofNat 0), (0, .ofNat 0, .ofNat 0)), (2, 5, (4, .ofNat 1, .ofNat 0), (5, .ofNat 1, .negSucc 2), (0, .ofNat 0, .ofNat 0)), (0, 118, (0, .ofNat 0, .ofNat 0), (5, .ofNat 1, .ofNat 0), (0, .ofNat 0, .ofNat 0)), (2, 3, (4, .ofNat 1, .ofNat 0), (0, .ofNat 0, .ofNat 0), (0, .ofNat 0, .ofNat 0)), (2, 3, (1, .ofNat 1, .ofNat 0), (0, .ofNat 0, .ofNat 0), (0, .ofNat 0, .ofNat 0)), (2, 2, (3, .ofNat 1, .ofNat 0), (2, .ofNat 1, .ofNat 0), (0, .ofNat 0, .ofNat 0))], [(1, [(.ofNat 0, .ofNat 57)]), (2, [(.ofNat 1, .ofNat 16)]), (3, [(.ofNat 0, .ofNat 15)]), (4, [(.ofNat 0, .ofNat 57)]), (5, [(.ofNat 3, .ofNat 60)]), (6, [(.ofNat 1000001, .ofNat 2147483647)])], [((1, .ofNat 1, .ofNat 0), (3, .ofNat 3, .ofNat 0), (4, .ofNat 1, .ofNat 0))], []),
  (0, [], [.inl (false, (0, .ofNat 0, .negSucc 20))], [(2, 1, (0, .ofNat 0, .negSucc 0), (0, .ofNat 0, .ofNat 0), (0, .ofNat 0, .ofNat 0)), (2, 0, (0, .ofNat 0, .ofNat 0), (0, .ofNat 0, .ofNat 0), (0, .ofNat 0, .ofNat 0)), (2, 2, (7, .ofNat 1, .ofNat 0), (0, .ofNat 0, .ofNat 0), (0, .ofNat 0, .ofNat 0)), (2, 5, (6, .ofNat 1, .ofNat 0), (0, .ofNat 0, .ofNat 1000000), (0, .ofNat 0, .ofNat 0)), (2, 3, (6, .ofNat 1, .ofNat 0), (0, .ofNat 0, .ofNat 1), (0, .ofNat 0, .ofNat 0)), (0, 119, (4, .ofNat 1, .ofNat 2), (8, .ofNat 1, .ofNat 0), (0, .ofNat 0, .ofNat 0)), (0, 119, (4, .ofNat 1, .ofNat 1), (7, .ofNat 1, .ofNat 0), (0, .ofNat 0, .ofNat 0)), (0, 119, (4, .ofNat 1, .ofNat 0), (6, .ofNat 1, .ofNat 0), (0, .ofNat 0, .ofNat 0)), (2, 1, (0, .ofNat 0, .ofNat 1), (0, .ofNat 0, .ofNat 0), (0, .ofNat 0, .ofNat 0)), (2, 5, (4, .ofNat 1, .ofNat 0), (5, .ofNat 1, .negSucc 2), (0, .ofNat 0, .ofNat 0)), (0, 118, (0, .ofNat 0, .ofNat 0), (5, .ofNat 1, .ofNat 0), (0, .ofNat 0, .ofNat 0)), (2, 3, (4, .ofNat 1, .ofNat 0), (0, .ofNat 0, .ofNat 0), (0, .ofNat 0, .ofNat 0)), (2, 3, (1, .ofNat 1, .ofNat 0), (0, .ofNat 0, .ofNat 0), (0, .ofNat 0, .ofNat 0)), (2, 2, (3, .ofNat 1, .ofNat 0), (2, .ofNat 1, .ofNat 0), (0, .ofNat 0, .ofNat 0))], [(1, [(.ofNat 0, .ofNat 57)]), (2, [(.ofNat 1, .ofNat 16)]), (3, [(.ofNat 0, .ofNat 15)]), (4, [(.ofNat 0, .ofNat 57)]), (5, [(.ofNat 3, .ofNat 60)]), (6, [(.ofNat 1, .ofNat 1000000)]), (7, [(.negSucc 2147483647, .negSucc 0)])], [((1, .ofNat 1, .ofNat 0), (3, .ofNat 3, .ofNat 0), (4, .ofNat 1, .ofNat 0))], []),
  (0, [], [.inl (false, (0, .ofNat 0, .negSucc 20))], [(2, 1, (0, .ofNat 0, .negSucc 0), (0, .ofNat 0, .ofNat 0), (0, .ofNat 0, .ofNat 0)), (2, 0, (0, .ofNat 0, .ofNat 0), (0, .ofNat 0, .ofNat 0), (0, .ofNat 0, .ofNat 0)), (2, 4, (7, .ofNat 1, .ofNat 0), (0, .ofNat 0, .ofNat 1000), (0, .ofNat 0, .ofNat 0)), (2, 3, (7, .ofNat 1, .ofNat 0), (0, .ofNat 0, .ofNat 0), (0, .ofNat 0, .ofNat 0)), (2, 5, (6, .ofNat 1, .ofNat 0), (0, .ofNat 0, .ofNat 1000000), (0, .ofNat 0, .ofNat 0)), (2, 3, (6, .ofNat 1, .ofNat 0), (0, .ofNat 0, .ofNat 1), (0, .ofNat 0, .ofNat 0)), (0, 119, (4, .ofNat 1, .ofNat 2), (8, .ofNat 1, .ofNat 0), (0, .ofNat 0, .ofNat 0)), (0, 119, (4, .ofNat 1, .ofNat 1), (7, .ofNat 1, .ofNat 0), (0, .ofNat 0, .ofNat 0)), (0, 119, (4, .ofNat 1, .ofNat 0), (6, .ofNat 1, .ofNat 0), (0, .ofNat 0, .ofNat 0)), (2, 1, (0, .ofNat 0, .ofNat 1), (0, .ofNat 0, .ofNat 0), (0, .ofNat 0, .ofNat 0)), (2, 5, (4, .ofNat 1, .ofNat 0), (5, .ofNat 1, .negSucc 2), (0, .ofNat 0, .ofNat 0)), (0, 118, (0, .ofNat 0, .ofNat 0), (5, .ofNat 1, .ofNat 0), (0, .ofNat 0, .ofNat 0)), (2, 3, (4, .ofNat 1, .ofNat 0), (0, .ofNat 0, .ofNat 0), (0, .ofNat 0, .ofNat 0)), (2, 3, (1, .ofNat 1, .ofNat 0), (0, .ofNat 0, .ofNat 0), (0, .ofNat 0, .ofNat 0)), (2, 2, (3, .ofNat 1, .ofNat 0), (2, .ofNat 1, .ofNat 0), (0, .ofNat 0, .ofNat 0))], [(1, [(.ofNat 0, .ofNat 57)]), (2, [(.ofNat 1, .ofNat 16)]), (3, [(.ofNat 0, .ofNat 15)]), (4, [(.ofNat 0, .ofNat 57)]), (5, [(.ofNat 3, .ofNat 60)]), (6, [(.ofNat 1, .ofNat 1000000)]), (7, [(.ofNat 1001, .ofNat 2147483647)])], [((1, .ofNat 1, .ofNat 0), (3, .ofNat 3, .ofNat 0), (4, .ofNat 1, .ofNat 0))], []),
  (0, [], [.inl (false, (0, .ofNat 0, .negSucc 20))], [(2, 1, (0, .ofNat 0, .negSucc 0), (0, .ofNat 0, .ofNat 0), (0, .ofNat 0, .ofNat 0)), (2, 0, (0, .ofNat 0, .ofNat 0), (0, .ofNat 0, .ofNat 0), (0, .ofNat 0, .ofNat 0)), (2, 2, (8, .ofNat 1, .ofNat 0), (0, .ofNat 0, .ofNat 0), (0, .ofNat 0, .ofNat 0)), (2, 5, (7, .ofNat 1, .ofNat 0), (0, .ofNat 0, .ofNat 1000), (0, .ofNat 0, .ofNat 0)), (2, 3, (7, .ofNat 1, .ofNat 0), (0, .ofNat 0, .ofNat 0), (0, .ofNat 0, .ofNat 0)), (2, 5, (6, .ofNat 1, .ofNat 0), (0, .ofNat 0, .ofNat 1000000), (0, .ofNat 0, .ofNat 0)), (2, 3, (6, .ofNat 1, .ofNat 0), (0, .ofNat 0, .ofNat 1), (0, .ofNat 0, .ofNat 0)), (0, 119, (4, .ofNat 1, .ofNat 2), (8, .ofNat 1, .ofNat 0), (0, .ofNat 0, .ofNat 0)), (0, 119, (4, .ofNat 1, .ofNat 1), (7, .ofNat 1, .ofNat 0), (0, .ofNat 0, .ofNat 0)), (0, 119, (4, .ofNat 1, .ofNat 0), (6, .ofNat 1, .ofNat 0), (0, .ofNat 0, .ofNat 0)), (2, 1, (0, .ofNat 0, .ofNat 1), (0, .ofNat 0, .ofNat 0), (0, .ofNat 0, .ofNat 0)), (2, 5, (4, .ofNat 1, .ofNat 0), (5, .ofNat 1, .negSucc 2), (0, .ofNat 0, .ofNat 0)), (0, 118, (0, .ofNat 0, .ofNat 0), (5, .ofNat 1, .ofNat 0), (0, .ofNat 0, .ofNat 0)), (2, 3, (4, .ofNat 1, .ofNat 0), (0, .ofNat 0, .ofNat 0), (0, .ofNat 0, .ofNat 0)), (2, 3, (1, .ofNat 1, .ofNat 0), (0, .ofNat 0, .ofNat 0), (0, .ofNat 0, .ofNat 0)), (2, 2, (3, .ofNat 1, .ofNat 0), (2, .ofNat 1, .ofNat 0), (0, .ofNat 0, .ofNat 0))], [(1, [(.ofNat 0, .ofNat 57)]), (2, [(.ofNat 1, .ofNat 16)]), (3, [(.ofNat 0, .ofNat 15)]), (4, [(.ofNat 0, .ofNat 57)]), (5, [(.ofNat 3, .ofNat 60)]), (6, [(.ofNat 1, .ofNat 1000000)]), (7, [(.ofNat 0, .ofNat 1000)]), (8, [(.negSucc 2147483647, .negSucc 0)])], [((1, .ofNat 1, .ofNat 0), (3, .ofNat 3, .ofNat 0), (4, .ofNat 1, .ofNat 0))], []),
  (0, [], [.inl (false, (0, .ofNat 0, .negSucc 20))], [(2, 1, (0, .ofNat 0, .negSucc 0), (0, .ofNat 0, .ofNat 0), (0, .ofNat 0, .ofNat 0)), (2, 0, (0, .ofNat 0, .ofNat 0), (0, .ofNat 0, .ofNat 0), (0, .ofNat 0, .ofNat 0)), (2, 4, (8, .ofNat 1, .ofNat 0), (0, .ofNat 0, .ofNat 999), (0, .ofNat 0, .ofNat 0)), (2, 3, (8, .ofNat 1, .ofNat 0), (0, .ofNat 0, .ofNat 0), (0, .ofNat 0, .ofNat 0)), (2, 5, (7, .ofNat 1, .ofNat 0), (0, .ofNat 0, .ofNat 1000), (0, .ofNat 0, .ofNat 0)), (2, 3, (7, .ofNat 1, .ofNat 0), (0, .ofNat 0, .ofNat 0), (0, .ofNat 0, .ofNat 0)), (2, 5, (6, .ofNat 1, .ofNat 0), (0, .ofNat 0, .ofNat 1000000), (0, .ofNat 0, .ofNat 0)), (2, 3, (6, .ofNat 1, .ofNat 0), (0, .ofNat 0, .ofNat 1), (0, .ofNat 0, .ofNat 0)), (0, 119, (4, .ofNat 1, .ofNat 2), (8, .ofNat 1, .ofNat 0), (0, .ofNat 0, .ofNat 0)), (0, 119, (4, .ofNat 1, .ofNat 1), (7, .ofNat 1, .ofNat 0), (0, .ofNat 0, .ofNat 0)), (0, 119, (4, .ofNat 1, .ofNat 0), (6, .ofNat 1, .ofNat 0), (0, .ofNat 0, .ofNat 0)), (2, 1, (0, .ofNat 0, .ofNat 1), (0, .ofNat 0, .ofNat 0), (0, .ofNat 0, .ofNat 0)), (2, 5, (4, .ofNat 1, .ofNat 0), (5, .ofNat 1, .negSucc 2), (0, .ofNat 0, .ofNat 0)), (0, 118, (0, .ofNat 0, .ofNat 0), (5, .ofNat 1, .ofNat 0), (0, .ofNat 0, .ofNat 0)), (2, 3, (4, .ofNat 1, .ofNat 0), (0, .ofNat 0, .ofNat 0), (0, .ofNat 0, .ofNat 0)), (2, 3, (1, .ofNat 1, .ofNat 0), (0, .ofNat 0, .ofNat 0), (0, .ofNat 0, .ofNat 0)), (2, 2, (3, .ofNat 1, .ofNat 0), (2, .ofNat 1, .ofNat 0), (0, .ofNat 0, .ofNat 0))], [(1, [(.ofNat 0, .ofNat 57)]), (2, [(.ofNat 1, .ofNat 16)]), (3, [(.ofNat 0, .ofNat 15)]), (4, [(.ofNat 0, .ofNat 57)]), (5, [(.ofNat 3, .ofNat 60)]), (6, [(.ofNat 1, .ofNat 1000000)]), (7, [(.ofNat 0, .ofNat 1000)]), (8, [(.ofNat 1000, .ofNat 2147483647)])], [((1, .ofNat 1, .ofNat 0), (3, .ofNat 3, .ofNat 0), (4, .ofNat 1, .ofNat 0))], []),
  (4, [(0, .inr (.inl [0])), (1, .inr (.inl [118])), (2, .inl (false, (1, .ofNat 1, .ofNat 0))), (3, .inl (false, (2, .ofNat 1, .ofNat 0))), (4, .inl (false, (3, .ofNat 1, .ofNat 1))), (5, .inl (false, (4, .ofNat 1, .ofNat 0))), (6, .inl (false, (0, .ofNat 0, .ofNat 0)))], [], [(2, 0, (0, .ofNat 0, .ofNat 0), (0, .ofNat 0, .ofNat 0), (0, .ofNat 0, .ofNat 0)), (2, 2, (10, .ofNat 1, .ofNat 0), (0, .ofNat 0, .ofNat 16), (0, .ofNat 0, .ofNat 0)), (0, 6, (0, .ofNat 0, .ofNat 0), (9, .ofNat 1, .ofNat 0), (0, .ofNat 0, .ofNat 0)), (2, 1, (0, .ofNat 0, .ofNat 1), (0, .ofNat 0, .ofNat 0), (0, .ofNat 0, .ofNat 0)), (2, 5, (8, .ofNat 1, .ofNat 0), (0, .ofNat 0, .ofNat 999), (0, .ofNat 0, .ofNat 0)), (2, 3, (8, .ofNat 1, .ofNat 0), (0, .ofNat 0, .ofNat 0), (0, .ofNat 0, .ofNat 0)), (2, 5, (7, .ofNat 1, .ofNat 0), (0, .ofNat 0, .ofNat 1000), (0, .ofNat 0, .ofNat 0)), (2, 3, (7, .ofNat 1, .ofNat 0), (0, .ofNat 0, .ofNat 0), (0, .ofNat 0, .ofNat 0)), (2, 5, (6, .ofNat 1, .ofNat 0), (0, .ofNat 0, .ofNat 1000000), (0, .ofNat 0, .ofNat 0)), (2, 3, (6, .ofNat 1, .ofNat 0), (0, .ofNat 0, .ofNat 1), (0, .ofNat 0, .ofNat 0)), (0, 119, (4, .ofNat 1, .ofNat 2), (8, .ofNat 1, .ofNat 0), (0, .ofNat 0, .ofNat 0)), (0, 119, (4, .ofNat 1, .ofNat 1), (7, .ofNat 1, .ofNat 0), (0, .ofNat 0, .ofNat 0)), (0, 119, (4, .ofNat 1, .ofNat 0), (6, .ofNat 1, .ofNat 0), (0, .ofNat 0, .ofNat 0)), (2, 1, (0, .ofNat 0, .ofNat 1), (0, .ofNat 0, .ofNat 0), (0, .ofNat 0, .ofNat 0)), (2, 5, (4, .ofNat 1, .ofNat 0), (5, .ofNat 1, .negSucc 2), (0, .ofNat 0, .ofNat 0)), (0, 118, (0, .ofNat 0, .ofNat 0), (5, .ofNat 1, .ofNat 0), (0, .ofNat 0, .ofNat 0)), (2, 3, (4, .ofNat 1, .ofNat 0), (0, .ofNat 0, .ofNat 0), (0, .ofNat 0, .ofNat 0)), (2, 3, (1, .ofNat 1, .ofNat 0), (0, .ofNat 0, .ofNat 0), (0, .ofNat 0, .ofNat 0)), (2, 2, (3, .ofNat 1, .ofNat 0), (2, .ofNat 1, .ofNat 0), (0, .ofNat 0, .ofNat 0))], [(1, [(.ofNat 0, .ofNat 57)]), (2, [(.ofNat 1, .ofNat 16)]), (3, [(.ofNat 0, .ofNat 15)]), (4, [(.ofNat 0, .ofNat 57)]), (5, [(.ofNat 3, .ofNat 60)]), (6, [(.ofNat 1, .ofNat 1000000)]), (7, [(.ofNat 0, .ofNat 1000)]), (8, [(.ofNat 0, .ofNat 999)]), (9, [(.ofNat 0, .ofNat 16)]), (10, [(.ofNat 0, .ofNat 15)])], [((9, .ofNat 1, .ofNat 0), (3, .ofNat 1, .ofNat 0), (10, .ofNat 1, .ofNat 0)), ((1, .ofNat 1, .ofNat 0), (3, .ofNat 3, .ofNat 0), (4, .ofNat 1, .ofNat 0))], []),
  (0, [], [.inl (false, (0, .ofNat 0, .negSucc 22))], [(2, 1, (0, .ofNat 0, .negSucc 2), (0, .ofNat 0, .ofNat 0), (0, .ofNat 0, .ofNat 0)), (2, 3, (10, .ofNat 1, .ofNat 0), (0, .ofNat 0, .ofNat 16), (0, .ofNat 0, .ofNat 0)), (0, 6, (0, .ofNat 0, .ofNat 0), (9, .ofNat 1, .ofNat 0), (0, .ofNat 0, .ofNat 0)), (2, 1, (0, .ofNat 0, .ofNat 1), (0, .ofNat 0, .ofNat 0), (0, .ofNat 0, .ofNat 0)), (2, 5, (8, .ofNat 1, .ofNat 0), (0, .ofNat 0, .ofNat 999), (0, .ofNat 0, .ofNat 0)), (2, 3, (8, .ofNat 1, .ofNat 0), (0, .ofNat 0, .ofNat 0), (0, .ofNat 0, .ofNat 0)), (2, 5, (7, .ofNat 1, .ofNat 0), (0, .ofNat 0, .ofNat 1000), (0, .ofNat 0, .ofNat 0)), (2, 3, (7, .ofNat 1, .ofNat 0), (0, .ofNat 0, .ofNat 0), (0, .ofNat 0, .ofNat 0)), (2, 5, (6, .ofNat 1, .ofNat 0), (0, .ofNat 0, .ofNat 1000000), (0, .ofNat 0, .ofNat 0)), (2, 3, (6, .ofNat 1, .ofNat 0), (0, .ofNat 0, .ofNat 1), (0, .ofNat 0, .ofNat 0)), (0, 119, (4, .ofNat 1, .ofNat 2), (8, .ofNat 1, .ofNat 0), (0, .ofNat 0, .ofNat 0)), (0, 119, (4, .ofNat 1, .ofNat 1), (7, .ofNat 1, .ofNat 0), (0, .ofNat 0, .ofNat 0)), (0, 119, (4, .ofNat 1, .ofNat 0), (6, .ofNat 1, .ofNat 0), (0, .ofNat 0, .ofNat 0)), (2, 1, (0, .ofNat 0, .ofNat 1), (0, .ofNat 0, .ofNat 0), (0, .ofNat 0, .ofNat 0)), (2, 5, (4, .ofNat 1, .ofNat 0), (5, .ofNat 1, .negSucc 2), (0, .ofNat 0, .ofNat 0)), (0, 118, (0, .ofNat 0, .ofNat 0), (5, .ofNat 1, .ofNat 0), (0, .ofNat 0, .ofNat 0)), (2, 3, (4, .ofNat 1, .ofNat 0), (0, .ofNat 0, .ofNat 0), (0, .ofNat 0, .ofNat 0)), (2, 3, (1, .ofNat 1, .ofNat 0), (0, .ofNat 0, .ofNat 0), (0, .ofNat 0, .ofNat 0)), (2, 2, (3, .ofNat 1, .ofNat 0), (2, .ofNat 1, .ofNat 0), (0, .ofNat 0, .ofNat 0))], [(1, [(.ofNat 0, .ofNat 57)]), (2, [(.ofNat 1, .ofNat 16)]), (3, [(.ofNat 0, .ofNat 15)]), (4, [(.ofNat 0, .ofNat 57)]), (5, [(.ofNat 3, .ofNat 60)]), (6, [(.ofNat 1, .ofNat 1000000)]), (7, [(.ofNat 0, .ofNat 1000)]), (8, [(.ofNat 0, .ofNat 999)]), (9, [(.ofNat 0, .ofNat 16)]), (10, [(.ofNat 16, .ofNat 31)])], [((9, .ofNat 1, .ofNat 0), (3, .ofNat 1, .ofNat 0), (10, .ofNat 1, .ofNat 0)), ((1, .ofNat 1, .ofNat 0), (3, .ofNat 3, .ofNat 0), (4, .ofNat 1, .ofNat 0))], [])]
set_option maxRecDepth 1000000 in
theorem sg_sr_x2c_g : sg_go [] [3] 3000 155 3 1 4 [(0, [(.ofNat 0, .ofNat 0)]), (1, [(.ofNat 0, .ofNat 57)]), (2, [(.ofNat 0, .ofNat 16)]), (3, [(.ofNat 0, .ofNat 16)])] [] [] [] [(0, .inr (.inl [0])), (1, .inr (.inl [118])), (2, .inl (false, (1, .ofNat 1, .ofNat 0))), (3, .inl (false, (2, .ofNat 1, .ofNat 0))), (4, .inl (false, (3, .ofNat 1, .ofNat 0)))] [] [] sg_sr_x2c_Z = true := by decide +kernel
theorem sg_sr_x2c {Q : Option Value × am_S → Prop} {d : Nat} {S : am_S} {L : am_L} {x1 x2 x3 : Int} (hd : 1 ≤ d) (hP : ax_P0 none S) (l0 : lc L 0 0) (l1 : lc L 1 118) (l2 : li L 2 x1) (l3 : li L 3 x2) (l4 : li L 4 x3) (b1 : (0 ≤ x1 ∧ x1 ≤ 57)) (b2 : (0 ≤ x2 ∧ x2 ≤ 16)) (b3 : (0 ≤ x3 ∧ x3 ≤ 16))
    (k0 : ∀ (i1 : Int32), x2 ≤ x3 → (0 ≤ x1 ∧ x1 ≤ 57) → (0 ≤ x2 ∧ x2 ≤ 16) → (0 ≤ x3 ∧ x3 ≤ 16) → i1.toInt = 0 → Q (some (.int i1), S))
    (k1 : ∀ (x4 x5 : Int) (i1 : Int32), x3 < x2 → 0 ≤ x1 → 0 ≤ x4 → rd S 118 0 = x5 → x5 + (-3) < x4 → (0 ≤ x1 ∧ x1 ≤ 57) → (1 ≤ x2 ∧ x2 ≤ 16) → (0 ≤ x3 ∧ x3 ≤ 15) → (0 ≤ x4 ∧ x4 ≤ 102) → (0 ≤ x5 ∧ x5 ≤ 60) → x1 + (3 * x3 + 0) = x4 → i1.toInt = (-12) → Q (some (.int i1), S))
    (k2 : ∀ (x4 x5 x6 x7 x8 : Int) (i1 : Int32), x3 < x2 → 0 ≤ x1 → 0 ≤ x4 → rd S 118 0 = x5 → x4 ≤ x5 + (-3) → rd S 119 x4 = x6 → rd S 119 (x4 + 1) = x7 → rd S 119 (x4 + 2) = x8 → x6 < 1 → (0 ≤ x1 ∧ x1 ≤ 57) → (1 ≤ x2 ∧ x2 ≤ 16) → (0 ≤ x3 ∧ x3 ≤ 15) → (0 ≤ x4 ∧ x4 ≤ 57) → (3 ≤ x5 ∧ x5 ≤ 60) → ((-2147483648) ≤ x6 ∧ x6 ≤ 0) → x1 + (3 * x3 + 0) = x4 → i1.toInt = (-21) → Q (some (.int i1), S))
    (k3 : ∀ (x4 x5 x6 x7 x8 : Int) (i1 : Int32), x3 < x2 → 0 ≤ x1 → 0 ≤ x4 → rd S 118 0 = x5 → x4 ≤ x5 + (-3) → rd S 119 x4 = x6 → rd S 119 (x4 + 1) = x7 → rd S 119 (x4 + 2) = x8 → 1 ≤ x6 → 1000000 < x6 → (0 ≤ x1 ∧ x1 ≤ 57) → (1 ≤ x2 ∧ x2 ≤ 16) → (0 ≤ x3 ∧ x3 ≤ 15) → (0 ≤ x4 ∧ x4 ≤ 57) → (3 ≤ x5 ∧ x5 ≤ 60) → (1000001 ≤ x6 ∧ x6 ≤ 2147483647) → x1 + (3 * x3 + 0) = x4 → i1.toInt = (-21) → Q (some (.int i1), S))
    (k4 : ∀ (x4 x5 x6 x7 x8 : Int) (i1 : Int32), x3 < x2 → 0 ≤ x1 → 0 ≤ x4 → rd S 118 0 = x5 → x4 ≤ x5 + (-3) → rd S 119 x4 = x6 → rd S 119 (x4 + 1) = x7 → rd S 119 (x4 + 2) = x8 → 1 ≤ x6 → x6 ≤ 1000000 → x7 < 0 → (0 ≤ x1 ∧ x1 ≤ 57) → (1 ≤ x2 ∧ x2 ≤ 16) → (0 ≤ x3 ∧ x3 ≤ 15) → (0 ≤ x4 ∧ x4 ≤ 57) → (3 ≤ x5 ∧ x5 ≤ 60) → (1 ≤ x6 ∧ x6 ≤ 1000000) → ((-2147483648) ≤ x7 ∧ x7 ≤ (-1)) → x1 + (3 * x3 + 0) = x4 → i1.toInt = (-21) → Q (some (.int i1), S))
    (k5 : ∀ (x4 x5 x6 x7 x8 : Int) (i1 : Int32), x3 < x2 → 0 ≤ x1 → 0 ≤ x4 → rd S 118 0 = x5 → x4 ≤ x5 + (-3) → rd S 119 x4 = x6 → rd S 119 (x4 + 1) = x7 → rd S 119 (x4 + 2) = x8 → 1 ≤ x6 → x6 ≤ 1000000 → 0 ≤ x7 → 1000 < x7 → (0 ≤ x1 ∧ x1 ≤ 57) → (1 ≤ x2 ∧ x2 ≤ 16) → (0 ≤ x3 ∧ x3 ≤ 15) → (0 ≤ x4 ∧ x4 ≤ 57) → (3 ≤ x5 ∧ x5 ≤ 60) → (1 ≤ x6 ∧ x6 ≤ 1000000) → (1001 ≤ x7 ∧ x7 ≤ 2147483647) → x1 + (3 * x3 + 0) = x4 → i1.toInt = (-21) → Q (some (.int i1), S))
    (k6 : ∀ (x4 x5 x6 x7 x8 : Int) (i1 : Int32), x3 < x2 → 0 ≤ x1 → 0 ≤ x4 → rd S 118 0 = x5 → x4 ≤ x5 + (-3) → rd S 119 x4 = x6 → rd S 119 (x4 + 1) = x7 → rd S 119 (x4 + 2) = x8 → 1 ≤ x6 → x6 ≤ 1000000 → 0 ≤ x7 → x7 ≤ 1000 → x8 < 0 → (0 ≤ x1 ∧ x1 ≤ 57) → (1 ≤ x2 ∧ x2 ≤ 16) → (0 ≤ x3 ∧ x3 ≤ 15) → (0 ≤ x4 ∧ x4 ≤ 57) → (3 ≤ x5 ∧ x5 ≤ 60) → (1 ≤ x6 ∧ x6 ≤ 1000000) → (0 ≤ x7 ∧ x7 ≤ 1000) → ((-2147483648) ≤ x8 ∧ x8 ≤ (-1)) → x1 + (3 * x3 + 0) = x4 → i1.toInt = (-21) → Q (some (.int i1), S))
    (k7 : ∀ (x4 x5 x6 x7 x8 : Int) (i1 : Int32), x3 < x2 → 0 ≤ x1 → 0 ≤ x4 → rd S 118 0 = x5 → x4 ≤ x5 + (-3) → rd S 119 x4 = x6 → rd S 119 (x4 + 1) = x7 → rd S 119 (x4 + 2) = x8 → 1 ≤ x6 → x6 ≤ 1000000 → 0 ≤ x7 → x7 ≤ 1000 → 0 ≤ x8 → 999 < x8 → (0 ≤ x1 ∧ x1 ≤ 57) → (1 ≤ x2 ∧ x2 ≤ 16) → (0 ≤ x3 ∧ x3 ≤ 15) → (0 ≤ x4 ∧ x4 ≤ 57) → (3 ≤ x5 ∧ x5 ≤ 60) → (1 ≤ x6 ∧ x6 ≤ 1000000) → (0 ≤ x7 ∧ x7 ≤ 1000) → (1000 ≤ x8 ∧ x8 ≤ 2147483647) → x1 + (3 * x3 + 0) = x4 → i1.toInt = (-21) → Q (some (.int i1), S))
    (k8 : ∀ (x4 x5 x6 x7 x8 x9 x10 : Int) (L' : am_L), x3 < x2 → 0 ≤ x1 → 0 ≤ x4 → rd S 118 0 = x5 → x4 ≤ x5 + (-3) → rd S 119 x4 = x6 → rd S 119 (x4 + 1) = x7 → rd S 119 (x4 + 2) = x8 → 1 ≤ x6 → x6 ≤ 1000000 → 0 ≤ x7 → x7 ≤ 1000 → 0 ≤ x8 → x8 ≤ 999 → rd S 6 0 = x9 → x10 < 16 → (0 ≤ x1 ∧ x1 ≤ 57) → (1 ≤ x2 ∧ x2 ≤ 16) → (0 ≤ x3 ∧ x3 ≤ 15) → (0 ≤ x4 ∧ x4 ≤ 57) → (3 ≤ x5 ∧ x5 ≤ 60) → (1 ≤ x6 ∧ x6 ≤ 1000000) → (0 ≤ x7 ∧ x7 ≤ 1000) → (0 ≤ x8 ∧ x8 ≤ 999) → (0 ≤ x9 ∧ x9 ≤ 16) → (0 ≤ x10 ∧ x10 ≤ 15) → x9 + x3 = x10 → x1 + (3 * x3 + 0) = x4 → lc L' 0 0 → lc L' 1 118 → li L' 2 x1 → li L' 3 x2 → li L' 4 (x3 + 1) → li L' 5 x4 → li L' 6 0 → am_V none d 155 3 L' ([]) S Q)
    (k9 : ∀ (x4 x5 x6 x7 x8 x9 x10 : Int) (i1 : Int32), x3 < x2 → 0 ≤ x1 → 0 ≤ x4 → rd S 118 0 = x5 → x4 ≤ x5 + (-3) → rd S 119 x4 = x6 → rd S 119 (x4 + 1) = x7 → rd S 119 (x4 + 2) = x8 → 1 ≤ x6 → x6 ≤ 1000000 → 0 ≤ x7 → x7 ≤ 1000 → 0 ≤ x8 → x8 ≤ 999 → rd S 6 0 = x9 → 16 ≤ x10 → (0 ≤ x1 ∧ x1 ≤ 57) → (1 ≤ x2 ∧ x2 ≤ 16) → (0 ≤ x3 ∧ x3 ≤ 15) → (0 ≤ x4 ∧ x4 ≤ 57) → (3 ≤ x5 ∧ x5 ≤ 60) → (1 ≤ x6 ∧ x6 ≤ 1000000) → (0 ≤ x7 ∧ x7 ≤ 1000) → (0 ≤ x8 ∧ x8 ≤ 999) → (0 ≤ x9 ∧ x9 ≤ 16) → (16 ≤ x10 ∧ x10 ≤ 31) → x9 + x3 = x10 → x1 + (3 * x3 + 0) = x4 → i1.toInt = (-23) → Q (some (.int i1), S)) : am_V none d 155 3 L ([]) S Q := by
  refine sg_use sg_sr_x2c_g hd hP (sg_xs [0, x1, x2, x3]) ⟨⟨Int.le_refl 0, Int.le_refl 0⟩, b1, b2, b3, trivial⟩ trivial trivial trivial ⟨l0, l1, l2, l3, l4, trivial⟩ trivial ?_
  intro z hz x' L' st' S' hx hP' hW hL' hs' hJ hE' hT' hD'
  have q1 : x' 1 = x1 := hx 1 (by decide)
  subst q1
  have q2 : x' 2 = x2 := hx 2 (by decide)
  subst q2
  have q3 : x' 3 = x3 := hx 3 (by decide)
  subst q3
  have eS : S' = S := hW.1 rfl
  subst eS
  simp only [sg_sr_x2c_Z, List.mem_cons, List.not_mem_nil, or_false] at hz
  rcases hz with rfl | rfl | rfl | rfl | rfl | rfl | rfl | rfl | rfl | rfl
  · obtain ⟨f0, hσ⟩ := hJ
    obtain ⟨e0, e1, e2, -⟩ := hE'
    intro v hv
    subst hv
    cases v with
    | none => exact hs'.elim
    | some v1 =>
      obtain ⟨⟨i1, rfl, g1⟩, -⟩ := hs'
      exact k0 i1 f0 e0 e1 e2 g1
  · obtain ⟨f0, f1, f2, f3, f4, -, hσ⟩ := hJ
    obtain ⟨e0, e1, e2, e3, e4, -⟩ := hE'
    obtain ⟨t0, -⟩ := hT'
    intro v hv
    subst hv
    cases v with
    | none => exact hs'.elim
    | some v1 =>
      obtain ⟨⟨i1, rfl, g1⟩, -⟩ := hs'
      exact k1 (x' 4) (x' 5) i1 f0 f1 f2 f3 f4 e0 e1 e2 e3 e4 t0 g1
  · obtain ⟨f0, f1, f2, f3, f4, -, f6, f7, f8, f9, -, -, hσ⟩ := hJ
    obtain ⟨e0, e1, e2, e3, e4, e5, -⟩ := hE'
    obtain ⟨t0, -⟩ := hT'
    intro v hv
    subst hv
    cases v with
    | none => exact hs'.elim
    | some v1 =>
      obtain ⟨⟨i1, rfl, g1⟩, -⟩ := hs'
      exact k2 (x' 4) (x' 5) (x' 6) (x' 7) (x' 8) i1 f0 f1 f2 f3 f4 f6 f7 f8 f9 e0 e1 e2 e3 e4 e5 t0 g1
  · obtain ⟨f0, f1, f2, f3, f4, -, f6, f7, f8, f9, f10, -, -, hσ⟩ := hJ
    obtain ⟨e0, e1, e2, e3, e4, e5, -⟩ := hE'
    obtain ⟨t0, -⟩ := hT'
    intro v hv
    subst hv
    cases v with
    | none => exact hs'.elim
    | some v1 =>
      obtain ⟨⟨i1, rfl, g1⟩, -⟩ := hs'
      exact k3 (x' 4) (x' 5) (x' 6) (x' 7) (x' 8) i1 f0 f1 f2 f3 f4 f6 f7 f8 f9 f10 e0 e1 e2 e3 e4 e5 t0 g1
  · obtain ⟨f0, f1, f2, f3, f4, -, f6, f7, f8, f9, f10, f11, -, -, hσ⟩ := hJ
    obtain ⟨e0, e1, e2, e3, e4, e5, e6, -⟩ := hE'
    obtain ⟨t0, -⟩ := hT'
    intro v hv
    subst hv
    cases v with
    | none => exact hs'.elim
    | some v1 =>
      obtain ⟨⟨i1, rfl, g1⟩, -⟩ := hs'
      exact k4 (x' 4) (x' 5) (x' 6) (x' 7) (x' 8) i1 f0 f1 f2 f3 f4 f6 f7 f8 f9 f10 f11 e0 e1 e2 e3 e4 e5 e6 t0 g1
  · obtain ⟨f0, f1, f2, f3, f4, -, f6, f7, f8, f9, f10, f11, f12, -, -, hσ⟩ := hJ
    obtain ⟨e0, e1, e2, e3, e4, e5, e6, -⟩ := hE'
    obtain ⟨t0, -⟩ := hT'
    intro v hv
    subst hv
    cases v with
    | none => exact hs'.elim
    | some v1 =>
      obtain ⟨⟨i1, rfl, g1⟩, -⟩ := hs'
      exact k5 (x' 4) (x' 5) (x' 6) (x' 7) (x' 8) i1 f0 f1 f2 f3 f4 f6 f7 f8 f9 f10 f11 f12 e0 e1 e2 e3 e4 e5 e6 t0 g1
  · obtain ⟨f0, f1, f2, f3, f4, -, f6, f7, f8, f9, f10, f11, f12, f13, -, -, hσ⟩ := hJ
    obtain ⟨e0, e1, e2, e3, e4, e5, e6, e7, -⟩ := hE'
    obtain ⟨t0, -⟩ := hT'
    intro v hv
    subst hv
    cases v with
    | none => exact hs'.elim
    | some v1 =>
      obtain ⟨⟨i1, rfl, g1⟩, -⟩ := hs'
      exact k6 (x' 4) (x' 5) (x' 6) (x' 7) (x' 8) i1 f0 f1 f2 f3 f4 f6 f7 f8 f9 f10 f11 f12 f13 e0 e1 e2 e3 e4 e5 e6 e7 t0 g1
  · obtain ⟨f0, f1, f2, f3, f4, -, f6, f7, f8, f9, f10, f11, f12, f13, f14, -, -, hσ⟩ := hJ
    obtain ⟨e0, e1, e2, e3, e4, e5, e6, e7, -⟩ := hE'
    obtain ⟨t0, -⟩ := hT'
    intro v hv
    subst hv
    cases v with
    | none => exact hs'.elim
    | some v1 =>
      obtain ⟨⟨i1, rfl, g1⟩, -⟩ := hs'
      exact k7 (x' 4) (x' 5) (x' 6) (x' 7) (x' 8) i1 f0 f1 f2 f3 f4 f6 f7 f8 f9 f10 f11 f12 f13 f14 e0 e1 e2 e3 e4 e5 e6 e7 t0 g1
  · obtain ⟨f0, f1, f2, f3, f4, -, f6, f7, f8, f9, f10, f11, f12, f13, f14, -, f16, f17, -, hσ⟩ := hJ
    obtain ⟨e0, e1, e2, e3, e4, e5, e6, e7, e8, e9, -⟩ := hE'
    obtain ⟨t0, t1, -⟩ := hT'
    obtain ⟨p0, p1, p2, p3, p4, p5, p6, -⟩ := hL'
    obtain rfl := sg_tn hs'
    exact k8 (x' 4) (x' 5) (x' 6) (x' 7) (x' 8) (x' 9) (x' 10) L' f0 f1 f2 f3 f4 f6 f7 f8 f9 f10 f11 f12 f13 f14 f16 f17 e0 e1 e2 e3 e4 e5 e6 e7 e8 e9 t0 t1 p0 p1 p2 p3 p4 p5 p6
  · obtain ⟨f0, f1, f2, f3, f4, -, f6, f7, f8, f9, f10, f11, f12, f13, f14, -, f16, f17, -, hσ⟩ := hJ
    obtain ⟨e0, e1, e2, e3, e4, e5, e6, e7, e8, e9, -⟩ := hE'
    obtain ⟨t0, t1, -⟩ := hT'
    intro v hv
    subst hv
    cases v with
    | none => exact hs'.elim
    | some v1 =>
      obtain ⟨⟨i1, rfl, g1⟩, -⟩ := hs'
      exact k9 (x' 4) (x' 5) (x' 6) (x' 7) (x' 8) (x' 9) (x' 10) i1 f0 f1 f2 f3 f4 f6 f7 f8 f9 f10 f11 f12 f13 f14 f16 f17 e0 e1 e2 e3 e4 e5 e6 e7 e8 e9 t0 t1 g1
def sg_sc_x12_Z : List sg_z := [(89, [(0, .inr (.inl [0])), (1, .inl (false, (0, .ofNat 0, .ofNat 2))), (3, .inl (false, (2, .ofNat 1, .ofNat 0))), (4, .inl (false, (3, .ofNat 1, .ofNat 0))), (6, .inl (false, (0, .ofNat 0, .ofNat 0))), (7, .inr (.inl [119])), (8, .inl (false, (0, .ofNat 0, .ofNat 0)))], [], [(2, 0, (4, .ofNat 1, .ofNat 0), (0, .ofNat 0, .ofNat 0), (0, .ofNat 0, .ofNat 0))], [(1, [(.ofNat 2, .ofNat 2)]), (3, [(.ofNat 0, .ofNat 16)]), (4, [(.ofNat 0, .ofNat 0)])], [], []),
  (0, [], [.inl (false, (4, .ofNat 1, .ofNat 0))], [(2, 1, (4, .ofNat 1, .ofNat 0), (0, .ofNat 0, .ofNat 0), (0, .ofNat 0, .ofNat 0))], [(1, [(.ofNat 2, .ofNat 2)]), (3, [(.ofNat 0, .ofNat 16)]), (4, [(.negSucc 2147483647, .negSucc 0), (.ofNat 1, .ofNat 2147483647)])], [], [])]
set_option maxRecDepth 1000000 in
theorem sg_sc_x12_g : sg_go [] [88] 3000 140 64 0 5 [(0, [(.ofNat 0, .ofNat 0)]), (1, [(.ofNat 2, .ofNat 2)]), (2, [(.negSucc 2147483647, .ofNat 2147483647)]), (3, [(.ofNat 0, .ofNat 16)]), (4, [(.negSucc 2147483647, .ofNat 2147483647)])] [] [] [] [(0, .inr (.inl [0])), (1, .inl (false, (1, .ofNat 1, .ofNat 0))), (3, .inl (false, (2, .ofNat 1, .ofNat 0))), (4, .inl (false, (3, .ofNat 1, .ofNat 0)))] [.inl (false, (4, .ofNat 1, .ofNat 0))] [] sg_sc_x12_Z = true := by decide +kernel
theorem sg_sc_x12 {Q : Option Value × am_S → Prop} {d : Nat} {S : am_S} {L : am_L} {x1 x2 x3 x4 : Int} {i1 : Int32} (hd : 0 ≤ d) (hP : ax_P0 none S) (l0 : lc L 0 0) (l1 : li L 1 x1) (l3 : li L 3 x2) (l4 : li L 4 x3) (b1 : (2 ≤ x1 ∧ x1 ≤ 2)) (b2 : ((-2147483648) ≤ x2 ∧ x2 ≤ 2147483647)) (b3 : (0 ≤ x3 ∧ x3 ≤ 16)) (b4 : ((-2147483648) ≤ x4 ∧ x4 ≤ 2147483647)) (s1 : i1.toInt = x4)
    (k0 : ∀ (L' : am_L), x4 = 0 → (2 ≤ x1 ∧ x1 ≤ 2) → (0 ≤ x3 ∧ x3 ≤ 16) → (0 ≤ x4 ∧ x4 ≤ 0) → lc L' 0 0 → li L' 1 2 → li L' 3 x2 → li L' 4 x3 → li L' 6 0 → lc L' 7 119 → li L' 8 0 → am_V none d 140 88 L' ([]) S Q)
    (k1 : ∀ (i1 : Int32), x4 ≠ 0 → (2 ≤ x1 ∧ x1 ≤ 2) → (0 ≤ x3 ∧ x3 ≤ 16) → ((-2147483648) ≤ x4 ∧ x4 ≤ (-1)) ∨ (1 ≤ x4 ∧ x4 ≤ 2147483647) → i1.toInt = x4 → Q (some (.int i1), S)) : am_V none d 140 64 L ((.int i1) :: []) S Q := by
  refine sg_use sg_sc_x12_g hd hP (sg_xs [0, x1, x2, x3, x4]) ⟨⟨Int.le_refl 0, Int.le_refl 0⟩, b1, b2, b3, b4, trivial⟩ trivial trivial trivial ⟨l0, l1, l3, l4, trivial⟩ ⟨⟨_, rfl, s1⟩, trivial⟩ ?_
  intro z hz x' L' st' S' hx hP' hW hL' hs' hJ hE' hT' hD'
  have q1 : x' 1 = x1 := hx 1 (by decide)
  subst q1
  have q2 : x' 2 = x2 := hx 2 (by decide)
  subst q2
  have q3 : x' 3 = x3 := hx 3 (by decide)
  subst q3
  have q4 : x' 4 = x4 := hx 4 (by decide)
  subst q4
  have eS : S' = S := hW.1 rfl
  subst eS
  simp only [sg_sc_x12_Z, List.mem_cons, List.not_mem_nil, or_false] at hz
  rcases hz with rfl | rfl
  · obtain ⟨f0, hσ⟩ := hJ
    obtain ⟨e0, e1, e2, -⟩ := hE'
    obtain ⟨p0, p1, p2, p3, p4, p5, p6, -⟩ := hL'
    obtain rfl := sg_tn hs'
    exact k0 L' f0 e0 e1 e2 p0 p1 p2 p3 p4 p5 p6
  · obtain ⟨f0, hσ⟩ := hJ
    obtain ⟨e0, e1, e2, -⟩ := hE'
    intro v hv
    subst hv
    cases v with
    | none => exact hs'.elim
    | some v1 =>
      obtain ⟨⟨i1, rfl, g1⟩, -⟩ := hs'
      exact k1 i1 f0 e0 e1 e2 g1
def sg_sc_x22_Z : List sg_z := [(0, [], [.inl (false, (4, .ofNat 1, .ofNat 0))], [(0, 6, (0, .ofNat 0, .ofNat 0), (4, .ofNat 1, .ofNat 0), (0, .ofNat 0, .ofNat 0)), (2, 3, (3, .ofNat 1, .ofNat 0), (2, .ofNat 1, .ofNat 0), (0, .ofNat 0, .ofNat 0))], [(1, [(.ofNat 0, .ofNat 57)]), (2, [(.ofNat 0, .ofNat 16)]), (3, [(.ofNat 0, .ofNat 16)]), (4, [(.ofNat 0, .ofNat 15)]), (5, [(.ofNat 0, .ofNat 57)]), (6, [(.ofNat 1, .ofNat 1000000)]), (7, [(.ofNat 0, .ofNat 1000)]), (8, [(.ofNat 0, .ofNat 999)])], [], []),
  (89, [(0, .inr (.inl [0])), (3, .inl (false, (1, .ofNat 1, .ofNat 0))), (4, .inl (false, (2, .ofNat 1, .ofNat 0))), (7, .inr (.inl [119])), (8, .inl (false, (3, .ofNat 1, .ofNat 1))), (9, .inl (false, (5, .ofNat 1, .ofNat 0)))], [], [(0, 6, (0, .ofNat 0, .ofNat 0), (4, .ofNat 1, .ofNat 1), (0, .ofNat 0, .ofNat 0)), (1, 6, (0, .ofNat 0, .ofNat 0), (4, .ofNat 1, .ofNat 1), (0, .ofNat 0, .ofNat 0)), (0, 6, (0, .ofNat 0, .ofNat 0), (4, .ofNat 1, .ofNat 0), (0, .ofNat 0, .ofNat 0)), (1, 12, (4, .ofNat 1, .ofNat 0), (0, .ofNat 0, .negSucc 3), (0, .ofNat 0, .ofNat 0)), (1, 11, (4, .ofNat 1, .ofNat 0), (0, .ofNat 0, .negSucc 3), (0, .ofNat 0, .ofNat 0)), (0, 6, (0, .ofNat 0, .ofNat 0), (4, .ofNat 1, .ofNat 0), (0, .ofNat 0, .ofNat 0)), (1, 10, (4, .ofNat 1, .ofNat 0), (0, .ofNat 0, .ofNat 0), (0, .ofNat 0, .ofNat 0)), (0, 6, (0, .ofNat 0, .ofNat 0), (4, .ofNat 1, .ofNat 0), (0, .ofNat 0, .ofNat 0)), (1, 9, (4, .ofNat 1, .ofNat 0), (8, .ofNat 1, .ofNat 0), (0, .ofNat 0, .ofNat 0)), (0, 6, (0, .ofNat 0, .ofNat 0), (4, .ofNat 1, .ofNat 0), (0, .ofNat 0, .ofNat 0)), (1, 8, (4, .ofNat 1, .ofNat 0), (7, .ofNat 1, .ofNat 0), (0, .ofNat 0, .ofNat 0)), (0, 6, (0, .ofNat 0, .ofNat 0), (4, .ofNat 1, .ofNat 0), (0, .ofNat 0, .ofNat 0)), (1, 7, (4, .ofNat 1, .ofNat 0), (6, .ofNat 1, .ofNat 0), (0, .ofNat 0, .ofNat 0)), (0, 6, (0, .ofNat 0, .ofNat 0), (4, .ofNat 1, .ofNat 0), (0, .ofNat 0, .ofNat 0)), (0, 119, (5, .ofNat 1, .ofNat 2), (8, .ofNat 1, .ofNat 0), (0, .ofNat 0, .ofNat 0)), (0, 119, (5, .ofNat 1, .ofNat 1), (7, .ofNat 1, .ofNat 0), (0, .ofNat 0, .ofNat 0)), (0, 119, (5, .ofNat 1, .ofNat 0), (6, .ofNat 1, .ofNat 0), (0, .ofNat 0, .ofNat 0)), (2, 2, (3, .ofNat 1, .ofNat 0), (2, .ofNat 1, .ofNat 0), (0, .ofNat 0, .ofNat 0))], [(1, [(.ofNat 0, .ofNat 57)]), (2, [(.ofNat 1, .ofNat 16)]), (3, [(.ofNat 0, .ofNat 15)]), (4, [(.ofNat 0, .ofNat 15)]), (5, [(.ofNat 0, .ofNat 57)]), (6, [(.ofNat 1, .ofNat 1000000)]), (7, [(.ofNat 0, .ofNat 1000)]), (8, [(.ofNat 0, .ofNat 999)])], [((1, .ofNat 1, .ofNat 0), (3, .ofNat 3, .ofNat 0), (5, .ofNat 1, .ofNat 0))], [])]
set_option maxRecDepth 1000000 in
theorem sg_sc_x22_g : sg_go [] [88] 3000 140 88 2 9 [(0, [(.ofNat 0, .ofNat 0)]), (1, [(.ofNat 0, .ofNat 57)]), (2, [(.ofNat 0, .ofNat 16)]), (3, [(.ofNat 0, .ofNat 16)]), (4, [(.ofNat 0, .ofNat 15)]), (5, [(.ofNat 0, .ofNat 57)]), (6, [(.ofNat 1, .ofNat 1000000)]), (7, [(.ofNat 0, .ofNat 1000)]), (8, [(.ofNat 0, .ofNat 999)])] [(6, (0, .ofNat 0, .ofNat 0), (4, .ofNat 1, .ofNat 0)), (119, (5, .ofNat 1, .ofNat 0), (6, .ofNat 1, .ofNat 0)), (119, (5, .ofNat 1, .ofNat 1), (7, .ofNat 1, .ofNat 0)), (119, (5, .ofNat 1, .ofNat 2), (8, .ofNat 1, .ofNat 0))] [((1, .ofNat 1, .ofNat 0), (3, .ofNat 3, .ofNat 0), (5, .ofNat 1, .ofNat 0))] [] [(0, .inr (.inl [0])), (3, .inl (false, (1, .ofNat 1, .ofNat 0))), (4, .inl (false, (2, .ofNat 1, .ofNat 0))), (7, .inr (.inl [119])), (8, .inl (false, (3, .ofNat 1, .ofNat 0)))] [] [(6, some 0), (7, none), (8, none), (9, none), (10, none), (11, none), (12, none)] sg_sc_x22_Z = true := by decide +kernel
theorem sg_sc_x22 {Q : Option Value × am_S → Prop} {d : Nat} {S : am_S} {L : am_L} {x1 x2 x3 x4 x5 x6 x7 x8 : Int} (hd : 2 ≤ d) (hP : ax_P0 none S) (l0 : lc L 0 0) (l3 : li L 3 x1) (l4 : li L 4 x2) (l7 : lc L 7 119) (l8 : li L 8 x3) (b1 : (0 ≤ x1 ∧ x1 ≤ 57)) (b2 : (0 ≤ x2 ∧ x2 ≤ 16)) (b3 : (0 ≤ x3 ∧ x3 ≤ 16)) (b4 : (0 ≤ x4 ∧ x4 ≤ 15)) (b5 : (0 ≤ x5 ∧ x5 ≤ 57)) (b6 : (1 ≤ x6 ∧ x6 ≤ 1000000)) (b7 : (0 ≤ x7 ∧ x7 ≤ 1000)) (b8 : (0 ≤ x8 ∧ x8 ≤ 999)) (m6_0 : rd S 6 0 = x4) (n0 : ax_rd S 119 x5 = some x6) (n1 : ax_rd S 119 (x5 + 1) = some x7) (n2 : ax_rd S 119 (x5 + 2) = some x8) (t0 : x1 + (3 * x3 + 0) = x5)
    (k0 : ∀ (S' : am_S) (i1 : Int32), ax_P0 none S' → rd S' = rd S → x2 ≤ x3 → rd S 6 0 = x4 → (0 ≤ x1 ∧ x1 ≤ 57) → (0 ≤ x2 ∧ x2 ≤ 16) → (0 ≤ x3 ∧ x3 ≤ 16) → (0 ≤ x4 ∧ x4 ≤ 15) → (0 ≤ x5 ∧ x5 ≤ 57) → (1 ≤ x6 ∧ x6 ≤ 1000000) → (0 ≤ x7 ∧ x7 ≤ 1000) → (0 ≤ x8 ∧ x8 ≤ 999) → i1.toInt = x4 → Q (some (.int i1), S'))
    (k1 : ∀ (L' : am_L) (S' : am_S), ax_P0 none S' → rd S' = sg_up (sg_up (sg_up (sg_up (sg_up (sg_up (sg_up (rd S) 7 x4 x6) 8 x4 x7) 9 x4 x8) 10 x4 0) 11 x4 (-4)) 12 x4 (-4)) 6 0 (x4 + 1) → x3 < x2 → rd S 119 x5 = x6 → rd S 119 (x5 + 1) = x7 → rd S 119 (x5 + 2) = x8 → rd S 6 0 = x4 → (0 ≤ x1 ∧ x1 ≤ 57) → (1 ≤ x2 ∧ x2 ≤ 16) → (0 ≤ x3 ∧ x3 ≤ 15) → (0 ≤ x4 ∧ x4 ≤ 15) → (0 ≤ x5 ∧ x5 ≤ 57) → (1 ≤ x6 ∧ x6 ≤ 1000000) → (0 ≤ x7 ∧ x7 ≤ 1000) → (0 ≤ x8 ∧ x8 ≤ 999) → x1 + (3 * x3 + 0) = x5 → lc L' 0 0 → li L' 3 x1 → li L' 4 x2 → lc L' 7 119 → li L' 8 (x3 + 1) → li L' 9 x5 → am_V none d 140 88 L' ([]) S' Q) : am_V none d 140 88 L ([]) S Q := by
  refine sg_use sg_sc_x22_g hd hP (sg_xs [0, x1, x2, x3, x4, x5, x6, x7, x8]) ⟨⟨Int.le_refl 0, Int.le_refl 0⟩, b1, b2, b3, b4, b5, b6, b7, b8, trivial⟩ ⟨sg_fs hP rfl m6_0, n0, n1, n2, trivial⟩ ⟨t0, trivial⟩ trivial ⟨l0, l3, l4, l7, l8, trivial⟩ trivial ?_
  intro z hz x' L' st' S' hx hP' hW hL' hs' hJ hE' hT' hD'
  have q1 : x' 1 = x1 := hx 1 (by decide)
  subst q1
  have q2 : x' 2 = x2 := hx 2 (by decide)
  subst q2
  have q3 : x' 3 = x3 := hx 3 (by decide)
  subst q3
  have q4 : x' 4 = x4 := hx 4 (by decide)
  subst q4
  have q5 : x' 5 = x5 := hx 5 (by decide)
  subst q5
  have q6 : x' 6 = x6 := hx 6 (by decide)
  subst q6
  have q7 : x' 7 = x7 := hx 7 (by decide)
  subst q7
  have q8 : x' 8 = x8 := hx 8 (by decide)
  subst q8
  simp only [sg_sc_x22_Z, List.mem_cons, List.not_mem_nil, or_false] at hz
  rcases hz with rfl | rfl
  · obtain ⟨f0, f1, hσ⟩ := hJ
    obtain ⟨e0, e1, e2, e3, e4, e5, e6, e7, -⟩ := hE'
    intro v hv
    subst hv
    cases v with
    | none => exact hs'.elim
    | some v1 =>
      obtain ⟨⟨i1, rfl, g1⟩, -⟩ := hs'
      exact k0 S' i1 hP' hσ f0 f1 e0 e1 e2 e3 e4 e5 e6 e7 g1
  · obtain ⟨f0, f1, f2, f3, f4, -, -, -, -, -, -, hσ⟩ := hJ
    obtain ⟨e0, e1, e2, e3, e4, e5, e6, e7, -⟩ := hE'
    obtain ⟨t0, -⟩ := hT'
    obtain ⟨p0, p1, p2, p3, p4, p5, -⟩ := hL'
    obtain rfl := sg_tn hs'
    exact k1 L' S' hP' hσ f0 f1 f2 f3 f4 e0 e1 e2 e3 e4 e5 e6 e7 t0 p0 p1 p2 p3 p4 p5
def sg_rn_x3_Z : List sg_z := [(16, [(0, .inr (.inl [120])), (1, .inl (false, (1, .ofNat 1, .ofNat 0))), (2, .inl (false, (2, .ofNat 1, .ofNat 0)))], [.inl (false, (0, .ofNat 0, .ofNat 0)), .inr (.inl [121])], [(1, 120, (0, .ofNat 0, .ofNat 0), (2, .ofNat 1, .ofNat 0), (0, .ofNat 0, .ofNat 0)), (1, 120, (0, .ofNat 0, .ofNat 2), (1, .ofNat 1, .ofNat 0), (0, .ofNat 0, .ofNat 0))], [(1, [(.ofNat 0, .ofNat 2)]), (2, [(.ofNat 0, .ofNat 60)])], [], [])]
set_option maxRecDepth 1000000 in
theorem sg_rn_x3_g : sg_go [] [15] 3000 61 0 0 3 [(0, [(.ofNat 0, .ofNat 0)]), (1, [(.ofNat 0, .ofNat 2)]), (2, [(.ofNat 0, .ofNat 60)])] [] [] [] [(0, .inr (.inl [120])), (1, .inl (false, (1, .ofNat 1, .ofNat 0))), (2, .inl (false, (2, .ofNat 1, .ofNat 0)))] [] [(120, some 0), (120, some 2)] sg_rn_x3_Z = true := by decide +kernel
theorem sg_rn_x3 {Q : Option Value × am_S → Prop} {d : Nat} {S : am_S} {L : am_L} {x1 x2 : Int} (hd : 0 ≤ d) (hP : ax_P0 none S) (l0 : lc L 0 120) (l1 : li L 1 x1) (l2 : li L 2 x2) (b1 : (0 ≤ x1 ∧ x1 ≤ 2)) (b2 : (0 ≤ x2 ∧ x2 ≤ 60))
    (k0 : ∀ (L' : am_L) (S' : am_S) (i1 : Int32), ax_P0 none S' → rd S' = sg_up (sg_up (rd S) 120 2 x1) 120 0 x2 → (0 ≤ x1 ∧ x1 ≤ 2) → (0 ≤ x2 ∧ x2 ≤ 60) → lc L' 0 120 → li L' 1 x1 → li L' 2 x2 → i1.toInt = 0 → am_V none d 61 15 L' ((.int i1) :: (.ref 121) :: []) S' Q) : am_V none d 61 0 L ([]) S Q := by
  refine sg_use sg_rn_x3_g hd hP (sg_xs [0, x1, x2]) ⟨⟨Int.le_refl 0, Int.le_refl 0⟩, b1, b2, trivial⟩ trivial trivial trivial ⟨l0, l1, l2, trivial⟩ trivial ?_
  intro z hz x' L' st' S' hx hP' hW hL' hs' hJ hE' hT' hD'
  have q1 : x' 1 = x1 := hx 1 (by decide)
  subst q1
  have q2 : x' 2 = x2 := hx 2 (by decide)
  subst q2
  simp only [sg_rn_x3_Z, List.mem_cons, List.not_mem_nil, or_false] at hz
  rcases hz with rfl
  · have hσ := hJ
    obtain ⟨e0, e1, -⟩ := hE'
    obtain ⟨p0, p1, p2, -⟩ := hL'
    obtain ⟨v1, r1, rfl, ⟨i1, rfl, g1⟩, hs1⟩ := sg_tc hs'
    obtain ⟨v2, r2, rfl, rfl, hs2⟩ := sg_tc hs1
    obtain rfl := sg_tn hs2
    exact k0 L' S' i1 hP' hσ e0 e1 p0 p1 p2 g1
def sg_fl_x3a_Z : List sg_z := [(6, [(0, .inr (.inl [121])), (1, .inl (false, (0, .ofNat 0, .ofNat 0))), (2, .inl (false, (0, .ofNat 0, .ofNat 0))), (3, .inl (false, (0, .ofNat 0, .ofNat 60)))], [], [], [(1, [(.ofNat 0, .ofNat 0)])], [], [])]
set_option maxRecDepth 1000000 in
theorem sg_fl_x3a_g : sg_go [] [5] 3000 261 0 0 2 [(0, [(.ofNat 0, .ofNat 0)]), (1, [(.ofNat 0, .ofNat 0)])] [] [] [] [(0, .inr (.inl [121])), (1, .inl (false, (1, .ofNat 1, .ofNat 0)))] [] [] sg_fl_x3a_Z = true := by decide +kernel
theorem sg_fl_x3a {Q : Option Value × am_S → Prop} {d : Nat} {S : am_S} {L : am_L} {x1 : Int} (hd : 0 ≤ d) (hP : ax_P0 none S) (l0 : lc L 0 121) (l1 : li L 1 x1) (b1 : (0 ≤ x1 ∧ x1 ≤ 0))
    (k0 : ∀ (L' : am_L), (0 ≤ x1 ∧ x1 ≤ 0) → lc L' 0 121 → li L' 1 0 → li L' 2 0 → li L' 3 60 → am_V none d 261 5 L' ([]) S Q) : am_V none d 261 0 L ([]) S Q := by
  refine sg_use sg_fl_x3a_g hd hP (sg_xs [0, x1]) ⟨⟨Int.le_refl 0, Int.le_refl 0⟩, b1, trivial⟩ trivial trivial trivial ⟨l0, l1, trivial⟩ trivial ?_
  intro z hz x' L' st' S' hx hP' hW hL' hs' hJ hE' hT' hD'
  have q1 : x' 1 = x1 := hx 1 (by decide)
  subst q1
  have eS : S' = S := hW.1 rfl
  subst eS
  simp only [sg_fl_x3a_Z, List.mem_cons, List.not_mem_nil, or_false] at hz
  rcases hz with rfl
  · have hσ := hJ
    obtain ⟨e0, -⟩ := hE'
    obtain ⟨p0, p1, p2, p3, -⟩ := hL'
    obtain rfl := sg_tn hs'
    exact k0 L' e0 p0 p1 p2 p3
def sg_fl_x3b_Z : List sg_z := [(0, [], [], [(2, 3, (2, .ofNat 1, .ofNat 0), (0, .ofNat 0, .ofNat 60), (0, .ofNat 0, .ofNat 0))], [(1, [(.ofNat 0, .ofNat 0)]), (2, [(.ofNat 60, .ofNat 60)]), (3, [(.ofNat 60, .ofNat 60)])], [], []),
  (6, [(0, .inr (.inl [121])), (1, .inl (false, (0, .ofNat 0, .ofNat 0))), (2, .inl (false, (2, .ofNat 1, .ofNat 1))), (3, .inl (false, (0, .ofNat 0, .ofNat 60)))], [], [(1, 121, (2, .ofNat 1, .ofNat 0), (0, .ofNat 0, .ofNat 0), (0, .ofNat 0, .ofNat 0)), (2, 2, (2, .ofNat 1, .ofNat 0), (0, .ofNat 0, .ofNat 60), (0, .ofNat 0, .ofNat 0))], [(1, [(.ofNat 0, .ofNat 0)]), (2, [(.ofNat 0, .ofNat 59)]), (3, [(.ofNat 60, .ofNat 60)])], [], [])]
set_option maxRecDepth 1000000 in
theorem sg_fl_x3b_g : sg_go [] [5] 3000 261 5 0 4 [(0, [(.ofNat 0, .ofNat 0)]), (1, [(.ofNat 0, .ofNat 0)]), (2, [(.ofNat 0, .ofNat 60)]), (3, [(.ofNat 60, .ofNat 60)])] [] [] [] [(0, .inr (.inl [121])), (1, .inl (false, (1, .ofNat 1, .ofNat 0))), (2, .inl (false, (2, .ofNat 1, .ofNat 0))), (3, .inl (false, (3, .ofNat 1, .ofNat 0)))] [] [(121, none)] sg_fl_x3b_Z = true := by decide +kernel
theorem sg_fl_x3b {Q : Option Value × am_S → Prop} {d : Nat} {S : am_S} {L : am_L} {x1 x2 x3 : Int} (hd : 0 ≤ d) (hP : ax_P0 none S) (l0 : lc L 0 121) (l1 : li L 1 x1) (l2 : li L 2 x2) (l3 : li L 3 x3) (b1 : (0 ≤ x1 ∧ x1 ≤ 0)) (b2 : (0 ≤ x2 ∧ x2 ≤ 60)) (b3 : (60 ≤ x3 ∧ x3 ≤ 60))
    (k0 : ∀ (S' : am_S), ax_P0 none S' → rd S' = rd S → 60 ≤ x2 → (0 ≤ x1 ∧ x1 ≤ 0) → (60 ≤ x2 ∧ x2 ≤ 60) → (60 ≤ x3 ∧ x3 ≤ 60) → Q (none, S'))
    (k1 : ∀ (L' : am_L) (S' : am_S), ax_P0 none S' → rd S' = sg_up (rd S) 121 x2 0 → x2 < 60 → (0 ≤ x1 ∧ x1 ≤ 0) → (0 ≤ x2 ∧ x2 ≤ 59) → (60 ≤ x3 ∧ x3 ≤ 60) → lc L' 0 121 → li L' 1 0 → li L' 2 (x2 + 1) → li L' 3 60 → am_V none d 261 5 L' ([]) S' Q) : am_V none d 261 5 L ([]) S Q := by
  refine sg_use sg_fl_x3b_g hd hP (sg_xs [0, x1, x2, x3]) ⟨⟨Int.le_refl 0, Int.le_refl 0⟩, b1, b2, b3, trivial⟩ trivial trivial trivial ⟨l0, l1, l2, l3, trivial⟩ trivial ?_
  intro z hz x' L' st' S' hx hP' hW hL' hs' hJ hE' hT' hD'
  have q1 : x' 1 = x1 := hx 1 (by decide)
  subst q1
  have q2 : x' 2 = x2 := hx 2 (by decide)
  subst q2
  have q3 : x' 3 = x3 := hx 3 (by decide)
  subst q3
  simp only [sg_fl_x3b_Z, List.mem_cons, List.not_mem_nil, or_false] at hz
  rcases hz with rfl | rfl
  · obtain ⟨f0, hσ⟩ := hJ
    obtain ⟨e0, e1, e2, -⟩ := hE'
    intro v hv
    subst hv
    cases v with
    | some _ => exact hs'.elim
    | none =>
      exact k0 S' hP' hσ f0 e0 e1 e2
  · obtain ⟨f0, hσ⟩ := hJ
    obtain ⟨e0, e1, e2, -⟩ := hE'
    obtain ⟨p0, p1, p2, p3, -⟩ := hL'
    obtain rfl := sg_tn hs'
    exact k1 L' S' hP' hσ f0 e0 e1 e2 p0 p1 p2 p3
def sg_sr_x3a_Z : List sg_z := [(4, [(0, .inr (.inl [0])), (1, .inr (.inl [120])), (2, .inl (false, (1, .ofNat 1, .ofNat 0))), (3, .inl (false, (2, .ofNat 1, .ofNat 0))), (4, .inl (false, (0, .ofNat 0, .ofNat 0)))], [], [], [(2, [(.ofNat 0, .ofNat 16)])], [], [])]
set_option maxRecDepth 1000000 in
theorem sg_sr_x3a_g : sg_go [] [3] 3000 155 0 0 3 [(0, [(.ofNat 0, .ofNat 0)]), (1, [(.negSucc 2147483647, .ofNat 2147483647)]), (2, [(.ofNat 0, .ofNat 16)])] [] [] [] [(0, .inr (.inl [0])), (1, .inr (.inl [120])), (2, .inl (false, (1, .ofNat 1, .ofNat 0))), (3, .inl (false, (2, .ofNat 1, .ofNat 0)))] [] [] sg_sr_x3a_Z = true := by decide +kernel
theorem sg_sr_x3a {Q : Option Value × am_S → Prop} {d : Nat} {S : am_S} {L : am_L} {x1 x2 : Int} (hd : 0 ≤ d) (hP : ax_P0 none S) (l0 : lc L 0 0) (l1 : lc L 1 120) (l2 : li L 2 x1) (l3 : li L 3 x2) (b1 : ((-2147483648) ≤ x1 ∧ x1 ≤ 2147483647)) (b2 : (0 ≤ x2 ∧ x2 ≤ 16))
    (k0 : ∀ (L' : am_L), (0 ≤ x2 ∧ x2 ≤ 16) → lc L' 0 0 → lc L' 1 120 → li L' 2 x1 → li L' 3 x2 → li L' 4 0 → am_V none d 155 3 L' ([]) S Q) : am_V none d 155 0 L ([]) S Q := by
  refine sg_use sg_sr_x3a_g hd hP (sg_xs [0, x1, x2]) ⟨⟨Int.le_refl 0, Int.le_refl 0⟩, b1, b2, trivial⟩ trivial trivial trivial ⟨l0, l1, l2, l3, trivial⟩ trivial ?_
  intro z hz x' L' st' S' hx hP' hW hL' hs' hJ hE' hT' hD'
  have q1 : x' 1 = x1 := hx 1 (by decide)
  subst q1
  have q2 : x' 2 = x2 := hx 2 (by decide)
  subst q2
  have eS : S' = S := hW.1 rfl
  subst eS
  simp only [sg_sr_x3a_Z, List.mem_cons, List.not_mem_nil, or_false] at hz
  rcases hz with rfl
  · have hσ := hJ
    obtain ⟨e0, -⟩ := hE'
    obtain ⟨p0, p1, p2, p3, p4, -⟩ := hL'
    obtain rfl := sg_tn hs'
    exact k0 L' e0 p0 p1 p2 p3 p4
def sg_sr_x3b_Z : List sg_z := [(0, [], [.inl (false, (0, .ofNat 0, .ofNat 0))], [(2, 3, (0, .ofNat 0, .ofNat 0), (2, .ofNat 1, .ofNat 0), (0, .ofNat 0, .ofNat 0))], [(1, [(.negSucc 2147483647, .negSucc 0), (.ofNat 58, .ofNat 2147483647)]), (2, [(.ofNat 0, .ofNat 0)]), (3, [(.ofNat 0, .ofNat 0)])], [], []),
  (0, [], [.inl (false, (0, .ofNat 0, .negSucc 11))], [(2, 2, (1, .ofNat 1, .ofNat 0), (0, .ofNat 0, .ofNat 0), (0, .ofNat 0, .ofNat 0)), (2, 2, (0, .ofNat 0, .ofNat 0), (2, .ofNat 1, .ofNat 0), (0, .ofNat 0, .ofNat 0))], [(1, [(.negSucc 2147483647, .negSucc 0)]), (2, [(.ofNat 1, .ofNat 16)]), (3, [(.ofNat 0, .ofNat 0)])], [], []),
  (0, [], [.inl (false, (0, .ofNat 0, .negSucc 11))], [(2, 0, (0, .ofNat 0, .ofNat 0), (0, .ofNat 0, .ofNat 0), (0, .ofNat 0, .ofNat 0)), (2, 4, (1, .ofNat 1, .ofNat 0), (4, .ofNat 1, .negSucc 2), (0, .ofNat 0, .ofNat 0)), (0, 120, (0, .ofNat 0, .ofNat 0), (4, .ofNat 1, .ofNat 0), (0, .ofNat 0, .ofNat 0)), (2, 3, (1, .ofNat 1, .ofNat 0), (0, .ofNat 0, .ofNat 0), (0, .ofNat 0, .ofNat 0)), (2, 3, (1, .ofNat 1, .ofNat 0), (0, .ofNat 0, .ofNat 0), (0, .ofNat 0, .ofNat 0)), (2, 2, (0, .ofNat 0, .ofNat 0), (2, .ofNat 1, .ofNat 0), (0, .ofNat 0, .ofNat 0))], [(1, [(.ofNat 58, .ofNat 2147483647)]), (2, [(.ofNat 1, .ofNat 16)]), (3, [(.ofNat 0, .ofNat 0)]), (4, [(.ofNat 0, .ofNat 60)])], [], [])]
set_option maxRecDepth 1000000 in
theorem sg_sr_x3b_g : sg_go [] [3] 3000 155 3 1 4 [(0, [(.ofNat 0, .ofNat 0)]), (1, [(.negSucc 2147483647, .negSucc 0), (.ofNat 58, .ofNat 2147483647)]), (2, [(.ofNat 0, .ofNat 16)]), (3, [(.ofNat 0, .ofNat 0)])] [] [] [] [(0, .inr (.inl [0])), (1, .inr (.inl [120])), (2, .inl (false, (1, .ofNat 1, .ofNat 0))), (3, .inl (false, (2, .ofNat 1, .ofNat 0))), (4, .inl (false, (3, .ofNat 1, .ofNat 0)))] [] [] sg_sr_x3b_Z = true := by decide +kernel
theorem sg_sr_x3b {Q : Option Value × am_S → Prop} {d : Nat} {S : am_S} {L : am_L} {x1 x2 x3 : Int} (hd : 1 ≤ d) (hP : ax_P0 none S) (l0 : lc L 0 0) (l1 : lc L 1 120) (l2 : li L 2 x1) (l3 : li L 3 x2) (l4 : li L 4 x3) (b1 : ((-2147483648) ≤ x1 ∧ x1 ≤ (-1)) ∨ (58 ≤ x1 ∧ x1 ≤ 2147483647)) (b2 : (0 ≤ x2 ∧ x2 ≤ 16)) (b3 : (0 ≤ x3 ∧ x3 ≤ 0))
    (k0 : ∀ (i1 : Int32), x2 ≤ 0 → ((-2147483648) ≤ x1 ∧ x1 ≤ (-1)) ∨ (58 ≤ x1 ∧ x1 ≤ 2147483647) → (0 ≤ x2 ∧ x2 ≤ 0) → (0 ≤ x3 ∧ x3 ≤ 0) → i1.toInt = 0 → Q (some (.int i1), S))
    (k1 : ∀ (i1 : Int32), 0 < x2 → x1 < 0 → ((-2147483648) ≤ x1 ∧ x1 ≤ (-1)) → (1 ≤ x2 ∧ x2 ≤ 16) → (0 ≤ x3 ∧ x3 ≤ 0) → i1.toInt = (-12) → Q (some (.int i1), S))
    (k2 : ∀ (x4 : Int) (i1 : Int32), 0 < x2 → 0 ≤ x1 → 0 ≤ x1 → rd S 120 0 = x4 → x4 + (-3) < x1 → (58 ≤ x1 ∧ x1 ≤ 2147483647) → (1 ≤ x2 ∧ x2 ≤ 16) → (0 ≤ x3 ∧ x3 ≤ 0) → (0 ≤ x4 ∧ x4 ≤ 60) → i1.toInt = (-12) → Q (some (.int i1), S)) : am_V none d 155 3 L ([]) S Q := by
  refine sg_use sg_sr_x3b_g hd hP (sg_xs [0, x1, x2, x3]) ⟨⟨Int.le_refl 0, Int.le_refl 0⟩, b1, b2, b3, trivial⟩ trivial trivial trivial ⟨l0, l1, l2, l3, l4, trivial⟩ trivial ?_
  intro z hz x' L' st' S' hx hP' hW hL' hs' hJ hE' hT' hD'
  have q1 : x' 1 = x1 := hx 1 (by decide)
  subst q1
  have q2 : x' 2 = x2 := hx 2 (by decide)
  subst q2
  have q3 : x' 3 = x3 := hx 3 (by decide)
  subst q3
  have eS : S' = S := hW.1 rfl
  subst eS
  simp only [sg_sr_x3b_Z, List.mem_cons, List.not_mem_nil, or_false] at hz
  rcases hz with rfl | rfl | rfl
  · obtain ⟨f0, hσ⟩ := hJ
    obtain ⟨e0, e1, e2, -⟩ := hE'
    intro v hv
    subst hv
    cases v with
    | none => exact hs'.elim
    | some v1 =>
      obtain ⟨⟨i1, rfl, g1⟩, -⟩ := hs'
      exact k0 i1 f0 e0 e1 e2 g1
  · obtain ⟨f0, f1, hσ⟩ := hJ
    obtain ⟨e0, e1, e2, -⟩ := hE'
    intro v hv
    subst hv
    cases v with
    | none => exact hs'.elim
    | some v1 =>
      obtain ⟨⟨i1, rfl, g1⟩, -⟩ := hs'
      exact k1 i1 f0 f1 e0 e1 e2 g1
  · obtain ⟨f0, f1, f2, f3, f4, -, hσ⟩ := hJ
    obtain ⟨e0, e1, e2, e3, -⟩ := hE'
    intro v hv
    subst hv
    cases v with
    | none => exact hs'.elim
    | some v1 =>
      obtain ⟨⟨i1, rfl, g1⟩, -⟩ := hs'
      exact k2 (x' 4) i1 f0 f1 f2 f3 f4 e0 e1 e2 e3 g1
def sg_sr_x3c_Z : List sg_z := [(0, [], [.inl (false, (0, .ofNat 0, .ofNat 0))], [(2, 3, (3, .ofNat 1, .ofNat 0), (2, .ofNat 1, .ofNat 0), (0, .ofNat 0, .ofNat 0))], [(1, [(.ofNat 0, .ofNat 57)]), (2, [(.ofNat 0, .ofNat 16)]), (3, [(.ofNat 0, .ofNat 16)])], [], []),
  (0, [], [.inl (false, (0, .ofNat 0, .negSucc 11))], [(2, 0, (0, .ofNat 0, .ofNat 0), (0, .ofNat 0, .ofNat 0), (0, .ofNat 0, .ofNat 0)), (2, 4, (4, .ofNat 1, .ofNat 0), (5, .ofNat 1, .negSucc 2), (0, .ofNat 0, .ofNat 0)), (0, 120, (0, .ofNat 0, .ofNat 0), (5, .ofNat 1, .ofNat 0), (0, .ofNat 0, .ofNat 0)), (2, 3, (4, .ofNat 1, .ofNat 0), (0, .ofNat 0, .ofNat 0), (0, .ofNat 0, .ofNat 0)), (2, 3, (1, .ofNat 1, .ofNat 0), (0, .ofNat 0, .ofNat 0), (0, .ofNat 0, .ofNat 0)), (2, 2, (3, .ofNat 1, .ofNat 0), (2, .ofNat 1, .ofNat 0), (0, .ofNat 0, .ofNat 0))], [(1, [(.ofNat 0, .ofNat 57)]), (2, [(.ofNat 1, .ofNat 16)]), (3, [(.ofNat 0, .ofNat 15)]), (4, [(.ofNat 0, .ofNat 102)]), (5, [(.ofNat 0, .ofNat 60)])], [((1, .ofNat 1, .ofNat 0), (3, .ofNat 3, .ofNat 0), (4, .ofNat 1, .ofNat 0))], []),
  (0, [], [.inl (false, (0, .ofNat 0, .negSucc 20))], [(2, 1, (0, .ofNat 0, .negSucc 0), (0, .ofNat 0, .ofNat 0), (0, .ofNat 0, .ofNat 0)), (2, 0, (0, .ofNat 0, .ofNat 0), (0, .ofNat 0, .ofNat 0), (0, .ofNat 0, .ofNat 0)), (2, 2, (6, .ofNat 1, .ofNat 0), (0, .ofNat 0, .ofNat 1), (0, .ofNat 0, .ofNat 0)), (0, 121, (4, .ofNat 1, .ofNat 2), (8, .ofNat 1, .ofNat 0), (0, .ofNat 0, .ofNat 0)), (0, 121, (4, .ofNat 1, .ofNat 1), (7, .ofNat 1, .ofNat 0), (0, .ofNat 0, .ofNat 0)), (0, 121, (4, .ofNat 1, .ofNat 0), (6, .ofNat 1, .ofNat 0), (0, .ofNat 0, .ofNat 0)), (2, 1, (0, .ofNat 0, .ofNat 1), (0, .ofNat 0, .ofNat 0), (0, .ofNat 0, .ofNat 0)), (2, 5, (4, .ofNat 1, .ofNat 0), (5, .ofNat 1, .negSucc 2), (0, .ofNat 0, .ofNat 0)), (0, 120, (0, .ofNat 0, .ofNat 0), (5, .ofNat 1, .ofNat 0), (0, .ofNat 0, .ofNat 0)), (2, 3, (4, .ofNat 1, .ofNat 0), (0, .ofNat 0, .ofNat 0), (0, .ofNat 0, .ofNat 0)), (2, 3, (1, .ofNat 1, .ofNat 0), (0, .ofNat 0, .ofNat 0), (0, .ofNat 0, .ofNat 0)), (2, 2, (3, .ofNat 1, .ofNat 0), (2, .ofNat 1, .ofNat 0), (0, .ofNat 0, .ofNat 0))], [(1, [(.ofNat 0, .ofNat 57)]), (2, [(.ofNat 1, .ofNat 16)]), (3, [(.ofNat 0, .ofNat 15)]), (4, [(.ofNat 0, .ofNat 57)]), (5, [(.ofNat 3, .ofNat 60)]), (6, [(.negSucc 2147483647, .ofNat 0)])], [((1, .ofNat 1, .ofNat 0), (3, .ofNat 3, .ofNat 0), (4, .ofNat 1, .ofNat 0))], []),
  (0, [], [.inl (false, (0, .ofNat 0, .negSucc 20))], [(2, 1, (0, .ofNat 0, .negSucc 0), (0, .ofNat 0, .ofNat 0), (0, .ofNat 0, .ofNat 0)), (2, 0, (0, .ofNat 0, .ofNat 0), (0, .ofNat 0, .ofNat 0), (0, .ofNat 0, .ofNat 0)), (2, 4, (6, .ofNat 1, .ofNat 0), (0, .ofNat 0, .ofNat 1000000), (0, .ofNat 0, .ofNat 0)), (2, 3, (6, .ofNat 1, .ofNat 0), (0, .ofNat 0, .ofNat 1), (0, .ofNat 0, .ofNat 0)), (0, 121, (4, .ofNat 1, .ofNat 2), (8, .ofNat 1, .ofNat 0), (0, .ofNat 0, .ofNat 0)), (0, 121, (4, .ofNat 1, .ofNat 1), (7, .ofNat 1, .ofNat 0), (0, .ofNat 0, .ofNat 0)), (0, 121, (4, .ofNat 1, .ofNat 0), (6, .ofNat 1, .ofNat 0), (0, .ofNat 0, .ofNat 0)), (2, 1, (0, .ofNat 0, .ofNat 1), (0, .ofNat 0, .ofNat 0), (0, .ofNat 0, .ofNat 0)), (2, 5, (4, .ofNat 1, .ofNat 0), (5, .ofNat 1, .negSucc 2), (0, .ofNat 0, .ofNat 0)), (0, 120, (0, .ofNat 0, .ofNat 0), (5, .ofNat 1, .ofNat 0), (0, .ofNat 0, .ofNat 0)), (2, 3, (4, .ofNat 1, .ofNat 0), (0, .ofNat 0, .ofNat 0), (0, .ofNat 0, .ofNat 0)), (2, 3, (1, .ofNat 1, .ofNat 0), (0, .ofNat 0, .ofNat 0), (0, .ofNat 0, .ofNat 0)), (2, 2, (3, .ofNat 1, .ofNat 0), (2, .ofNat 1, .ofNat 0), (0, .ofNat 0, .ofNat 0))], [(1, [(.ofNat 0, .ofNat 57)]), (2, [(.ofNat 1, .ofNat 16)]), (3, [(.ofNat 0, .ofNat 15)]), (4, [(.ofNat 0, .ofNat 57)]), (5, [(.ofNat 3, .ofNat 60)]), (6, [(.ofNat 1000001, .ofNat 2147483647)])], [((1, .ofNat 1, .ofNat 0), (3, .ofNat 3, .ofNat 0), (4, .ofNat 1, .ofNat 0))], []),
  (0, [], [.inl (false, (0, .ofNat 0, .negSucc 20))], [(2, 1, (0, .ofNat 0, .negSucc 0), (0, .ofNat 0, .ofNat 0), (0, .ofNat 0, .ofNat 0)), (2, 0, (0, .ofNat 0, .ofNat 0), (0, .ofNat 0, .ofNat 0), (0, .ofNat 0, .ofNat 0)), (2, 2, (7, .ofNat 1, .ofNat 0), (0, .ofNat 0, .ofNat 0), (0, .ofNat 0, .ofNat 0)), (2, 5, (6, .ofNat 1, .ofNat 0), (0, .ofNat 0, .ofNat 1000000), (0, .ofNat 0, .ofNat 0)), (2, 3, (6, .ofNat 1, .ofNat 0), (0, .ofNat 0, .ofNat 1), (0, .ofNat 0, .ofNat 0)), (0, 121, (4, .ofNat 1, .ofNat 2), (8, .ofNat 1, .ofNat 0), (0, .ofNat 0, .ofNat 0)), (0, 121, (4, .ofNat 1, .ofNat 1), (7, .ofNat 1, .ofNat 0), (0, .ofNat 0, .ofNat 0)), (0, 121, (4, .ofNat 1, .ofNat 0), (6, .ofNat 1, .ofNat 0), (0, .ofNat 0, .ofNat 0)), (2, 1, (0, .ofNat 0, .ofNat 1), (0, .ofNat 0, .ofNat 0), (0, .ofNat 0, .ofNat 0)), (2, 5, (4, .ofNat 1, .ofNat 0), (5, .ofNat 1, .negSucc 2), (0, .ofNat 0, .ofNat 0)), (0, 120, (0, .ofNat 0, .ofNat 0), (5, .ofNat 1, .ofNat 0), (0, .ofNat 0, .ofNat 0)), (2, 3, (4, .ofNat 1, .ofNat 0), (0, .ofNat 0, .ofNat 0), (0, .ofNat 0, .ofNat 0)), (2, 3, (1, .ofNat 1, .ofNat 0), (0, .ofNat 0, .ofNat 0), (0, .ofNat 0, .ofNat 0)), (2, 2, (3, .ofNat 1, .ofNat 0), (2, .ofNat 1, .ofNat 0), (0, .ofNat 0, .ofNat 0))], [(1, [(.ofNat 0, .ofNat 57)]), (2, [(.ofNat 1, .ofNat 16)]), (3, [(.ofNat 0, .ofNat 15)]), (4, [(.ofNat 0, .ofNat 57)]), (5, [(.ofNat 3, .ofNat 60)]), (6, [(.ofNat 1, .ofNat 1000000)]), (7, [(.negSucc 2147483647, .negSucc 0)])], [((1, .ofNat 1, .ofNat 0), (3, .ofNat 3, .ofNat 0), (4, .ofNat 1, .ofNat 0))], []),
  (0, [], [.inl (false, (0, .ofNat 0, .negSucc 20))], [(2, 1, (0, .ofNat 0, .negSucc 0), (0, .ofNat 0, .ofNat 0), (0, .ofNat 0, .ofNat 0)), (2, 0, (0, .ofNat 0, .ofNat 0), (0, .ofNat 0, .ofNat 0), (0, .ofNat 0, .ofNat 0)), (2, 4, (7, .ofNat 1, .ofNat 0), (0, .ofNat 0, .ofNat 1000), (0, .ofNat 0, .ofNat 0)), (2, 3, (7, .ofNat 1, .ofNat 0), (0, .ofNat 0, .ofNat 0), (0, .ofNat 0, .ofNat 0)), (2, 5, (6, .ofNat 1, .ofNat 0), (0, .ofNat 0, .ofNat 1000000), (0, .ofNat 0, .ofNat 0)), (2, 3, (6, .ofNat 1, .ofNat 0), (0, .ofNat 0, .ofNat 1), (0, .ofNat 0, .ofNat 0)), (0, 121, (4, .ofNat 1, .ofNat 2), (8, .ofNat 1, .ofNat 0), (0, .ofNat 0, .ofNat 0)), (0, 121, (4, .ofNat 1, .ofNat 1), (7, .ofNat 1, .ofNat 0), (0, .ofNat 0, .ofNat 0)), (0, 121, (4, .ofNat 1, .ofNat 0), (6, .ofNat 1, .ofNat 0), (0, .ofNat 0, .ofNat 0)), (2, 1, (0, .ofNat 0, .ofNat 1), (0, .ofNat 0, .ofNat 0), (0, .ofNat 0, .ofNat 0)), (2, 5, (4, .ofNat 1, .ofNat 0), (5, .ofNat 1, .negSucc 2), (0, .ofNat 0, .ofNat 0)), (0, 120, (0, .ofNat 0, .ofNat 0), (5, .ofNat 1, .ofNat 0), (0, .ofNat 0, .ofNat 0)), (2, 3, (4, .ofNat 1, .ofNat 0), (0, .ofNat 0, .ofNat 0), (0, .ofNat 0, .ofNat 0)), (2, 3, (1, .ofNat 1, .ofNat 0), (0, .ofNat 0, .ofNat 0), (0, .ofNat 0, .ofNat 0)), (2, 2, (3, .ofNat 1, .ofNat 0), (2, .ofNat 1, .ofNat 0), (0, .ofNat 0, .ofNat 0))], [(1, [(.ofNat 0, .ofNat 57)]), (2, [(.ofNat 1, .ofNat 16)]), (3, [(.ofNat 0, .ofNat 15)]), (4, [(.ofNat 0, .ofNat 57)]), (5, [(.ofNat 3, .ofNat 60)]), (6, [(.ofNat 1, .ofNat 1000000)]), (7, [(.ofNat 1001, .ofNat 2147483647)])], [((1, .ofNat 1, .ofNat 0), (3, .ofNat 3, .ofNat 0), (4, .ofNat 1, .ofNat 0))], []),
  (0, [], [.inl (false, (0, .ofNat 0, .negSucc 20))], [(2, 1, (0, .ofNat 0, .negSucc 0), (0, .ofNat 0, .ofNat 0), (0, .ofNat 0, .ofNat 0)), (2, 0, (0, .ofNat 0, .ofNat 0), (0, .ofNat 0, .ofNat 0), (0, .ofNat 0, .ofNat 0)), (2, 2, (8, .ofNat 1, .ofNat 0), (0, .ofNat 0, .ofNat 0), (0, .ofNat 0, .ofNat 0)), (2, 5, (7, .ofNat 1, .ofNat 0), (0, .ofNat 0, .ofNat 1000), (0, .ofNat 0, .ofNat 0)), (2, 3, (7, .ofNat 1, .ofNat 0), (0, .ofNat 0, .ofNat 0), (0, .ofNat 0, .ofNat 0)), (2, 5, (6, .ofNat 1, .ofNat 0), (0, .ofNat 0, .ofNat 1000000), (0, .ofNat 0, .ofNat 0)), (2, 3, (6, .ofNat 1, .ofNat 0), (0, .ofNat 0, .ofNat 1), (0, .ofNat 0, .ofNat 0)), (0, 121, (4, .ofNat 1, .ofNat 2), (8, .ofNat 1, .ofNat 0), (0, .ofNat 0, .ofNat 0)), (0, 121, (4, .ofNat 1, .ofNat 1), (7, .ofNat 1, .ofNat 0), (0, .ofNat 0, .ofNat 0)), (0, 121, (4, .ofNat 1, .ofNat 0), (6, .ofNat 1, .ofNat 0), (0, .ofNat 0, .ofNat 0)), (2, 1, (0, .ofNat 0, .ofNat 1), (0, .ofNat 0, .ofNat 0), (0, .ofNat 0, .ofNat 0)), (2, 5, (4, .ofNat 1, .ofNat 0), (5, .ofNat 1, .negSucc 2), (0, .ofNat 0, .ofNat 0)), (0, 120, (0, .ofNat 0, .ofNat 0), (5, .ofNat 1, .ofNat 0), (0, .ofNat 0, .ofNat 0)), (2, 3, (4, .ofNat 1, .ofNat 0), (0, .ofNat 0, .ofNat 0), (0, .ofNat 0, .ofNat 0)), (2, 3, (1, .ofNat 1, .ofNat 0), (0, .ofNat 0, .ofNat 0), (0, .ofNat 0, .ofNat 0)), (2, 2, (3, .ofNat 1, .ofNat 0), (2, .ofNat 1, .ofNat 0), (0, .ofNat 0, .ofNat 0))], [(1, [(.ofNat 0, .ofNat 57)]), (2, [(.ofNat 1, .ofNat 16)]), (3, [(.ofNat 0, .ofNat 15)]), (4, [(.ofNat 0, .ofNat 57)]), (5, [(.ofNat 3, .ofNat 60)]), (6, [(.ofNat 1, .ofNat 1000000)]), (7, [(.ofNat 0, .ofNat 1000)]), (8, [(.negSucc 2147483647, .negSucc 0)])], [((1, .ofNat 1, .ofNat 0), (3, .ofNat 3, .ofNat 0), (4, .ofNat 1, .ofNat 0))], []),
  (0, [], [.inl (false, (0, .ofNat 0, .negSucc 20))], [(2, 1, (0, .ofNat 0, .negSucc 0), (0, .ofNat 0, .ofNat 0), (0, .ofNat 0, .ofNat 0)), (2, 0, (0, .ofNat 0, .ofNat 0), (0, .ofNat 0, .ofNat 0), (0, .ofNat 0, .ofNat 0)), (2, 4, (8, .ofNat 1, .ofNat 0), (0, .ofNat 0, .ofNat 999), (0, .ofNat 0, .ofNat 0)), (2, 3, (8, .ofNat 1, .ofNat 0), (0, .ofNat 0, .ofNat 0), (0, .ofNat 0, .ofNat 0)), (2, 5, (7, .ofNat 1, .ofNat 0), (0, .ofNat 0, .ofNat 1000), (0, .ofNat 0, .ofNat 0)), (2, 3, (7, .ofNat 1, .ofNat 0), (0, .ofNat 0, .ofNat 0), (0, .ofNat 0, .ofNat 0)), (2, 5, (6, .ofNat 1, .ofNat 0), (0, .ofNat 0, .ofNat 1000000), (0, .ofNat 0, .ofNat 0)), (2, 3, (6, .ofNat 1, .ofNat 0), (0, .ofNat 0, .ofNat 1), (0, .ofNat 0, .ofNat 0)), (0, 121, (4, .ofNat 1, .ofNat 2), (8, .ofNat 1, .ofNat 0), (0, .ofNat 0, .ofNat 0)), (0, 121, (4, .ofNat 1, .ofNat 1), (7, .ofNat 1, .ofNat 0), (0, .ofNat 0, .ofNat 0)), (0, 121, (4, .ofNat 1, .ofNat 0), (6, .ofNat 1, .ofNat 0), (0, .ofNat 0, .ofNat 0)), (2, 1, (0, .ofNat 0, .ofNat 1), (0, .ofNat 0, .ofNat 0), (0, .ofNat 0, .ofNat 0)), (2, 5, (4, .ofNat 1, .ofNat 0), (5, .ofNat 1, .negSucc 2), (0, .ofNat 0, .ofNat 0)), (0, 120, (0, .ofNat 0, .ofNat 0), (5, .ofNat 1, .ofNat 0), (0, .ofNat 0, .ofNat 0)), (2, 3, (4, .ofNat 1, .ofNat 0), (0, .ofNat 0, .ofNat 0), (0, .ofNat 0, .ofNat 0)), (2, 3, (1, .ofNat 1, .ofNat 0), (0, .ofNat 0, .ofNat 0), (0, .ofNat 0, .ofNat 0)), (2, 2, (3, .ofNat 1, .ofNat 0), (2, .ofNat 1, .ofNat 0), (0, .ofNat 0, .ofNat 0))], [(1, [(.ofNat 0, .ofNat 57)]), (2, [(.ofNat 1, .ofNat 16)]), (3, [(.ofNat 0, .ofNat 15)]), (4, [(.ofNat 0, .ofNat 57)]), (5, [(.ofNat 3, .ofNat 60)]), (6, [(.ofNat 1, .ofNat 1000000)]), (7, [(.ofNat 0, .ofNat 1000)]), (8, [(.ofNat 1000, .ofNat 2147483647)])], [((1, .ofNat 1, .ofNat 0), (3, .ofNat 3, .ofNat 0), (4, .ofNat 1, .ofNat 0))], []),
  (4, [(0, .inr (.inl [0])), (1, .inr (.inl [120])), (2, .inl (false, (1, .ofNat 1, .ofNat 0))), (3, .inl (false, (2, .ofNat 1, .ofNat 0))), (4, .inl (false, (3, .ofNat 1, .ofNat 1))), (5, .inl (false, (4, .ofNat 1, .ofNat 0))), (6, .inl (false, (0, .ofNat 0, .ofNat 0)))], [], [(2, 0, (0, .ofNat 0, .ofNat 0), (0, .ofNat 0, .ofNat 0), (0, .ofNat 0, .ofNat 0)), (2, 2, (10, .ofNat 1, .ofNat 0), (0, .ofNat 0, .ofNat 16), (0, .ofNat 0, .ofNat 0)), (0, 6, (0, .ofNat 0, .ofNat 0), (9, .ofNat 1, .ofNat 0), (0, .ofNat 0, .ofNat 0)), (2, 1, (0, .ofNat 0, .ofNat 1), (0, .ofNat 0, .ofNat 0), (0, .ofNat 0, .ofNat 0)), (2, 5, (8, .ofNat 1, .ofNat 0), (0, .ofNat 0, .ofNat 999), (0, .ofNat 0, .ofNat 0)), (2, 3, (8, .ofNat 1, .ofNat 0), (0, .ofNat 0, .ofNat 0), (0, .ofNat 0, .ofNat 0)), (2, 5, (7, .ofNat 1, .ofNat 0), (0, .ofNat 0, .ofNat 1000), (0, .ofNat 0, .ofNat 0)), (2, 3, (7, .ofNat 1, .ofNat 0), (0, .ofNat 0, .ofNat 0), (0, .ofNat 0, .ofNat 0)), (2, 5, (6, .ofNat 1, .ofNat 0), (0, .ofNat 0, .ofNat 1000000), (0, .ofNat 0, .ofNat 0)), (2, 3, (6, .ofNat 1, .ofNat 0), (0, .ofNat 0, .ofNat 1), (0, .ofNat 0, .ofNat 0)), (0, 121, (4, .ofNat 1, .ofNat 2), (8, .ofNat 1, .ofNat 0), (0, .ofNat 0, .ofNat 0)), (0, 121, (4, .ofNat 1, .ofNat 1), (7, .ofNat 1, .ofNat 0), (0, .ofNat 0, .ofNat 0)), (0, 121, (4, .ofNat 1, .ofNat 0), (6, .ofNat 1, .ofNat 0), (0, .ofNat 0, .ofNat 0)), (2, 1, (0, .ofNat 0, .ofNat 1), (0, .ofNat 0, .ofNat 0), (0, .ofNat 0, .ofNat 0)), (2, 5, (4, .ofNat 1, .ofNat 0), (5, .ofNat 1, .negSucc 2), (0, .ofNat 0, .ofNat 0)), (0, 120, (0, .ofNat 0, .ofNat 0), (5, .ofNat 1, .ofNat 0), (0, .ofNat 0, .ofNat 0)), (2, 3, (4, .ofNat 1, .ofNat 0), (0, .ofNat 0, .ofNat 0), (0, .ofNat 0, .ofNat 0)), (2, 3, (1, .ofNat 1, .ofNat 0), (0, .ofNat 0, .ofNat 0), (0, .ofNat 0, .ofNat 0)), (2, 2, (3, .ofNat 1, .ofNat 0), (2, .ofNat 1, .ofNat 0), (0, .ofNat 0, .ofNat 0))], [(1, [(.ofNat 0, .ofNat 57)]), (2, [(.ofNat 1, .ofNat 16)]), (3, [(.ofNat 0, .ofNat 15)]), (4, [(.ofNat 0, .ofNat 57)]), (5, [(.ofNat 3, .ofNat 60)]), (6, [(.ofNat 1, .ofNat 1000000)]), (7, [(.ofNat 0, .ofNat 1000)]), (8, [(.ofNat 0, .ofNat 999)]), (9, [(.ofNat 0, .ofNat 16)]), (10, [(.ofNat 0, .ofNat 15)])], [((9, .ofNat 1, .ofNat 0), (3, .ofNat 1, .ofNat 0), (10, .ofNat 1, .ofNat 0)), ((1, .ofNat 1, .ofNat 0), (3, .ofNat 3, .ofNat 0), (4, .ofNat 1, .ofNat 0))], []),
  (0, [], [.inl (false, (0, .ofNat 0, .negSucc 22))], [(2, 1, (0, .ofNat 0, .negSucc 2), (0, .ofNat 0, .ofNat 0), (0, .ofNat 0, .ofNat 0)), (2, 3, (10, .ofNat 1, .ofNat 0), (0, .ofNat 0, .ofNat 16), (0, .ofNat 0, .ofNat 0)), (0, 6, (0, .ofNat 0, .ofNat 0), (9, .ofNat 1, .ofNat 0), (0, .ofNat 0, .ofNat 0)), (2, 1, (0, .ofNat 0, .ofNat 1), (0, .ofNat 0, .ofNat 0), (0, .ofNat 0, .ofNat 0)), (2, 5, (8, .ofNat 1, .ofNat 0), (0, .ofNat 0, .ofNat 999), (0, .ofNat 0, .ofNat 0)), (2, 3, (8, .ofNat 1, .ofNat 0), (0, .ofNat 0, .ofNat 0), (0, .ofNat 0, .ofNat 0)), (2, 5, (7, .ofNat 1, .ofNat 0), (0, .ofNat 0, .ofNat 1000), (0, .ofNat 0, .ofNat 0)), (2, 3, (7, .ofNat 1, .ofNat 0), (0, .ofNat 0, .ofNat 0), (0, .ofNat 0, .ofNat 0)), (2, 5, (6, .ofNat 1, .ofNat 0), (0, .ofNat 0, .ofNat 1000000), (0, .ofNat 0, .ofNat 0)), (2, 3, (6, .ofNat 1, .ofNat 0), (0, .ofNat 0, .ofNat 1), (0, .ofNat 0, .ofNat 0)), (0, 121, (4, .ofNat 1, .ofNat 2), (8, .ofNat 1, .ofNat 0), (0, .ofNat 0, .ofNat 0)), (0, 121, (4, .ofNat 1, .ofNat 1), (7, .ofNat 1, .ofNat 0), (0, .ofNat 0, .ofNat 0)), (0, 121, (4, .ofNat 1, .ofNat 0), (6, .ofNat 1, .ofNat 0), (0, .ofNat 0, .ofNat 0)), (2, 1, (0, .ofNat 0, .ofNat 1), (0, .ofNat 0, .ofNat 0), (0, .ofNat 0, .ofNat 0)), (2, 5, (4, .ofNat 1, .ofNat 0), (5, .ofNat 1, .negSucc 2), (0, .ofNat 0, .ofNat 0)), (0, 120, (0, .ofNat 0, .ofNat 0), (5, .ofNat 1, .ofNat 0), (0, .ofNat 0, .ofNat 0)), (2, 3, (4, .ofNat 1, .ofNat 0), (0, .ofNat 0, .ofNat 0), (0, .ofNat 0, .ofNat 0)), (2, 3, (1, .ofNat 1, .ofNat 0), (0, .ofNat 0, .ofNat 0), (0, .ofNat 0, .ofNat 0)), (2, 2, (3, .ofNat 1, .ofNat 0), (2, .ofNat 1, .ofNat 0), (0, .ofNat 0, .ofNat 0))], [(1, [(.ofNat 0, .ofNat 57)]), (2, [(.ofNat 1, .ofNat 16)]), (3, [(.ofNat 0, .ofNat 15)]), (4, [(.ofNat 0, .ofNat 57)]), (5, [(.ofNat 3, .ofNat 60)]), (6, [(.ofNat 1, .ofNat 1000000)]), (7, [(.ofNat 0, .ofNat 1000)]), (8, [(.ofNat 0, .ofNat 999)]), (9, [(.ofNat 0, .ofNat 16)]), (10, [(.ofNat 16, .ofNat 31)])], [((9, .ofNat 1, .ofNat 0), (3, .ofNat 1, .ofNat 0), (10, .ofNat 1, .ofNat 0)), ((1, .ofNat 1, .ofNat 0), (3, .ofNat 3, .ofNat 0), (4, .ofNat 1, .ofNat 0))], [])]
set_option maxRecDepth 1000000 in
theorem sg_sr_x3c_g : sg_go [] [3] 3000 155 3 1 4 [(0, [(.ofNat 0, .ofNat 0)]), (1, [(.ofNat 0, .ofNat 57)]), (2, [(.ofNat 0, .ofNat 16)]), (3, [(.ofNat 0, .ofNat 16)])] [] [] [] [(0, .inr (.inl [0])), (1, .inr (.inl [120])), (2, .inl (false, (1, .ofNat 1, .ofNat 0))), (3, .inl (false, (2, .ofNat 1, .ofNat 0))), (4, .inl (false, (3, .ofNat 1, .ofNat 0)))] [] [] sg_sr_x3c_Z = true := by decide +kernel
theorem sg_sr_x3c {Q : Option Value × am_S → Prop} {d : Nat} {S : am_S} {L : am_L} {x1 x2 x3 : Int} (hd : 1 ≤ d) (hP : ax_P0 none S) (l0 : lc L 0 0) (l1 : lc L 1 120) (l2 : li L 2 x1) (l3 : li L 3 x2) (l4 : li L 4 x3) (b1 : (0 ≤ x1 ∧ x1 ≤ 57)) (b2 : (0 ≤ x2 ∧ x2 ≤ 16)) (b3 : (0 ≤ x3 ∧ x3 ≤ 16))
    (k0 : ∀ (i1 : Int32), x2 ≤ x3 → (0 ≤ x1 ∧ x1 ≤ 57) → (0 ≤ x2 ∧ x2 ≤ 16) → (0 ≤ x3 ∧ x3 ≤ 16) → i1.toInt = 0 → Q (some (.int i1), S))
    (k1 : ∀ (x4 x5 : Int) (i1 : Int32), x3 < x2 → 0 ≤ x1 → 0 ≤ x4 → rd S 120 0 = x5 → x5 + (-3) < x4 → (0 ≤ x1 ∧ x1 ≤ 57) → (1 ≤ x2 ∧ x2 ≤ 16) → (0 ≤ x3 ∧ x3 ≤ 15) → (0 ≤ x4 ∧ x4 ≤ 102) → (0 ≤ x5 ∧ x5 ≤ 60) → x1 + (3 * x3 + 0) = x4 → i1.toInt = (-12) → Q (some (.int i1), S))
    (k2 : ∀ (x4 x5 x6 x7 x8 : Int) (i1 : Int32), x3 < x2 → 0 ≤ x1 → 0 ≤ x4 → rd S 120 0 = x5 → x4 ≤ x5 + (-3) → rd S 121 x4 = x6 → rd S 121 (x4 + 1) = x7 → rd S 121 (x4 + 2) = x8 → x6 < 1 → (0 ≤ x1 ∧ x1 ≤ 57) → (1 ≤ x2 ∧ x2 ≤ 16) → (0 ≤ x3 ∧ x3 ≤ 15) → (0 ≤ x4 ∧ x4 ≤ 57) → (3 ≤ x5 ∧ x5 ≤ 60) → ((-2147483648) ≤ x6 ∧ x6 ≤ 0) → x1 + (3 * x3 + 0) = x4 → i1.toInt = (-21) → Q (some (.int i1), S))
    (k3 : ∀ (x4 x5 x6 x7 x8 : Int) (i1 : Int32), x3 < x2 → 0 ≤ x1 → 0 ≤ x4 → rd S 120 0 = x5 → x4 ≤ x5 + (-3) → rd S 121 x4 = x6 → rd S 121 (x4 + 1) = x7 → rd S 121 (x4 + 2) = x8 → 1 ≤ x6 → 1000000 < x6 → (0 ≤ x1 ∧ x1 ≤ 57) → (1 ≤ x2 ∧ x2 ≤ 16) → (0 ≤ x3 ∧ x3 ≤ 15) → (0 ≤ x4 ∧ x4 ≤ 57) → (3 ≤ x5 ∧ x5 ≤ 60) → (1000001 ≤ x6 ∧ x6 ≤ 2147483647) → x1 + (3 * x3 + 0) = x4 → i1.toInt = (-21) → Q (some (.int i1), S))
    (k4 : ∀ (x4 x5 x6 x7 x8 : Int) (i1 : Int32), x3 < x2 → 0 ≤ x1 → 0 ≤ x4 → rd S 120 0 = x5 → x4 ≤ x5 + (-3) → rd S 121 x4 = x6 → rd S 121 (x4 + 1) = x7 → rd S 121 (x4 + 2) = x8 → 1 ≤ x6 → x6 ≤ 1000000 → x7 < 0 → (0 ≤ x1 ∧ x1 ≤ 57) → (1 ≤ x2 ∧ x2 ≤ 16) → (0 ≤ x3 ∧ x3 ≤ 15) → (0 ≤ x4 ∧ x4 ≤ 57) → (3 ≤ x5 ∧ x5 ≤ 60) → (1 ≤ x6 ∧ x6 ≤ 1000000) → ((-2147483648) ≤ x7 ∧ x7 ≤ (-1)) → x1 + (3 * x3 + 0) = x4 → i1.toInt = (-21) → Q (some (.int i1), S))
    (k5 : ∀ (x4 x5 x6 x7 x8 : Int) (i1 : Int32), x3 < x2 → 0 ≤ x1 → 0 ≤ x4 → rd S 120 0 = x5 → x4 ≤ x5 + (-3) → rd S 121 x4 = x6 → rd S 121 (x4 + 1) = x7 → rd S 121 (x4 + 2) = x8 → 1 ≤ x6 → x6 ≤ 1000000 → 0 ≤ x7 → 1000 < x7 → (0 ≤ x1 ∧ x1 ≤ 57) → (1 ≤ x2 ∧ x2 ≤ 16) → (0 ≤ x3 ∧ x3 ≤ 15) → (0 ≤ x4 ∧ x4 ≤ 57) → (3 ≤ x5 ∧ x5 ≤ 60) → (1 ≤ x6 ∧ x6 ≤ 1000000) → (1001 ≤ x7 ∧ x7 ≤ 2147483647) → x1 + (3 * x3 + 0) = x4 → i1.toInt = (-21) → Q (some (.int i1), S))
    (k6 : ∀ (x4 x5 x6 x7 x8 : Int) (i1 : Int32), x3 < x2 → 0 ≤ x1 → 0 ≤ x4 → rd S 120 0 = x5 → x4 ≤ x5 + (-3) → rd S 121 x4 = x6 → rd S 121 (x4 + 1) = x7 → rd S 121 (x4 + 2) = x8 → 1 ≤ x6 → x6 ≤ 1000000 → 0 ≤ x7 → x7 ≤ 1000 → x8 < 0 → (0 ≤ x1 ∧ x1 ≤ 57) → (1 ≤ x2 ∧ x2 ≤ 16) → (0 ≤ x3 ∧ x3 ≤ 15) → (0 ≤ x4 ∧ x4 ≤ 57) → (3 ≤ x5 ∧ x5 ≤ 60) → (1 ≤ x6 ∧ x6 ≤ 1000000) → (0 ≤ x7 ∧ x7 ≤ 1000) → ((-2147483648) ≤ x8 ∧ x8 ≤ (-1)) → x1 + (3 * x3 + 0) = x4 → i1.toInt = (-21) → Q (some (.int i1), S))
    (k7 : ∀ (x4 x5 x6 x7 x8 : Int) (i1 : Int32), x3 < x2 → 0 ≤ x1 → 0 ≤ x4 → rd S 120 0 = x5 → x4 ≤ x5 + (-3) → rd S 121 x4 = x6 → rd S 121 (x4 + 1) = x7 → rd S 121 (x4 + 2) = x8 → 1 ≤ x6 → x6 ≤ 1000000 → 0 ≤ x7 → x7 ≤ 1000 → 0 ≤ x8 → 999 < x8 → (0 ≤ x1 ∧ x1 ≤ 57) → (1 ≤ x2 ∧ x2 ≤ 16) → (0 ≤ x3 ∧ x3 ≤ 15) → (0 ≤ x4 ∧ x4 ≤ 57) → (3 ≤ x5 ∧ x5 ≤ 60) → (1 ≤ x6 ∧ x6 ≤ 1000000) → (0 ≤ x7 ∧ x7 ≤ 1000) → (1000 ≤ x8 ∧ x8 ≤ 2147483647) → x1 + (3 * x3 + 0) = x4 → i1.toInt = (-21) → Q (some (.int i1), S))
    (k8 : ∀ (x4 x5 x6 x7 x8 x9 x10 : Int) (L' : am_L), x3 < x2 → 0 ≤ x1 → 0 ≤ x4 → rd S 120 0 = x5 → x4 ≤ x5 + (-3) → rd S 121 x4 = x6 → rd S 121 (x4 + 1) = x7 → rd S 121 (x4 + 2) = x8 → 1 ≤ x6 → x6 ≤ 1000000 → 0 ≤ x7 → x7 ≤ 1000 → 0 ≤ x8 → x8 ≤ 999 → rd S 6 0 = x9 → x10 < 16 → (0 ≤ x1 ∧ x1 ≤ 57) → (1 ≤ x2 ∧ x2 ≤ 16) → (0 ≤ x3 ∧ x3 ≤ 15) → (0 ≤ x4 ∧ x4 ≤ 57) → (3 ≤ x5 ∧ x5 ≤ 60) → (1 ≤ x6 ∧ x6 ≤ 1000000) → (0 ≤ x7 ∧ x7 ≤ 1000) → (0 ≤ x8 ∧ x8 ≤ 999) → (0 ≤ x9 ∧ x9 ≤ 16) → (0 ≤ x10 ∧ x10 ≤ 15) → x9 + x3 = x10 → x1 + (3 * x3 + 0) = x4 → lc L' 0 0 → lc L' 1 120 → li L' 2 x1 → li L' 3 x2 → li L' 4 (x3 + 1) → li L' 5 x4 → li L' 6 0 → am_V none d 155 3 L' ([]) S Q)
    (k9 : ∀ (x4 x5 x6 x7 x8 x9 x10 : Int) (i1 : Int32), x3 < x2 → 0 ≤ x1 → 0 ≤ x4 → rd S 120 0 = x5 → x4 ≤ x5 + (-3) → rd S 121 x4 = x6 → rd S 121 (x4 + 1) = x7 → rd S 121 (x4 + 2) = x8 → 1 ≤ x6 → x6 ≤ 1000000 → 0 ≤ x7 → x7 ≤ 1000 → 0 ≤ x8 → x8 ≤ 999 → rd S 6 0 = x9 → 16 ≤ x10 → (0 ≤ x1 ∧ x1 ≤ 57) → (1 ≤ x2 ∧ x2 ≤ 16) → (0 ≤ x3 ∧ x3 ≤ 15) → (0 ≤ x4 ∧ x4 ≤ 57) → (3 ≤ x5 ∧ x5 ≤ 60) → (1 ≤ x6 ∧ x6 ≤ 1000000) → (0 ≤ x7 ∧ x7 ≤ 1000) → (0 ≤ x8 ∧ x8 ≤ 999) → (0 ≤ x9 ∧ x9 ≤ 16) → (16 ≤ x10 ∧ x10 ≤ 31) → x9 + x3 = x10 → x1 + (3 * x3 + 0) = x4 → i1.toInt = (-23) → Q (some (.int i1), S)) : am_V none d 155 3 L ([]) S Q := by
  refine sg_use sg_sr_x3c_g hd hP (sg_xs [0, x1, x2, x3]) ⟨⟨Int.le_refl 0, Int.le_refl 0⟩, b1, b2, b3, trivial⟩ trivial trivial trivial ⟨l0, l1, l2, l3, l4, trivial⟩ trivial ?_
  intro z hz x' L' st' S' hx hP' hW hL' hs' hJ hE' hT' hD'
  have q1 : x' 1 = x1 := hx 1 (by decide)
  subst q1
  have q2 : x' 2 = x2 := hx 2 (by decide)
  subst q2
  have q3 : x' 3 = x3 := hx 3 (by decide)
  subst q3
  have eS : S' = S := hW.1 rfl
  subst eS
  simp only [sg_sr_x3c_Z, List.mem_cons, List.not_mem_nil, or_false] at hz
  rcases hz with rfl | rfl | rfl | rfl | rfl | rfl | rfl | rfl | rfl | rfl
  · obtain ⟨f0, hσ⟩ := hJ
    obtain ⟨e0, e1, e2, -⟩ := hE'
    intro v hv
    subst hv
    cases v with
    | none => exact hs'.elim
    | some v1 =>
      obtain ⟨⟨i1, rfl, g1⟩, -⟩ := hs'
      exact k0 i1 f0 e0 e1 e2 g1
  · obtain ⟨f0, f1, f2, f3, f4, -, hσ⟩ := hJ
    obtain ⟨e0, e1, e2, e3, e4, -⟩ := hE'
    obtain ⟨t0, -⟩ := hT'
    intro v hv
    subst hv
    cases v with
    | none => exact hs'.elim
    | some v1 =>
      obtain ⟨⟨i1, rfl, g1⟩, -⟩ := hs'
      exact k1 (x' 4) (x' 5) i1 f0 f1 f2 f3 f4 e0 e1 e2 e3 e4 t0 g1
  · obtain ⟨f0, f1, f2, f3, f4, -, f6, f7, f8, f9, -, -, hσ⟩ := hJ
    obtain ⟨e0, e1, e2, e3, e4, e5, -⟩ := hE'
    obtain ⟨t0, -⟩ := hT'
    intro v hv
    subst hv
    cases v with
    | none => exact hs'.elim
    | some v1 =>
      obtain ⟨⟨i1, rfl, g1⟩, -⟩ := hs'
      exact k2 (x' 4) (x' 5) (x' 6) (x' 7) (x' 8) i1 f0 f1 f2 f3 f4 f6 f7 f8 f9 e0 e1 e2 e3 e4 e5 t0 g1
  · obtain ⟨f0, f1, f2, f3, f4, -, f6, f7, f8, f9, f10, -, -, hσ⟩ := hJ
    obtain ⟨e0, e1, e2, e3, e4, e5, -⟩ := hE'
    obtain ⟨t0, -⟩ := hT'
    intro v hv
    subst hv
    cases v with
    | none => exact hs'.elim
    | some v1 =>
      obtain ⟨⟨i1, rfl, g1⟩, -⟩ := hs'
      exact k3 (x' 4) (x' 5) (x' 6) (x' 7) (x' 8) i1 f0 f1 f2 f3 f4 f6 f7 f8 f9 f10 e0 e1 e2 e3 e4 e5 t0 g1
  · obtain ⟨f0, f1, f2, f3, f4, -, f6, f7, f8, f9, f10, f11, -, -, hσ⟩ := hJ
    obtain ⟨e0, e1, e2, e3, e4, e5, e6, -⟩ := hE'
    obtain ⟨t0, -⟩ := hT'
    intro v hv
    subst hv
    cases v with
    | none => exact hs'.elim
    | some v1 =>
      obtain ⟨⟨i1, rfl, g1⟩, -⟩ := hs'
      exact k4 (x' 4) (x' 5) (x' 6) (x' 7) (x' 8) i1 f0 f1 f2 f3 f4 f6 f7 f8 f9 f10 f11 e0 e1 e2 e3 e4 e5 e6 t0 g1
  · obtain ⟨f0, f1, f2, f3, f4, -, f6, f7, f8, f9, f10, f11, f12, -, -, hσ⟩ := hJ
    obtain ⟨e0, e1, e2, e3, e4, e5, e6, -⟩ := hE'
    obtain ⟨t0, -⟩ := hT'
    intro v hv
    subst hv
    cases v with
    | none => exact hs'.elim
    | some v1 =>
      obtain ⟨⟨i1, rfl, g1⟩, -⟩ := hs'
      exact k5 (x' 4) (x' 5) (x' 6) (x' 7) (x' 8) i1 f0 f1 f2 f3 f4 f6 f7 f8 f9 f10 f11 f12 e0 e1 e2 e3 e4 e5 e6 t0 g1
  · obtain ⟨f0, f1, f2, f3, f4, -, f6, f7, f8, f9, f10, f11, f12, f13, -, -, hσ⟩ := hJ
    obtain ⟨e0, e1, e2, e3, e4, e5, e6, e7, -⟩ := hE'
    obtain ⟨t0, -⟩ := hT'
    intro v hv
    subst hv
    cases v with
    | none => exact hs'.elim
    | some v1 =>
      obtain ⟨⟨i1, rfl, g1⟩, -⟩ := hs'
      exact k6 (x' 4) (x' 5) (x' 6) (x' 7) (x' 8) i1 f0 f1 f2 f3 f4 f6 f7 f8 f9 f10 f11 f12 f13 e0 e1 e2 e3 e4 e5 e6 e7 t0 g1
  · obtain ⟨f0, f1, f2, f3, f4, -, f6, f7, f8, f9, f10, f11, f12, f13, f14, -, -, hσ⟩ := hJ
    obtain ⟨e0, e1, e2, e3, e4, e5, e6, e7, -⟩ := hE'
    obtain ⟨t0, -⟩ := hT'
    intro v hv
    subst hv
    cases v with
    | none => exact hs'.elim
    | some v1 =>
      obtain ⟨⟨i1, rfl, g1⟩, -⟩ := hs'
      exact k7 (x' 4) (x' 5) (x' 6) (x' 7) (x' 8) i1 f0 f1 f2 f3 f4 f6 f7 f8 f9 f10 f11 f12 f13 f14 e0 e1 e2 e3 e4 e5 e6 e7 t0 g1
  · obtain ⟨f0, f1, f2, f3, f4, -, f6, f7, f8, f9, f10, f11, f12, f13, f14, -, f16, f17, -, hσ⟩ := hJ
    obtain ⟨e0, e1, e2, e3, e4, e5, e6, e7, e8, e9, -⟩ := hE'
    obtain ⟨t0, t1, -⟩ := hT'
    obtain ⟨p0, p1, p2, p3, p4, p5, p6, -⟩ := hL'
    obtain rfl := sg_tn hs'
    exact k8 (x' 4) (x' 5) (x' 6) (x' 7) (x' 8) (x' 9) (x' 10) L' f0 f1 f2 f3 f4 f6 f7 f8 f9 f10 f11 f12 f13 f14 f16 f17 e0 e1 e2 e3 e4 e5 e6 e7 e8 e9 t0 t1 p0 p1 p2 p3 p4 p5 p6
  · obtain ⟨f0, f1, f2, f3, f4, -, f6, f7, f8, f9, f10, f11, f12, f13, f14, -, f16, f17, -, hσ⟩ := hJ
    obtain ⟨e0, e1, e2, e3, e4, e5, e6, e7, e8, e9, -⟩ := hE'
    obtain ⟨t0, t1, -⟩ := hT'
    intro v hv
    subst hv
    cases v with
    | none => exact hs'.elim
    | some v1 =>
      obtain ⟨⟨i1, rfl, g1⟩, -⟩ := hs'
      exact k9 (x' 4) (x' 5) (x' 6) (x' 7) (x' 8) (x' 9) (x' 10) i1 f0 f1 f2 f3 f4 f6 f7 f8 f9 f10 f11 f12 f13 f14 f16 f17 e0 e1 e2 e3 e4 e5 e6 e7 e8 e9 t0 t1 g1
def sg_sc_x13_Z : List sg_z := [(89, [(0, .inr (.inl [0])), (1, .inl (false, (0, .ofNat 0, .ofNat 3))), (3, .inl (false, (2, .ofNat 1, .ofNat 0))), (4, .inl (false, (3, .ofNat 1, .ofNat 0))), (6, .inl (false, (0, .ofNat 0, .ofNat 0))), (7, .inr (.inl [121])), (8, .inl (false, (0, .ofNat 0, .ofNat 0)))], [], [(2, 0, (4, .ofNat 1, .ofNat 0), (0, .ofNat 0, .ofNat 0), (0, .ofNat 0, .ofNat 0))], [(1, [(.ofNat 3, .ofNat 3)]), (3, [(.ofNat 0, .ofNat 16)]), (4, [(.ofNat 0, .ofNat 0)])], [], []),
  (0, [], [.inl (false, (4, .ofNat 1, .ofNat 0))], [(2, 1, (4, .ofNat 1, .ofNat 0), (0, .ofNat 0, .ofNat 0), (0, .ofNat 0, .ofNat 0))], [(1, [(.ofNat 3, .ofNat 3)]), (3, [(.ofNat 0, .ofNat 16)]), (4, [(.negSucc 2147483647, .negSucc 0), (.ofNat 1, .ofNat 2147483647)])], [], [])]
set_option maxRecDepth 1000000 in
theorem sg_sc_x13_g : sg_go [] [88] 3000 140 64 0 5 [(0, [(.ofNat 0, .ofNat 0)]), (1, [(.ofNat 3, .ofNat 3)]), (2, [(.negSucc 2147483647, .ofNat 2147483647)]), (3, [(.ofNat 0, .ofNat 16)]), (4, [(.negSucc 2147483647, .ofNat 2147483647)])] [] [] [] [(0, .inr (.inl [0])), (1, .inl (false, (1, .ofNat 1, .ofNat 0))), (3, .inl (false, (2, .ofNat 1, .ofNat 0))), (4, .inl (false, (3, .ofNat 1, .ofNat 0)))] [.inl (false, (4, .ofNat 1, .ofNat 0))] [] sg_sc_x13_Z = true := by decide +kernel
theorem sg_sc_x13 {Q : Option Value × am_S → Prop} {d : Nat} {S : am_S} {L : am_L} {x1 x2 x3 x4 : Int} {i1 : Int32} (hd : 0 ≤ d) (hP : ax_P0 none S) (l0 : lc L 0 0) (l1 : li L 1 x1) (l3 : li L 3 x2) (l4 : li L 4 x3) (b1 : (3 ≤ x1 ∧ x1 ≤ 3)) (b2 : ((-2147483648) ≤ x2 ∧ x2 ≤ 2147483647)) (b3 : (0 ≤ x3 ∧ x3 ≤ 16)) (b4 : ((-2147483648) ≤ x4 ∧ x4 ≤ 2147483647)) (s1 : i1.toInt = x4)
    (k0 : ∀ (L' : am_L), x4 = 0 → (3 ≤ x1 ∧ x1 ≤ 3) → (0 ≤ x3 ∧ x3 ≤ 16) → (0 ≤ x4 ∧ x4 ≤ 0) → lc L' 0 0 → li L' 1 3 → li L' 3 x2 → li L' 4 x3 → li L' 6 0 → lc L' 7 121 → li L' 8 0 → am_V none d 140 88 L' ([]) S Q)
    (k1 : ∀ (i1 : Int32), x4 ≠ 0 → (3 ≤ x1 ∧ x1 ≤ 3) → (0 ≤ x3 ∧ x3 ≤ 16) → ((-2147483648) ≤ x4 ∧ x4 ≤ (-1)) ∨ (1 ≤ x4 ∧ x4 ≤ 2147483647) → i1.toInt = x4 → Q (some (.int i1), S)) : am_V none d 140 64 L ((.int i1) :: []) S Q := by
  refine sg_use sg_sc_x13_g hd hP (sg_xs [0, x1, x2, x3, x4]) ⟨⟨Int.le_refl 0, Int.le_refl 0⟩, b1, b2, b3, b4, trivial⟩ trivial trivial trivial ⟨l0, l1, l3, l4, trivial⟩ ⟨⟨_, rfl, s1⟩, trivial⟩ ?_
  intro z hz x' L' st' S' hx hP' hW hL' hs' hJ hE' hT' hD'
  have q1 : x' 1 = x1 := hx 1 (by decide)
  subst q1
  have q2 : x' 2 = x2 := hx 2 (by decide)
  subst q2
  have q3 : x' 3 = x3 := hx 3 (by decide)
  subst q3
  have q4 : x' 4 = x4 := hx 4 (by decide)
  subst q4
  have eS : S' = S := hW.1 rfl
  subst eS
  simp only [sg_sc_x13_Z, List.mem_cons, List.not_mem_nil, or_false] at hz
  rcases hz with rfl | rfl
  · obtain ⟨f0, hσ⟩ := hJ
    obtain ⟨e0, e1, e2, -⟩ := hE'
    obtain ⟨p0, p1, p2, p3, p4, p5, p6, -⟩ := hL'
    obtain rfl := sg_tn hs'
    exact k0 L' f0 e0 e1 e2 p0 p1 p2 p3 p4 p5 p6
  · obtain ⟨f0, hσ⟩ := hJ
    obtain ⟨e0, e1, e2, -⟩ := hE'
    intro v hv
    subst hv
    cases v with
    | none => exact hs'.elim
    | some v1 =>
      obtain ⟨⟨i1, rfl, g1⟩, -⟩ := hs'
      exact k1 i1 f0 e0 e1 e2 g1
def sg_sc_x23_Z : List sg_z := [(0, [], [.inl (false, (4, .ofNat 1, .ofNat 0))], [(0, 6, (0, .ofNat 0, .ofNat 0), (4, .ofNat 1, .ofNat 0), (0, .ofNat 0, .ofNat 0)), (2, 3, (3, .ofNat 1, .ofNat 0), (2, .ofNat 1, .ofNat 0), (0, .ofNat 0, .ofNat 0))], [(1, [(.ofNat 0, .ofNat 57)]), (2, [(.ofNat 0, .ofNat 16)]), (3, [(.ofNat 0, .ofNat 16)]), (4, [(.ofNat 0, .ofNat 15)]), (5, [(.ofNat 0, .ofNat 57)]), (6, [(.ofNat 1, .ofNat 1000000)]), (7, [(.ofNat 0, .ofNat 1000)]), (8, [(.ofNat 0, .ofNat 999)])], [], []),
  (89, [(0, .inr (.inl [0])), (3, .inl (false, (1, .ofNat 1, .ofNat 0))), (4, .inl (false, (2, .ofNat 1, .ofNat 0))), (7, .inr (.inl [121])), (8, .inl (false, (3, .ofNat 1, .ofNat 1))), (9, .inl (false, (5, .ofNat 1, .ofNat 0)))], [], [(0, 6, (0, .ofNat 0, .ofNat 0), (4, .ofNat 1, .ofNat 1), (0, .ofNat 0, .ofNat 0)), (1, 6, (0, .ofNat 0, .ofNat 0), (4, .ofNat 1, .ofNat 1), (0, .ofNat 0, .ofNat 0)), (0, 6, (0, .ofNat 0, .ofNat 0), (4, .ofNat 1, .ofNat 0), (0, .ofNat 0, .ofNat 0)), (1, 12, (4, .ofNat 1, .ofNat 0), (0, .ofNat 0, .negSucc 3), (0, .ofNat 0, .ofNat 0)), (1, 11, (4, .ofNat 1, .ofNat 0), (0, .ofNat 0, .negSucc 3), (0, .ofNat 0, .ofNat 0)), (0, 6, (0, .ofNat 0, .ofNat 0), (4, .ofNat 1, .ofNat 0), (0, .ofNat 0, .ofNat 0)), (1, 10, (4, .ofNat 1, .ofNat 0), (0, .ofNat 0, .ofNat 0), (0, .ofNat 0, .ofNat 0)), (0, 6, (0, .ofNat 0, .ofNat 0), (4, .ofNat 1, .ofNat 0), (0, .ofNat 0, .ofNat 0)), (1, 9, (4, .ofNat 1, .ofNat 0), (8, .ofNat 1, .ofNat 0), (0, .ofNat 0, .ofNat 0)), (0, 6, (0, .ofNat 0, .ofNat 0), (4, .ofNat 1, .ofNat 0), (0, .ofNat 0, .ofNat 0)), (1, 8, (4, .ofNat 1, .ofNat 0), (7, .ofNat 1, .ofNat 0), (0, .ofNat 0, .ofNat 0)), (0, 6, (0, .ofNat 0, .ofNat 0), (4, .ofNat 1, .ofNat 0), (0, .ofNat 0, .ofNat 0)), (1, 7, (4, .ofNat 1, .ofNat 0), (6, .ofNat 1, .ofNat 0), (0, .ofNat 0, .ofNat 0)), (0, 6, (0, .ofNat 0, .ofNat 0), (4, .ofNat 1, .ofNat 0), (0, .ofNat 0, .ofNat 0)), (0, 121, (5, .ofNat 1, .ofNat 2), (8, .ofNat 1, .ofNat 0), (0, .ofNat 0, .ofNat 0)), (0, 121, (5, .ofNat 1, .ofNat 1), (7, .ofNat 1, .ofNat 0), (0, .ofNat 0, .ofNat 0)), (0, 121, (5, .ofNat 1, .ofNat 0), (6, .ofNat 1, .ofNat 0), (0, .ofNat 0, .ofNat 0)), (2, 2, (3, .ofNat 1, .ofNat 0), (2, .ofNat 1, .ofNat 0), (0, .ofNat 0, .ofNat 0))], [(1, [(.ofNat 0, .ofNat 57)]), (2, [(.ofNat 1, .ofNat 16)]), (3, [(.ofNat 0, .ofNat 15)]), (4, [(.ofNat 0, .ofNat 15)]), (5, [(.ofNat 0, .ofNat 57)]), (6, [(.ofNat 1, .ofNat 1000000)]), (7, [(.ofNat 0, .ofNat 1000)]), (8, [(.ofNat 0, .ofNat 999)])], [((1, .ofNat 1, .ofNat 0), (3, .ofNat 3, .ofNat 0), (5, .ofNat 1, .ofNat 0))], [])]
set_option maxRecDepth 1000000 in
theorem sg_sc_x23_g : sg_go [] [88] 3000 140 88 2 9 [(0, [(.ofNat 0, .ofNat 0)]), (1, [(.ofNat 0, .ofNat 57)]), (2, [(.ofNat 0, .ofNat 16)]), (3, [(.ofNat 0, .ofNat 16)]), (4, [(.ofNat 0, .ofNat 15)]), (5, [(.ofNat 0, .ofNat 57)]), (6, [(.ofNat 1, .ofNat 1000000)]), (7, [(.ofNat 0, .ofNat 1000)]), (8, [(.ofNat 0, .ofNat 999)])] [(6, (0, .ofNat 0, .ofNat 0), (4, .ofNat 1, .ofNat 0)), (121, (5, .ofNat 1, .ofNat 0), (6, .ofNat 1, .ofNat 0)), (121, (5, .ofNat 1, .ofNat 1), (7, .ofNat 1, .ofNat 0)), (121, (5, .ofNat 1, .ofNat 2), (8, .ofNat 1, .ofNat 0))] [((1, .ofNat 1, .ofNat 0), (3, .ofNat 3, .ofNat 0), (5, .ofNat 1, .ofNat 0))] [] [(0, .inr (.inl [0])), (3, .inl (false, (1, .ofNat 1, .ofNat 0))), (4, .inl (false, (2, .ofNat 1, .ofNat 0))), (7, .inr (.inl [121])), (8, .inl (false, (3, .ofNat 1, .ofNat 0)))] [] [(6, some 0), (7, none), (8, none), (9, none), (10, none), (11, none), (12, none)] sg_sc_x23_Z = true := by decide +kernel
theorem sg_sc_x23 {Q : Option Value × am_S → Prop} {d : Nat} {S : am_S} {L : am_L} {x1 x2 x3 x4 x5 x6 x7 x8 : Int} (hd : 2 ≤ d) (hP : ax_P0 none S) (l0 : lc L 0 0) (l3 : li L 3 x1) (l4 : li L 4 x2) (l7 : lc L 7 121) (l8 : li L 8 x3) (b1 : (0 ≤ x1 ∧ x1 ≤ 57)) (b2 : (0 ≤ x2 ∧ x2 ≤ 16)) (b3 : (0 ≤ x3 ∧ x3 ≤ 16)) (b4 : (0 ≤ x4 ∧ x4 ≤ 15)) (b5 : (0 ≤ x5 ∧ x5 ≤ 57)) (b6 : (1 ≤ x6 ∧ x6 ≤ 1000000)) (b7 : (0 ≤ x7 ∧ x7 ≤ 1000)) (b8 : (0 ≤ x8 ∧ x8 ≤ 999)) (m6_0 : rd S 6 0 = x4) (n0 : ax_rd S 121 x5 = some x6) (n1 : ax_rd S 121 (x5 + 1) = some x7) (n2 : ax_rd S 121 (x5 + 2) = some x8) (t0 : x1 + (3 * x3 + 0) = x5)
    (k0 : ∀ (S' : am_S) (i1 : Int32), ax_P0 none S' → rd S' = rd S → x2 ≤ x3 → rd S 6 0 = x4 → (0 ≤ x1 ∧ x1 ≤ 57) → (0 ≤ x2 ∧ x2 ≤ 16) → (0 ≤ x3 ∧ x3 ≤ 16) → (0 ≤ x4 ∧ x4 ≤ 15) → (0 ≤ x5 ∧ x5 ≤ 57) → (1 ≤ x6 ∧ x6 ≤ 1000000) → (0 ≤ x7 ∧ x7 ≤ 1000) → (0 ≤ x8 ∧ x8 ≤ 999) → i1.toInt = x4 → Q (some (.int i1), S'))
    (k1 : ∀ (L' : am_L) (S' : am_S), ax_P0 none S' → rd S' = sg_up (sg_up (sg_up (sg_up (sg_up (sg_up (sg_up (rd S) 7 x4 x6) 8 x4 x7) 9 x4 x8) 10 x4 0) 11 x4 (-4)) 12 x4 (-4)) 6 0 (x4 + 1) → x3 < x2 → rd S 121 x5 = x6 → rd S 121 (x5 + 1) = x7 → rd S 121 (x5 + 2) = x8 → rd S 6 0 = x4 → (0 ≤ x1 ∧ x1 ≤ 57) → (1 ≤ x2 ∧ x2 ≤ 16) → (0 ≤ x3 ∧ x3 ≤ 15) → (0 ≤ x4 ∧ x4 ≤ 15) → (0 ≤ x5 ∧ x5 ≤ 57) → (1 ≤ x6 ∧ x6 ≤ 1000000) → (0 ≤ x7 ∧ x7 ≤ 1000) → (0 ≤ x8 ∧ x8 ≤ 999) → x1 + (3 * x3 + 0) = x5 → lc L' 0 0 → li L' 3 x1 → li L' 4 x2 → lc L' 7 121 → li L' 8 (x3 + 1) → li L' 9 x5 → am_V none d 140 88 L' ([]) S' Q) : am_V none d 140 88 L ([]) S Q := by
  refine sg_use sg_sc_x23_g hd hP (sg_xs [0, x1, x2, x3, x4, x5, x6, x7, x8]) ⟨⟨Int.le_refl 0, Int.le_refl 0⟩, b1, b2, b3, b4, b5, b6, b7, b8, trivial⟩ ⟨sg_fs hP rfl m6_0, n0, n1, n2, trivial⟩ ⟨t0, trivial⟩ trivial ⟨l0, l3, l4, l7, l8, trivial⟩ trivial ?_
  intro z hz x' L' st' S' hx hP' hW hL' hs' hJ hE' hT' hD'
  have q1 : x' 1 = x1 := hx 1 (by decide)
  subst q1
  have q2 : x' 2 = x2 := hx 2 (by decide)
  subst q2
  have q3 : x' 3 = x3 := hx 3 (by decide)
  subst q3
  have q4 : x' 4 = x4 := hx 4 (by decide)
  subst q4
  have q5 : x' 5 = x5 := hx 5 (by decide)
  subst q5
  have q6 : x' 6 = x6 := hx 6 (by decide)
  subst q6
  have q7 : x' 7 = x7 := hx 7 (by decide)
  subst q7
  have q8 : x' 8 = x8 := hx 8 (by decide)
  subst q8
  simp only [sg_sc_x23_Z, List.mem_cons, List.not_mem_nil, or_false] at hz
  rcases hz with rfl | rfl
  · obtain ⟨f0, f1, hσ⟩ := hJ
    obtain ⟨e0, e1, e2, e3, e4, e5, e6, e7, -⟩ := hE'
    intro v hv
    subst hv
    cases v with
    | none => exact hs'.elim
    | some v1 =>
      obtain ⟨⟨i1, rfl, g1⟩, -⟩ := hs'
      exact k0 S' i1 hP' hσ f0 f1 e0 e1 e2 e3 e4 e5 e6 e7 g1
  · obtain ⟨f0, f1, f2, f3, f4, -, -, -, -, -, -, hσ⟩ := hJ
    obtain ⟨e0, e1, e2, e3, e4, e5, e6, e7, -⟩ := hE'
    obtain ⟨t0, -⟩ := hT'
    obtain ⟨p0, p1, p2, p3, p4, p5, -⟩ := hL'
    obtain rfl := sg_tn hs'
    exact k1 L' S' hP' hσ f0 f1 f2 f3 f4 e0 e1 e2 e3 e4 e5 e6 e7 t0 p0 p1 p2 p3 p4 p5
