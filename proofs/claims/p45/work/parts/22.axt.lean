/-! ===== what the cells are; loads and stores ===== -/
/-- numbers (kind, how many, set); cells (kind, which); an object (class, its fields: a cell, or a number: long?, set) -/
abbrev ax_T : Type := (Nat × Nat × ax_s) ⊕ (Nat × List Nat) ⊕ (Nat × List (Nat ⊕ (Bool × ax_s)))
def ax_ty (k : Nat) : ax_T := if k < 80 then (if k < 40 then (if k < 20 then (if k < 10 then (if k < 5 then (if k < 2 then (if k < 1 then (.inr (.inr (11, [.inl 1, .inl 6, .inl 13, .inl 29, .inl 40, .inl 45, .inl 50, .inl 64, .inl 68, .inl 69, .inr (false, [(0, 12)]), .inl 70, .inr (false, [(0, 4)]), .inl 71, .inl 97]))) else (.inr (.inr (3, [.inr (false, [(0, 8)]), .inl 2, .inl 3, .inl 4, .inl 5])))) else (if k < 3 then (.inl (0, 8, [(0, 1000000)])) else (if k < 4 then (.inl (0, 8, [(0, 1)])) else (.inl (0, 8, [(0, 9)]))))) else (if k < 7 then (if k < 6 then (.inl (0, 8, [(-100, 100)])) else (.inr (.inr (4, [.inr (false, [(0, 16)]), .inl 7, .inl 8, .inl 9, .inl 10, .inl 11, .inl 12])))) else (if k < 8 then (.inl (0, 16, [(0, 1000000)])) else (if k < 9 then (.inl (0, 16, [(0, 1000)])) else (.inl (0, 16, [(0, 999)])))))) else (if k < 15 then (if k < 12 then (if k < 11 then (.inl (0, 16, [(0, 3)])) else (.inl (0, 16, [(-4, -4), (0, 7)]))) else (if k < 13 then (.inl (0, 16, [(-4, -4), (0, 7)])) else (if k < 14 then (.inr (.inr (5, [.inl 14, .inl 28, .inr (false, [(0, 12)]), .inr (false, [(0, 13)]), .inr (false, [(-2147483648, 2147483647)])]))) else (.inr (.inl (5, [15, 16, 17, 18, 19, 20, 21, 22, 23, 24, 25, 26, 27])))))) else (if k < 17 then (if k < 16 then (.inl (0, 64, [(-2147483648, 2147483647)])) else (.inl (0, 64, [(-2147483648, 2147483647)]))) else (if k < 18 then (.inl (0, 64, [(-2147483648, 2147483647)])) else (if k < 19 then (.inl (0, 64, [(-2147483648, 2147483647)])) else (.inl (0, 64, [(-2147483648, 2147483647)]))))))) else (if k < 30 then (if k < 25 then (if k < 22 then (if k < 21 then (.inl (0, 64, [(-2147483648, 2147483647)])) else (.inl (0, 64, [(-2147483648, 2147483647)]))) else (if k < 23 then (.inl (0, 64, [(-2147483648, 2147483647)])) else (if k < 24 then (.inl (0, 64, [(-2147483648, 2147483647)])) else (.inl (0, 64, [(-2147483648, 2147483647)]))))) else (if k < 27 then (if k < 26 then (.inl (0, 64, [(-2147483648, 2147483647)])) else (.inl (0, 64, [(-2147483648, 2147483647)]))) else (if k < 28 then (.inl (0, 64, [(-2147483648, 2147483647)])) else (if k < 29 then (.inl (0, 12, [(0, 15)])) else (.inr (.inr (10, [.inl 30, .inr (true, [(-9223372036854775808, 9223372036854775807)]), .inr (false, [(0, 8)]), .inl 31]))))))) else (if k < 35 then (if k < 32 then (if k < 31 then (.inl (0, 8, [(0, 7)])) else (.inr (.inl (6, [32, 33, 34, 35, 36, 37, 38, 39])))) else (if k < 33 then (.inl (1, 9, [(-9223372036854775808, 9223372036854775807)])) else (if k < 34 then (.inl (1, 9, [(-9223372036854775808, 9223372036854775807)])) else (.inl (1, 9, [(-9223372036854775808, 9223372036854775807)]))))) else (if k < 37 then (if k < 36 then (.inl (1, 9, [(-9223372036854775808, 9223372036854775807)])) else (.inl (1, 9, [(-9223372036854775808, 9223372036854775807)]))) else (if k < 38 then (.inl (1, 9, [(-9223372036854775808, 9223372036854775807)])) else (if k < 39 then (.inl (1, 9, [(-9223372036854775808, 9223372036854775807)])) else (.inl (1, 9, [(-9223372036854775808, 9223372036854775807)])))))))) else (if k < 60 then (if k < 50 then (if k < 45 then (if k < 42 then (if k < 41 then (.inr (.inr (6, [.inl 41, .inr (false, [(0, 8)]), .inr (false, [(-4, -4), (0, 1000000)]), .inr (false, [(-2147483648, 2147483647)]), .inr (false, [(0, 28)]), .inl 42, .inl 43, .inl 44]))) else (.inl (0, 8, [(0, 1000000)]))) else (if k < 43 then (.inl (0, 28, [(-1000000, 1000000)])) else (if k < 44 then (.inl (0, 28, [(0, 7)])) else (.inl (0, 28, [(0, 7)]))))) else (if k < 47 then (if k < 46 then (.inr (.inr (8, [.inr (false, [(0, 80)]), .inl 46, .inr (false, [(0, 4)]), .inl 47, .inl 48, .inl 49, .inr (false, [(0, 12)]), .inr (false, [(-2147483648, 2147483647)]), .inr (false, [(-2147483648, 2147483647)]), .inr (false, [(0, 80)]), .inr (false, [(0, 3)]), .inr (false, [(0, 80)]), .inr (false, [(-1, 99)])]))) else (.inl (2, 80, [(-128, 127)]))) else (if k < 48 then (.inl (0, 4, [(-2147483648, 2147483647)])) else (if k < 49 then (.inl (0, 4, [(-1, 99)])) else (.inl (0, 4, [(0, 12)])))))) else (if k < 55 then (if k < 52 then (if k < 51 then (.inr (.inr (2, [.inr (false, [(0, 4)]), .inr (false, [(-2147483648, 2147483647)]), .inl 51, .inl 52, .inl 53, .inl 62, .inl 63, .inr (false, [(0, 12)]), .inr (false, [(-2147483648, 2147483647)])]))) else (.inl (1, 2025, [(-9223372036854775808, 9223372036854775807)]))) else (if k < 53 then (.inl (1, 2025, [(-9223372036854775808, 9223372036854775807)])) else (if k < 54 then (.inr (.inl (6, [54, 55, 56, 57, 58, 59, 60, 61]))) else (.inl (1, 13, [(-9223372036854775808, 9223372036854775807)]))))) else (if k < 57 then (if k < 56 then (.inl (1, 13, [(-9223372036854775808, 9223372036854775807)])) else (.inl (1, 13, [(-9223372036854775808, 9223372036854775807)]))) else (if k < 58 then (.inl (1, 13, [(-9223372036854775808, 9223372036854775807)])) else (if k < 59 then (.inl (1, 13, [(-9223372036854775808, 9223372036854775807)])) else (.inl (1, 13, [(-9223372036854775808, 9223372036854775807)]))))))) else (if k < 70 then (if k < 65 then (if k < 62 then (if k < 61 then (.inl (1, 13, [(-9223372036854775808, 9223372036854775807)])) else (.inl (1, 13, [(-9223372036854775808, 9223372036854775807)]))) else (if k < 63 then (.inl (1, 25, [(-9223372036854775808, 9223372036854775807)])) else (if k < 64 then (.inl (1, 533, [(-9223372036854775808, 9223372036854775807)])) else (.inr (.inr (1, [.inr (false, [(0, 30)]), .inl 65, .inl 66, .inl 67])))))) else (if k < 67 then (if k < 66 then (.inl (0, 30, [(-2147483648, 2147483647)])) else (.inl (0, 30, [(0, 1)]))) else (if k < 68 then (.inl (0, 30, [(-2147483648, 2147483647)])) else (if k < 69 then (.inl (0, 12, [(0, 15)])) else (.inl (0, 12, [(0, 15)])))))) else (if k < 75 then (if k < 72 then (if k < 71 then (.inr (.inl (3, [98, 102, 106, 110]))) else (.inr (.inr (0, [.inr (false, [(0, 6)]), .inr (false, [(0, 5)]), .inl 72])))) else (if k < 73 then (.inr (.inl (3, [73, 77, 81, 85, 89, 93]))) else (if k < 74 then (.inr (.inr (9, [.inr (false, [(0, 8)]), .inr (false, [(0, 16)]), .inl 74, .inl 75, .inl 76]))) else (.inl (0, 8, [(0, 1000000)]))))) else (if k < 77 then (if k < 76 then (.inl (0, 16, [(-4, -4), (0, 7)])) else (.inl (0, 16, [(-4, -4), (0, 7)]))) else (if k < 78 then (.inr (.inr (9, [.inr (false, [(0, 8)]), .inr (false, [(0, 16)]), .inl 78, .inl 79, .inl 80]))) else (if k < 79 then (.inl (0, 8, [(0, 1000000)])) else (.inl (0, 16, [(-4, -4), (0, 7)]))))))))) else (if k < 120 then (if k < 100 then (if k < 90 then (if k < 85 then (if k < 82 then (if k < 81 then (.inl (0, 16, [(-4, -4), (0, 7)])) else (.inr (.inr (9, [.inr (false, [(0, 8)]), .inr (false, [(0, 16)]), .inl 82, .inl 83, .inl 84])))) else (if k < 83 then (.inl (0, 8, [(0, 1000000)])) else (if k < 84 then (.inl (0, 16, [(-4, -4), (0, 7)])) else (.inl (0, 16, [(-4, -4), (0, 7)]))))) else (if k < 87 then (if k < 86 then (.inr (.inr (9, [.inr (false, [(0, 8)]), .inr (false, [(0, 16)]), .inl 86, .inl 87, .inl 88]))) else (.inl (0, 8, [(0, 1000000)]))) else (if k < 88 then (.inl (0, 16, [(-4, -4), (0, 7)])) else (if k < 89 then (.inl (0, 16, [(-4, -4), (0, 7)])) else (.inr (.inr (9, [.inr (false, [(0, 8)]), .inr (false, [(0, 16)]), .inl 90, .inl 91, .inl 92]))))))) else (if k < 95 then (if k < 92 then (if k < 91 then (.inl (0, 8, [(0, 1000000)])) else (.inl (0, 16, [(-4, -4), (0, 7)]))) else (if k < 93 then (.inl (0, 16, [(-4, -4), (0, 7)])) else (if k < 94 then (.inr (.inr (9, [.inr (false, [(0, 8)]), .inr (false, [(0, 16)]), .inl 94, .inl 95, .inl 96]))) else (.inl (0, 8, [(0, 1000000)]))))) else (if k < 97 then (if k < 96 then (.inl (0, 16, [(-4, -4), (0, 7)])) else (.inl (0, 16, [(-4, -4), (0, 7)]))) else (if k < 98 then (.inr (.inl (4, [114, 116, 118, 120]))) else (if k < 99 then (.inr (.inr (9, [.inr (false, [(0, 8)]), .inr (false, [(0, 16)]), .inl 99, .inl 100, .inl 101]))) else (.inl (0, 8, [(0, 1000000)]))))))) else (if k < 110 then (if k < 105 then (if k < 102 then (if k < 101 then (.inl (0, 16, [(-4, -4), (0, 7)])) else (.inl (0, 16, [(-4, -4), (0, 7)]))) else (if k < 103 then (.inr (.inr (9, [.inr (false, [(0, 8)]), .inr (false, [(0, 16)]), .inl 103, .inl 104, .inl 105]))) else (if k < 104 then (.inl (0, 8, [(0, 1000000)])) else (.inl (0, 16, [(-4, -4), (0, 7)]))))) else (if k < 107 then (if k < 106 then (.inl (0, 16, [(-4, -4), (0, 7)])) else (.inr (.inr (9, [.inr (false, [(0, 8)]), .inr (false, [(0, 16)]), .inl 107, .inl 108, .inl 109])))) else (if k < 108 then (.inl (0, 8, [(0, 1000000)])) else (if k < 109 then (.inl (0, 16, [(-4, -4), (0, 7)])) else (.inl (0, 16, [(-4, -4), (0, 7)])))))) else (if k < 115 then (if k < 112 then (if k < 111 then (.inr (.inr (9, [.inr (false, [(0, 8)]), .inr (false, [(0, 16)]), .inl 111, .inl 112, .inl 113]))) else (.inl (0, 8, [(0, 1000000)]))) else (if k < 113 then (.inl (0, 16, [(-4, -4), (0, 7)])) else (if k < 114 then (.inl (0, 16, [(-4, -4), (0, 7)])) else (.inr (.inr (7, [.inr (false, [(0, 60)]), .inl 115, .inr (false, [(-1, 2)])])))))) else (if k < 117 then (if k < 116 then (.inl (0, 60, [(-2147483648, 2147483647)])) else (.inr (.inr (7, [.inr (false, [(0, 60)]), .inl 117, .inr (false, [(-1, 2)])])))) else (if k < 118 then (.inl (0, 60, [(-2147483648, 2147483647)])) else (if k < 119 then (.inr (.inr (7, [.inr (false, [(0, 60)]), .inl 119, .inr (false, [(-1, 2)])]))) else (.inl (0, 60, [(-2147483648, 2147483647)])))))))) else (if k < 140 then (if k < 130 then (if k < 125 then (if k < 122 then (if k < 121 then (.inr (.inr (7, [.inr (false, [(0, 60)]), .inl 121, .inr (false, [(-1, 2)])]))) else (.inl (0, 60, [(-2147483648, 2147483647)]))) else (if k < 123 then (.inr (.inr (12, [.inr (false, [(0, 8)]), .inl 123, .inl 124, .inl 125, .inl 126, .inr (false, [(0, 16)]), .inl 127, .inl 128, .inl 129, .inl 130, .inl 131, .inl 132, .inr (false, [(0, 16)]), .inl 133, .inl 134, .inl 135, .inl 136, .inl 137, .inr (false, [(0, 8)]), .inl 138, .inl 139, .inr (true, [(-9223372036854775808, 9223372036854775807)]), .inl 140, .inr (false, [(-4, -4), (0, 1000000)]), .inr (false, [(-2147483648, 2147483647)]), .inl 141, .inr (false, [(0, 80)]), .inr (false, [(-2147483648, 2147483647)]), .inr (false, [(-2147483648, 2147483647)]), .inr (false, [(-2147483648, 2147483647)]), .inr (false, [(0, 80)]), .inr (false, [(0, 80)]), .inr (false, [(0, 3)]), .inr (false, [(-2147483648, 2147483647)]), .inr (false, [(0, 4)]), .inl 142, .inl 143, .inl 144, .inr (false, [(0, 4)]), .inl 145, .inl 146, .inl 147, .inl 148, .inr (false, [(0, 40)]), .inl 149, .inl 150, .inl 151, .inr (false, [(0, 12)]), .inl 152, .inl 153, .inl 154, .inl 155, .inr (false, [(0, 4)]), .inl 156, .inr (false, [(0, 6)]), .inl 157, .inl 158, .inl 159, .inl 160]))) else (if k < 124 then (.inl (0, 8, [(0, 1000000)])) else (.inl (0, 8, [(0, 1)]))))) else (if k < 127 then (if k < 126 then (.inl (0, 8, [(0, 9)])) else (.inl (0, 8, [(-100, 100)]))) else (if k < 128 then (.inl (0, 16, [(0, 1000000)])) else (if k < 129 then (.inl (0, 16, [(0, 1000)])) else (.inl (0, 16, [(0, 999)])))))) else (if k < 135 then (if k < 132 then (if k < 131 then (.inl (0, 16, [(-4, -4), (0, 7)])) else (.inl (0, 16, [(-4, -4), (0, 7)]))) else (if k < 133 then (.inl (0, 16, [(0, 3)])) else (if k < 134 then (.inl (0, 16, [(0, 7)])) else (.inl (0, 16, [(0, 7)]))))) else (if k < 137 then (if k < 136 then (.inl (0, 16, [(-1000000, 1000000)])) else (.inl (0, 8, [(0, 7)]))) else (if k < 138 then (.inl (0, 64, [(-2147483648, 2147483647)])) else (if k < 139 then (.inl (0, 8, [(-4, -4), (0, 7)])) else (.inl (1, 64, [(-9223372036854775808, 9223372036854775807)]))))))) else (if k < 150 then (if k < 145 then (if k < 142 then (if k < 141 then (.inl (0, 8, [(0, 1000000)])) else (.inl (0, 80, [(0, 255)]))) else (if k < 143 then (.inl (0, 4, [(-2147483648, 2147483647)])) else (if k < 144 then (.inl (0, 4, [(0, 3)])) else (.inl (0, 4, [(0, 14)]))))) else (if k < 147 then (if k < 146 then (.inl (0, 4, [(-2147483648, 2147483647)])) else (.inl (0, 4, [(0, 3)]))) else (if k < 148 then (.inl (0, 4, [(0, 14)])) else (if k < 149 then (.inl (1, 30375, [(-9223372036854775808, 9223372036854775807)])) else (.inl (0, 40, [(-2147483648, 2147483647)])))))) else (if k < 155 then (if k < 152 then (if k < 151 then (.inl (0, 40, [(-2147483648, 2147483647)])) else (.inl (0, 40, [(-2147483648, 2147483647)]))) else (if k < 153 then (.inl (0, 12, [(0, 15)])) else (if k < 154 then (.inl (0, 12, [(0, 15)])) else (.inl (1, 4, [(-9223372036854775808, 9223372036854775807)]))))) else (if k < 158 then (if k < 156 then (.inl (1, 4, [(-9223372036854775808, 9223372036854775807)])) else (if k < 157 then (.inl (0, 200, [(-4, 1000000)])) else (.inl (0, 300, [(-4, 1000000)])))) else (if k < 159 then (.inl (0, 4, [(-4, -4), (0, 2)])) else (if k < 160 then (.inl (0, 4, [(0, 60)])) else (.inl (0, 240, [(-2147483648, 2147483647)])))))))))
/-- pairs of rows that are NONE together -/
def ax_link (c : Nat) : Option Nat := if c = 11 then some 12 else if c = 12 then some 11 else if c = 130 then some 131 else if c = 131 then some 130
  else if c = 75 then some 76 else if c = 76 then some 75 else if c = 79 then some 80 else if c = 80 then some 79 else if c = 83 then some 84 else if c = 84 then some 83
  else if c = 87 then some 88 else if c = 88 then some 87 else if c = 91 then some 92 else if c = 92 then some 91 else if c = 95 then some 96 else if c = 96 then some 95
  else if c = 100 then some 101 else if c = 101 then some 100 else if c = 104 then some 105 else if c = 105 then some 104 else if c = 108 then some 109 else if c = 109 then some 108
  else if c = 112 then some 113 else if c = 113 then some 112 else none
def ax_prot (c : Nat) : Bool := Nat.beq c 156 || Nat.beq c 157
def ax_is16 (T : ax_T) : Bool := match T with
  | .inl (t, n, s) => decide (t = 0) && decide (n = 16) && decide (s = [(-4, -4), (0, 7)])
  | _ => false
theorem ax_is16_eq {T : ax_T} (h : ax_is16 T = true) : T = .inl (0, 16, [(-4, -4), (0, 7)]) := by
  unfold ax_is16 at h
  split at h
  · simp only [Bool.and_eq_true, decide_eq_true_eq] at h
    obtain ⟨⟨rfl, rfl⟩, rfl⟩ := h
    rfl
  · cases h
def ax_lchk : Bool := (List.range 161).all fun c => match ax_link c with
  | none => true
  | some p => decide (ax_link p = some c) && decide (c ≠ p) && decide (ax_prot c = false) && decide (ax_prot p = false) && decide (p < 161) && ax_is16 (ax_ty c)
theorem ax_lchk_ok : ax_lchk = true := by decide +kernel
theorem ax_link_lt {c p : Nat} (h : ax_link c = some p) : c < 161 := by
  apply Decidable.byContradiction
  intro hn
  unfold ax_link at h
  rw [if_neg (show ¬ c = 11 by omega), if_neg (show ¬ c = 12 by omega), if_neg (show ¬ c = 130 by omega), if_neg (show ¬ c = 131 by omega), if_neg (show ¬ c = 75 by omega), if_neg (show ¬ c = 76 by omega), if_neg (show ¬ c = 79 by omega), if_neg (show ¬ c = 80 by omega), if_neg (show ¬ c = 83 by omega), if_neg (show ¬ c = 84 by omega), if_neg (show ¬ c = 87 by omega), if_neg (show ¬ c = 88 by omega), if_neg (show ¬ c = 91 by omega), if_neg (show ¬ c = 92 by omega), if_neg (show ¬ c = 95 by omega), if_neg (show ¬ c = 96 by omega), if_neg (show ¬ c = 100 by omega), if_neg (show ¬ c = 101 by omega), if_neg (show ¬ c = 104 by omega), if_neg (show ¬ c = 105 by omega), if_neg (show ¬ c = 108 by omega), if_neg (show ¬ c = 109 by omega), if_neg (show ¬ c = 112 by omega), if_neg (show ¬ c = 113 by omega)] at h
  cases h
theorem ax_link_all {c p : Nat} (h : ax_link c = some p) : ax_link p = some c ∧ c ≠ p ∧ ax_prot c = false ∧ ax_prot p = false ∧ p < 161 ∧ ax_ty c = .inl (0, 16, [(-4, -4), (0, 7)]) := by
  have := List.all_eq_true.mp ax_lchk_ok c (List.mem_range.mpr (ax_link_lt h))
  rw [h] at this
  simp only [Bool.and_eq_true, decide_eq_true_eq] at this
  exact ⟨this.1.1.1.1.1, this.1.1.1.1.2, this.1.1.1.2, this.1.1.2, this.1.2, ax_is16_eq this.2⟩
theorem ax_link_sym {c p : Nat} (h : ax_link c = some p) : ax_link p = some c ∧ c ≠ p ∧ ax_prot c = false ∧ ax_prot p = false ∧ c < 161 ∧ p < 161 := by
  obtain ⟨h1, h2, h3, h4, h5, -⟩ := ax_link_all h
  exact ⟨h1, h2, h3, h4, ax_link_lt h, h5⟩
def ax_el (c : Nat) (i : Int) : ax_s := match ax_ty c with
  | .inl (_, _, s) => s
  | .inr (.inr (_, fs)) => (match fs[i.toNat]? with
    | some (.inr (_, s)) => s
    | _ => [])
  | _ => []
theorem ax_link_el {c p : Nat} {j v : Int} (h : ax_link c = some p) (hv : ax_in v (ax_el c j)) : v = -4 ∨ (0 ≤ v ∧ v ≤ 7) := by
  have e : ax_el c j = [(-4, -4), (0, 7)] := by
    unfold ax_el
    rw [(ax_link_all h).2.2.2.2.2]
  rw [e] at hv
  obtain ⟨q, hq, h1, h2⟩ := hv
  rcases List.mem_cons.mp hq with rfl | hq
  · dsimp only at h1 h2
    omega
  · rcases List.mem_cons.mp hq with rfl | hq
    · dsimp only at h1 h2
      omega
    · cases hq
def ax_fd (F : Nat ⊕ (Bool × ax_s)) (v : Option Value) : Prop := match F with
  | .inl c => v = some (.ref c)
  | .inr (false, _) => ∃ x, v = some (.int x)
  | .inr (true, _) => ∃ x, v = some (.long x)
def ax_sh (T : ax_T) (e : am_E) : Prop := match T with
  | .inl (t, n, _) => if t = 1 then ∃ f, e = .inl (t, n, .inr (.inl f)) else ∃ f, e = .inl (t, n, .inl f)
  | .inr (.inl (t, l)) => ∃ f, e = .inl (t, l.length, .inr (.inr (.inr (.inr f)))) ∧ ∀ i, i < l.length → f i = l[i]?
  | .inr (.inr (ci, fs)) => ∃ vs, e = .inr (ci, vs) ∧ vs.length = fs.length ∧ ∀ (k : Nat) F, fs[k]? = some F → ax_fd F vs[k]?
def ax_typed (S : am_S) : Prop := S.1 = 161 ∧ S.2.1 = 38646 ∧ (∀ c, c < 161 → ax_sh (ax_ty c) (S.2.2 c)) ∧ ∀ c i v, c < 161 → ax_rd S c i = some v → ax_in v (ax_el c i)
def ax_lks (pd : Option (Nat × Int × Bool)) (S : am_S) : Prop :=
  (∀ c p, ax_link c = some p → ∀ i v w, ax_rd S c i = some v → ax_rd S p i = some w → (v = -4 ↔ w = -4) ∨ (∃ b, pd = some (c, i, b)) ∨ (∃ b, pd = some (p, i, b))) ∧
  ∀ c i b, pd = some (c, i, b) → ax_link c ≠ none ∧ ∃ v, ax_rd S c i = some v ∧ (v = -4 ↔ b = true)
/-- rows of versions and acts in the reference: heights, pairs that are NONE together -/
def ax_row (S : am_S) (r from_ : Nat) : Prop :=
  (∀ k : Nat, k < 8 → ∃ v, ax_rd S r (from_ + k : Nat) = some v ∧ 0 ≤ v ∧ v ≤ 1000000) ∧
  ∀ n : Nat, n < 16 → ∃ v w, ax_rd S r (from_ + 8 + n : Nat) = some v ∧ ax_rd S r (from_ + 24 + n : Nat) = some w ∧ ((v = -4 ∧ w = -4) ∨ (0 ≤ v ∧ v ≤ 7 ∧ 0 ≤ w ∧ w ≤ 7))
def ax_rows (S : am_S) : Prop := (∀ v : Nat, v < 4 → ax_row S 156 (50 * v)) ∧ ∀ v : Nat, v < 6 → ax_row S 157 (50 * v)
def ax_P0 : ax_P := fun pd S => ax_typed S ∧ ax_lks pd S ∧ ax_rows S
/-- places in Z are other ones now, no others -/
def ax_chg (Z : Nat → Int → Prop) (S S' : am_S) : Prop := S'.1 = S.1 ∧ S'.2.1 = S.2.1 ∧ (∀ c, c < 161 → ax_sh (ax_ty c) (S.2.2 c) → ax_sh (ax_ty c) (S'.2.2 c)) ∧
  (∀ c i, ¬ Z c i → ax_rd S' c i = ax_rd S c i) ∧ ∀ c i v, c < 161 → Z c i → ax_rd S' c i = some v → ax_in v (ax_el c i)
theorem ax_chg_typed {Z : Nat → Int → Prop} {S S' : am_S} (h : ax_typed S) (g : ax_chg Z S S') : ax_typed S' := by
  obtain ⟨h1, h2, h3, h4⟩ := h
  obtain ⟨g1, g2, g3, g4, g5⟩ := g
  refine ⟨g1.trans h1, g2.trans h2, fun c hc => g3 c hc (h3 c hc), ?_⟩
  intro c i v hc hr
  by_cases hz : Z c i
  · exact g5 c i v hc hz hr
  · rw [g4 c i hz] at hr
    exact h4 c i v hc hr
theorem ax_row_same {S S' : am_S} {r f : Nat} (h : ax_row S r f) (g : ∀ i, ax_rd S' r i = ax_rd S r i) : ax_row S' r f := by
  refine ⟨fun k hk => ?_, fun n hn => ?_⟩
  · rw [g]
    exact h.1 k hk
  · rw [g, g]
    exact h.2 n hn
theorem ax_rows_same {S S' : am_S} (h : ax_rows S) (g : ∀ c i, ax_prot c = true → ax_rd S' c i = ax_rd S c i) : ax_rows S' := ⟨fun v hv => ax_row_same (h.1 v hv) fun i => g 156 i rfl, fun v hv => ax_row_same (h.2 v hv) fun i => g 157 i rfl⟩
theorem ax_P0_chg {Z : Nat → Int → Prop} {S S' : am_S} {pd : Option (Nat × Int × Bool)} (h : ax_P0 pd S) (g : ax_chg Z S S') (hZ : ∀ c i, Z c i → ax_link c = none ∧ ax_prot c = false) : ax_P0 pd S' := by
  obtain ⟨h1, ⟨h2, h3⟩, h4⟩ := h
  refine ⟨ax_chg_typed h1 g, ⟨?_, ?_⟩, ?_⟩
  · intro c p hl i v w hv hw
    have z1 : ¬ Z c i := fun z => by rw [(hZ c i z).1] at hl; cases hl
    have z2 : ¬ Z p i := fun z => by have := (ax_link_sym hl).1; rw [(hZ p i z).1] at this; cases this
    rw [g.2.2.2.1 c i z1] at hv
    rw [g.2.2.2.1 p i z2] at hw
    exact h2 c p hl i v w hv hw
  · intro c i b hp
    obtain ⟨hn, v, hv, hb⟩ := h3 c i b hp
    have z1 : ¬ Z c i := fun z => hn (hZ c i z).1
    exact ⟨hn, v, by rw [g.2.2.2.1 c i z1]; exact hv, hb⟩
  · refine ax_rows_same h4 ?_
    intro c i hp
    refine g.2.2.2.1 c i fun z => ?_
    rw [(hZ c i z).2] at hp
    cases hp
/-- a pair's one half is written, then the other -/
theorem ax_P0_half {S S' : am_S} {c p : Nat} {i v : Int} {b : Bool} (h : ax_P0 none S) (hl : ax_link c = some p) (g : ax_chg (fun c' i' => c' = c ∧ i' = i) S S') (hv : ax_rd S' c i = some v) (hb : v = -4 ↔ b = true) : ax_P0 (some (c, i, b)) S' := by
  obtain ⟨h1, ⟨h2, -⟩, h4⟩ := h
  obtain ⟨-, -, p1, p2, -, -⟩ := ax_link_sym hl
  refine ⟨ax_chg_typed h1 g, ⟨?_, ?_⟩, ?_⟩
  · intro c' p' hl' i' v' w' hv' hw'
    by_cases e1 : c' = c ∧ i' = i
    · obtain ⟨rfl, rfl⟩ := e1
      exact Or.inr (Or.inl ⟨b, rfl⟩)
    · by_cases e2 : p' = c ∧ i' = i
      · obtain ⟨rfl, rfl⟩ := e2
        exact Or.inr (Or.inr ⟨b, rfl⟩)
      · rw [g.2.2.2.1 c' i' e1] at hv'
        rw [g.2.2.2.1 p' i' e2] at hw'
        rcases h2 c' p' hl' i' v' w' hv' hw' with h | ⟨_, h⟩ | ⟨_, h⟩
        · exact Or.inl h
        · cases h
        · cases h
  · intro c' i' b' e
    cases e
    exact ⟨by rw [hl]; simp, v, hv, hb⟩
  · refine ax_rows_same h4 fun c' i' hp => g.2.2.2.1 c' i' ?_
    rintro ⟨rfl, -⟩
    rw [p1] at hp
    cases hp
theorem ax_P0_whole {S S' : am_S} {c p : Nat} {i v : Int} {b : Bool} (h : ax_P0 (some (p, i, b)) S) (hl : ax_link c = some p) (g : ax_chg (fun c' i' => c' = c ∧ i' = i) S S') (hv : ax_rd S' c i = some v) (hb : v = -4 ↔ b = true) : ax_P0 none S' := by
  obtain ⟨h1, ⟨h2, h3⟩, h4⟩ := h
  obtain ⟨l2, ne, p1, p2, -, -⟩ := ax_link_sym hl
  obtain ⟨-, u, hu, hub⟩ := h3 p i b rfl
  have hu' : ax_rd S' p i = some u := by
    rw [g.2.2.2.1 p i (fun z => ne z.1.symm)]
    exact hu
  refine ⟨ax_chg_typed h1 g, ⟨?_, fun _ _ _ e => by cases e⟩, ?_⟩
  · intro c' p' hl' i' v' w' hv' hw'
    left
    by_cases e1 : c' = c ∧ i' = i
    · obtain ⟨rfl, rfl⟩ := e1
      rw [hl] at hl'
      cases hl'
      rw [hv] at hv'
      rw [hu'] at hw'
      cases hv'
      cases hw'
      rw [hb, hub]
    · by_cases e2 : p' = c ∧ i' = i
      · obtain ⟨rfl, rfl⟩ := e2
        have hc' : c' = p := by
          have h5 := (ax_link_sym hl').1
          rw [hl] at h5
          cases h5
          rfl
        subst hc'
        rw [hv] at hw'
        rw [hu'] at hv'
        cases hv'
        cases hw'
        rw [hb, hub]
      · rw [g.2.2.2.1 c' i' e1] at hv'
        rw [g.2.2.2.1 p' i' e2] at hw'
        rcases h2 c' p' hl' i' v' w' hv' hw' with h | ⟨_, h⟩ | ⟨_, h⟩
        · exact h
        · cases h
          have h5 := hl'
          rw [l2] at h5
          cases h5
          exact absurd ⟨rfl, rfl⟩ e2
        · cases h
          have h5 := (ax_link_sym hl').1
          rw [l2] at h5
          cases h5
          exact absurd ⟨rfl, rfl⟩ e1
  · refine ax_rows_same h4 fun c' i' hp => g.2.2.2.1 c' i' ?_
    rintro ⟨rfl, -⟩
    rw [p1] at hp
    cases hp
/-! the machine's own writes -/
theorem ax_rd_put {S : am_S} {a : Nat} {e : am_E} {c : Nat} {i : Int} (h : c ≠ a) : ax_rd (am_put S a e) c i = ax_rd S c i := by
  unfold ax_rd am_put am_up
  dsimp only
  rw [if_neg h]
theorem ax_at_put {S : am_S} {a : Nat} {e : am_E} : (am_put S a e).2.2 a = e := by
  unfold am_put am_up
  dsimp only
  rw [if_pos rfl]
theorem ax_at_put' {S : am_S} {a c : Nat} {e : am_E} (h : c ≠ a) : (am_put S a e).2.2 c = S.2.2 c := by
  unfold am_put am_up
  dsimp only
  rw [if_neg h]
/-- a cell becomes another one of its own shape: what can be read says what has changed -/
theorem ax_chg_put {S : am_S} {a : Nat} {e : am_E} {i v : Int} (hs : a < 161 → ax_sh (ax_ty a) (S.2.2 a) → ax_sh (ax_ty a) e) (h1 : ax_rd (am_put S a e) a i = some v) (h2 : ∀ i', i' ≠ i → ax_rd (am_put S a e) a i' = ax_rd S a i') (hv : a < 161 → ax_in v (ax_el a i)) : ax_chg (fun c' i' => c' = a ∧ i' = i) S (am_put S a e) := by
  refine ⟨rfl, rfl, ?_, ?_, ?_⟩
  · intro c hc h
    by_cases e1 : c = a
    · subst e1
      rw [ax_at_put]
      exact hs hc h
    · rw [ax_at_put' e1]
      exact h
  · intro c i' hz
    by_cases e1 : c = a
    · subst e1
      exact h2 i' fun e2 => hz ⟨rfl, e2⟩
    · exact ax_rd_put e1
  · rintro c i' w hc ⟨rfl, rfl⟩ hr
    rw [h1] at hr
    cases hr
    exact hv hc
theorem ax_rdI {S : am_S} {c t n : Nat} {f : Nat → Int32} {i : Int} (h : S.2.2 c = .inl (t, n, .inl f)) : ax_rd S c i = if 0 ≤ i ∧ i < n then some (f i.toNat).toInt else none := by
  unfold ax_rd
  rw [h]
theorem ax_rdL {S : am_S} {c t n : Nat} {f : Nat → Int64} {i : Int} (h : S.2.2 c = .inl (t, n, .inr (.inl f))) : ax_rd S c i = if 0 ≤ i ∧ i < n then some (f i.toNat).toInt else none := by
  unfold ax_rd
  rw [h]
theorem ax_rdO {S : am_S} {c ci : Nat} {fs : List Value} {k : Nat} (h : S.2.2 c = .inr (ci, fs)) : ax_rd S c (k : Int) = match fs[k]? with
    | some (.int x) => some x.toInt
    | some (.long x) => some x.toInt
    | _ => none := by
  unfold ax_rd
  rw [h]
  dsimp only
  rw [if_pos (Int.natCast_nonneg k), Int.toNat_natCast]
  rfl
theorem ax_rdN {S : am_S} {c ci : Nat} {fs : List Value} {i : Int} (h : S.2.2 c = .inr (ci, fs)) (hi : i < 0) : ax_rd S c i = none := by
  unfold ax_rd
  rw [h]
  dsimp only
  rw [if_neg (by omega)]
