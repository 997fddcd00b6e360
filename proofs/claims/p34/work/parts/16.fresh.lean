def am_h1 (k : Nat) : am_E := if k < 80 then (if k < 40 then (if k < 20 then (if k < 10 then (if k < 5 then (if k < 2 then (if k < 1 then (.inr (11, [.ref 1, .ref 6, .ref 13, .ref 29, .ref 40, .ref 45, .ref 50, .ref 64, .ref 68, .ref 69, .int (0), .ref 70, .int (0), .ref 71, .ref 97])) else (.inr (3, [.int (0), .ref 2, .ref 3, .ref 4, .ref 5]))) else (if k < 3 then (.inl (0, 8, .inl fun _ => 0)) else (if k < 4 then (.inl (0, 8, .inl fun _ => 0)) else (.inl (0, 8, .inl fun _ => 0))))) else (if k < 7 then (if k < 6 then (.inl (0, 8, .inl fun _ => 0)) else (.inr (4, [.int (0), .ref 7, .ref 8, .ref 9, .ref 10, .ref 11, .ref 12]))) else (if k < 8 then (.inl (0, 16, .inl fun _ => 0)) else (if k < 9 then (.inl (0, 16, .inl fun _ => 0)) else (.inl (0, 16, .inl fun _ => 0)))))) else (if k < 15 then (if k < 12 then (if k < 11 then (.inl (0, 16, .inl fun _ => 0)) else (.inl (0, 16, .inl fun _ => 0))) else (if k < 13 then (.inl (0, 16, .inl fun _ => 0)) else (if k < 14 then (.inr (5, [.ref 14, .ref 28, .int (0), .int (0), .int (0)])) else (.inl (5, 13, .inr (.inr (.inr (.inr fun j => if j < 13 then some (15 + j) else none)))))))) else (if k < 17 then (if k < 16 then (.inl (0, 64, .inl fun _ => 0)) else (.inl (0, 64, .inl fun _ => 0))) else (if k < 18 then (.inl (0, 64, .inl fun _ => 0)) else (if k < 19 then (.inl (0, 64, .inl fun _ => 0)) else (.inl (0, 64, .inl fun _ => 0))))))) else (if k < 30 then (if k < 25 then (if k < 22 then (if k < 21 then (.inl (0, 64, .inl fun _ => 0)) else (.inl (0, 64, .inl fun _ => 0))) else (if k < 23 then (.inl (0, 64, .inl fun _ => 0)) else (if k < 24 then (.inl (0, 64, .inl fun _ => 0)) else (.inl (0, 64, .inl fun _ => 0))))) else (if k < 27 then (if k < 26 then (.inl (0, 64, .inl fun _ => 0)) else (.inl (0, 64, .inl fun _ => 0))) else (if k < 28 then (.inl (0, 64, .inl fun _ => 0)) else (if k < 29 then (.inl (0, 12, .inl fun _ => 0)) else (.inr (10, [.ref 30, .long (1), .int (0), .ref 31])))))) else (if k < 35 then (if k < 32 then (if k < 31 then (.inl (0, 8, .inl fun _ => 0)) else (.inl (6, 8, .inr (.inr (.inr (.inr fun j => if j < 8 then some (32 + j) else none)))))) else (if k < 33 then (.inl (1, 9, .inr (.inl fun _ => 0))) else (if k < 34 then (.inl (1, 9, .inr (.inl fun _ => 0))) else (.inl (1, 9, .inr (.inl fun _ => 0)))))) else (if k < 37 then (if k < 36 then (.inl (1, 9, .inr (.inl fun _ => 0))) else (.inl (1, 9, .inr (.inl fun _ => 0)))) else (if k < 38 then (.inl (1, 9, .inr (.inl fun _ => 0))) else (if k < 39 then (.inl (1, 9, .inr (.inl fun _ => 0))) else (.inl (1, 9, .inr (.inl fun _ => 0))))))))) else (if k < 60 then (if k < 50 then (if k < 45 then (if k < 42 then (if k < 41 then (.inr (6, [.ref 41, .int (0), .int (0), .int (0), .int (0), .ref 42, .ref 43, .ref 44])) else (.inl (0, 8, .inl fun _ => 0))) else (if k < 43 then (.inl (0, 28, .inl fun _ => 0)) else (if k < 44 then (.inl (0, 28, .inl fun _ => 0)) else (.inl (0, 28, .inl fun _ => 0))))) else (if k < 47 then (if k < 46 then (.inr (8, [.int (0), .ref 46, .int (0), .ref 47, .ref 48, .ref 49, .int (0), .int (0), .int (0), .int (0), .int (0), .int (0), .int (0)])) else (.inl (2, 80, .inl fun _ => 0))) else (if k < 48 then (.inl (0, 4, .inl fun _ => 0)) else (if k < 49 then (.inl (0, 4, .inl fun _ => 0)) else (.inl (0, 4, .inl fun _ => 0)))))) else (if k < 55 then (if k < 52 then (if k < 51 then (.inr (2, [.int (0), .int (0), .ref 51, .ref 52, .ref 53, .ref 62, .ref 63, .int (0), .int (0)])) else (.inl (1, 2025, .inr (.inl fun _ => 0)))) else (if k < 53 then (.inl (1, 2025, .inr (.inl fun _ => 0))) else (if k < 54 then (.inl (6, 8, .inr (.inr (.inr (.inr fun j => if j < 8 then some (54 + j) else none))))) else (.inl (1, 13, .inr (.inl fun _ => 0)))))) else (if k < 57 then (if k < 56 then (.inl (1, 13, .inr (.inl fun _ => 0))) else (.inl (1, 13, .inr (.inl fun _ => 0)))) else (if k < 58 then (.inl (1, 13, .inr (.inl fun _ => 0))) else (if k < 59 then (.inl (1, 13, .inr (.inl fun _ => 0))) else (.inl (1, 13, .inr (.inl fun _ => 0)))))))) else (if k < 70 then (if k < 65 then (if k < 62 then (if k < 61 then (.inl (1, 13, .inr (.inl fun _ => 0))) else (.inl (1, 13, .inr (.inl fun _ => 0)))) else (if k < 63 then (.inl (1, 25, .inr (.inl fun _ => 0))) else (if k < 64 then (.inl (1, 533, .inr (.inl fun _ => 0))) else (.inr (1, [.int (0), .ref 65, .ref 66, .ref 67]))))) else (if k < 67 then (if k < 66 then (.inl (0, 30, .inl fun _ => 0)) else (.inl (0, 30, .inl fun _ => 0))) else (if k < 68 then (.inl (0, 30, .inl fun _ => 0)) else (if k < 69 then (.inl (0, 12, .inl fun _ => 0)) else (.inl (0, 12, .inl fun _ => 0)))))) else (if k < 75 then (if k < 72 then (if k < 71 then (.inl (3, 4, .inr (.inr (.inr (.inr fun j => if j < 4 then some (98 + 4 * j) else none))))) else (.inr (0, [.int (0), .int (0), .ref 72]))) else (if k < 73 then (.inl (3, 6, .inr (.inr (.inr (.inr fun j => if j < 6 then some (73 + 4 * j) else none))))) else (if k < 74 then (.inr (9, [.int (0), .int (0), .ref 74, .ref 75, .ref 76])) else (.inl (0, 8, .inl fun _ => 0))))) else (if k < 77 then (if k < 76 then (.inl (0, 16, .inl fun _ => 0)) else (.inl (0, 16, .inl fun _ => 0))) else (if k < 78 then (.inr (9, [.int (0), .int (0), .ref 78, .ref 79, .ref 80])) else (if k < 79 then (.inl (0, 8, .inl fun _ => 0)) else (.inl (0, 16, .inl fun _ => 0))))))))) else (if k < 120 then (if k < 100 then (if k < 90 then (if k < 85 then (if k < 82 then (if k < 81 then (.inl (0, 16, .inl fun _ => 0)) else (.inr (9, [.int (0), .int (0), .ref 82, .ref 83, .ref 84]))) else (if k < 83 then (.inl (0, 8, .inl fun _ => 0)) else (if k < 84 then (.inl (0, 16, .inl fun _ => 0)) else (.inl (0, 16, .inl fun _ => 0))))) else (if k < 87 then (if k < 86 then (.inr (9, [.int (0), .int (0), .ref 86, .ref 87, .ref 88])) else (.inl (0, 8, .inl fun _ => 0))) else (if k < 88 then (.inl (0, 16, .inl fun _ => 0)) else (if k < 89 then (.inl (0, 16, .inl fun _ => 0)) else (.inr (9, [.int (0), .int (0), .ref 90, .ref 91, .ref 92])))))) else (if k < 95 then (if k < 92 then (if k < 91 then (.inl (0, 8, .inl fun _ => 0)) else (.inl (0, 16, .inl fun _ => 0))) else (if k < 93 then (.inl (0, 16, .inl fun _ => 0)) else (if k < 94 then (.inr (9, [.int (0), .int (0), .ref 94, .ref 95, .ref 96])) else (.inl (0, 8, .inl fun _ => 0))))) else (if k < 97 then (if k < 96 then (.inl (0, 16, .inl fun _ => 0)) else (.inl (0, 16, .inl fun _ => 0))) else (if k < 98 then (.inl (4, 4, .inr (.inr (.inr (.inr fun j => if j < 4 then some (114 + 2 * j) else none))))) else (if k < 99 then (.inr (9, [.int (0), .int (0), .ref 99, .ref 100, .ref 101])) else (.inl (0, 8, .inl fun _ => 0))))))) else (if k < 110 then (if k < 105 then (if k < 102 then (if k < 101 then (.inl (0, 16, .inl fun _ => 0)) else (.inl (0, 16, .inl fun _ => 0))) else (if k < 103 then (.inr (9, [.int (0), .int (0), .ref 103, .ref 104, .ref 105])) else (if k < 104 then (.inl (0, 8, .inl fun _ => 0)) else (.inl (0, 16, .inl fun _ => 0))))) else (if k < 107 then (if k < 106 then (.inl (0, 16, .inl fun _ => 0)) else (.inr (9, [.int (0), .int (0), .ref 107, .ref 108, .ref 109]))) else (if k < 108 then (.inl (0, 8, .inl fun _ => 0)) else (if k < 109 then (.inl (0, 16, .inl fun _ => 0)) else (.inl (0, 16, .inl fun _ => 0)))))) else (if k < 115 then (if k < 112 then (if k < 111 then (.inr (9, [.int (0), .int (0), .ref 111, .ref 112, .ref 113])) else (.inl (0, 8, .inl fun _ => 0))) else (if k < 113 then (.inl (0, 16, .inl fun _ => 0)) else (if k < 114 then (.inl (0, 16, .inl fun _ => 0)) else (.inr (7, [.int (0), .ref 115, .int (-1)]))))) else (if k < 117 then (if k < 116 then (.inl (0, 60, .inl fun _ => 0)) else (.inr (7, [.int (0), .ref 117, .int (-1)]))) else (if k < 118 then (.inl (0, 60, .inl fun _ => 0)) else (if k < 119 then (.inr (7, [.int (0), .ref 119, .int (-1)])) else (.inl (0, 60, .inl fun _ => 0)))))))) else (if k < 140 then (if k < 130 then (if k < 125 then (if k < 122 then (if k < 121 then (.inr (7, [.int (0), .ref 121, .int (-1)])) else (.inl (0, 60, .inl fun _ => 0))) else (if k < 123 then (.inr (12, [.int (0), .ref 123, .ref 124, .ref 125, .ref 126, .int (0), .ref 127, .ref 128, .ref 129, .ref 130, .ref 131, .ref 132, .int (0), .ref 133, .ref 134, .ref 135, .ref 136, .ref 137, .int (0), .ref 138, .ref 139, .long (0), .ref 140, .int (0), .int (0), .ref 141, .int (0), .int (0), .int (0), .int (0), .int (0), .int (0), .int (0), .int (0), .int (0), .ref 142, .ref 143, .ref 144, .int (0), .ref 145, .ref 146, .ref 147, .ref 148, .int (0), .ref 149, .ref 150, .ref 151, .int (0), .ref 152, .ref 153, .ref 154, .ref 155, .int (0), .ref 156, .int (0), .ref 157, .ref 158, .ref 159, .ref 160])) else (if k < 124 then (.inl (0, 8, .inl fun _ => 0)) else (.inl (0, 8, .inl fun _ => 0))))) else (if k < 127 then (if k < 126 then (.inl (0, 8, .inl fun _ => 0)) else (.inl (0, 8, .inl fun _ => 0))) else (if k < 128 then (.inl (0, 16, .inl fun _ => 0)) else (if k < 129 then (.inl (0, 16, .inl fun _ => 0)) else (.inl (0, 16, .inl fun _ => 0)))))) else (if k < 135 then (if k < 132 then (if k < 131 then (.inl (0, 16, .inl fun _ => 0)) else (.inl (0, 16, .inl fun _ => 0))) else (if k < 133 then (.inl (0, 16, .inl fun _ => 0)) else (if k < 134 then (.inl (0, 16, .inl fun _ => 0)) else (.inl (0, 16, .inl fun _ => 0))))) else (if k < 137 then (if k < 136 then (.inl (0, 16, .inl fun _ => 0)) else (.inl (0, 8, .inl fun _ => 0))) else (if k < 138 then (.inl (0, 64, .inl fun _ => 0)) else (if k < 139 then (.inl (0, 8, .inl fun _ => 0)) else (.inl (1, 64, .inr (.inl fun _ => 0)))))))) else (if k < 150 then (if k < 145 then (if k < 142 then (if k < 141 then (.inl (0, 8, .inl fun _ => 0)) else (.inl (0, 80, .inl fun _ => 0))) else (if k < 143 then (.inl (0, 4, .inl fun _ => 0)) else (if k < 144 then (.inl (0, 4, .inl fun _ => 0)) else (.inl (0, 4, .inl fun _ => 0))))) else (if k < 147 then (if k < 146 then (.inl (0, 4, .inl fun _ => 0)) else (.inl (0, 4, .inl fun _ => 0))) else (if k < 148 then (.inl (0, 4, .inl fun _ => 0)) else (if k < 149 then (.inl (1, 30375, .inr (.inl fun _ => 0))) else (.inl (0, 40, .inl fun _ => 0)))))) else (if k < 155 then (if k < 152 then (if k < 151 then (.inl (0, 40, .inl fun _ => 0)) else (.inl (0, 40, .inl fun _ => 0))) else (if k < 153 then (.inl (0, 12, .inl fun _ => 0)) else (if k < 154 then (.inl (0, 12, .inl fun _ => 0)) else (.inl (1, 4, .inr (.inl fun _ => 0)))))) else (if k < 158 then (if k < 156 then (.inl (1, 4, .inr (.inl fun _ => 0))) else (if k < 157 then (.inl (0, 200, .inl fun _ => 0)) else (.inl (0, 300, .inl fun _ => 0)))) else (if k < 159 then (.inl (0, 4, .inl fun j => if j < 4 then (-4) else 0)) else (if k < 160 then (.inl (0, 4, .inl fun _ => 0)) else (.inl (0, 240, .inl fun _ => 0)))))))))
def am_S1 : am_S := (161, 38646, am_h1)
abbrev am_L1 : am_L := [(2, .ref 122), (1, .ref 0), (0, .retAddr 0)]
abbrev am_L3 : am_L := [(3, .int 0), (2, .ref 122), (1, .ref 0), (0, .retAddr 0)]
def am_Qf (r : Option Value × am_S) : Prop := r.1 = some (.int 1) ∧ r.2.1 ≤ 600000 ∧ r.2.2.1 ≤ 7302250
def am_pre1 : Bool := match am_xt 16 3000 20 262 (0, [(0, .retAddr 0)], [], am_S0) with
  | some F => decide (F.1 = 16) && decide (F.2.1 = am_L1) && decide (F.2.2.1 = []) && am_Seq F.2.2.2 am_S1
  | none => false
set_option maxRecDepth 1000000 in
theorem am_pre : am_pre1 = true := by decide +kernel
theorem am_len4 {t : Term} {args : Array Value} {s : State} {a : Addr} {cell : Cell} (ht : t.eval args s none [] s = some (.ref a)) (hat : s.arrayAt? a = some cell) (h : (Term.length t).eval args s none [] s = some (.int 4)) : cell.slots.size = 4 := by
  simp only [Term.eval, ht, hat, Option.bind_eq_bind, Option.bind_some] at h
  by_cases hlt : cell.slots.size < 2 ^ 31
  · rw [if_pos hlt] at h
    have h9 : cell.slots.size.toInt32 = 4 := by
      have h1 := h
      simp at h1
      exact h1
    have h10 : (Int32.ofNat cell.slots.size).toInt = (Int32.ofNat 4).toInt := congrArg Int32.toInt (show Int32.ofNat cell.slots.size = Int32.ofNat 4 from h9)
    rw [Int32.toInt_ofNat_of_lt hlt, Int32.toInt_ofNat_of_lt (by decide)] at h10
    omega
  · rw [if_neg hlt] at h
    cases h
/-- what the Statement says of the String constant at the start -/
theorem am_St0 {s : State} {b : Nat} (hts : ∀ w ∈ lw_tbl, w.before #[Value.ref b] s = true) (hgv : (Jvm.Cond.and given_1 narrow_1).before #[Value.ref b] s = true) : am_St s.heap.size s s.heap := by
  have hs := flat_of_before _ hgv
  have hA : ∀ a : Nat, a < s.heap.size → ¬ s.heap.size ≤ a := fun a h => Nat.not_le.mpr h
  have hst : (Cond.eq (.static "java/lang/String" "COMPACT_STRINGS" "Z") (.int 1)).before #[Value.ref b] s = true := hs _ (by decide +kernel)
  have hex : (Cond.exactly (.string "AtomLadders$ShellText" 81) "java/lang/String").before #[Value.ref b] s = true := hs _ (by decide +kernel)
  have hco : (Cond.eq (.field (.string "AtomLadders$ShellText" 81) "java/lang/String" "coder" "B") (.int 0)).before #[Value.ref b] s = true := hs _ (by decide +kernel)
  have har : (Cond.arrayOf (.field (.string "AtomLadders$ShellText" 81) "java/lang/String" "value" "[B") .byte).before #[Value.ref b] s = true := hs _ (by decide +kernel)
  have hle : (Cond.eq (.length (.field (.string "AtomLadders$ShellText" 81) "java/lang/String" "value" "[B")) (.int 4)).before #[Value.ref b] s = true := hs _ (by decide +kernel)
  have h0 : (Cond.eq (.elem (.field (.string "AtomLadders$ShellText" 81) "java/lang/String" "value" "[B") (.int 0)) (.int 115)).before #[Value.ref b] s = true := hs _ (by decide +kernel)
  have h1 : (Cond.eq (.elem (.field (.string "AtomLadders$ShellText" 81) "java/lang/String" "value" "[B") (.int 1)) (.int 112)).before #[Value.ref b] s = true := hs _ (by decide +kernel)
  have h2 : (Cond.eq (.elem (.field (.string "AtomLadders$ShellText" 81) "java/lang/String" "value" "[B") (.int 2)) (.int 100)).before #[Value.ref b] s = true := hs _ (by decide +kernel)
  have h3 : (Cond.eq (.elem (.field (.string "AtomLadders$ShellText" 81) "java/lang/String" "value" "[B") (.int 3)) (.int 102)).before #[Value.ref b] s = true := hs _ (by decide +kernel)
  obtain ⟨q, c, cq, k, e1, e2, e3, e4, e5, e6, e7⟩ := Cond.exactly_spec hex
  subst e6
  have fd : ∀ {n d : String} {w : Value}, (Term.field (.string "AtomLadders$ShellText" 81) "java/lang/String" n d).eval #[Value.ref b] s none [] s = some w → cq.vm ≠ .unknown ∧ am_F1 n d w cq s := by
    intro n d w hw
    cases hfo : s.fieldFound? "java/lang/String" n d with
    | none =>
      rw [va_fe e1] at hw
      simp [State.fieldOf?, State.fieldNamed?, hfo] at hw
    | some z =>
      obtain ⟨cf, kf, fi, f⟩ := z
      obtain ⟨g1, cell, g2, g3, -, g5, g6⟩ := Term.field_spec hfo e1 hw
      cases e3.symm.trans g2
      exact ⟨g3, cf, kf, fi, f, hfo, g1, g5, g6⟩
  have hlv := va_eqt hle
  obtain ⟨v, cv, t1, t2, -⟩ := Term.length_spec hlv
  obtain ⟨v1, v2, -, -⟩ := State.arrayAt?_spec t2
  have hsz : cv.slots.size = 4 := am_len4 t1 t2 hlv
  have el : ∀ {j : Nat} {z : Int32}, j < 4 → (Term.elem (.field (.string "AtomLadders$ShellText" 81) "java/lang/String" "value" "[B") (.int (Int32.ofNat j))).eval #[Value.ref b] s none [] s = some (.int z) → cv.slots[j]? = some (.int z) := by
    intro j z hj hz
    obtain ⟨a, i, cell, g1, g2, g3, g4, g5⟩ := Term.elem_spec hz
    cases t1.symm.trans g1
    cases t2.symm.trans g3
    have hi : i = Int32.ofNat j := by
      have e : (Term.int (Int32.ofNat j)).eval #[Value.ref b] s none [] s = some (.int (Int32.ofNat j)) := rfl
      cases g2.symm.trans e
      rfl
    have hc : i.toNatClampNeg = j := by rw [hi]; exact Int32.toNatClampNeg_ofNat_of_lt (by omega)
    rw [hc] at g5
    exact g5
  have y0 := el (j := 0) (by decide) (va_eqt h0)
  have y1 := el (j := 1) (by decide) (va_eqt h1)
  have y2 := el (j := 2) (by decide) (va_eqt h2)
  have y3 := el (j := 3) (by decide) (va_eqt h3)
  have hsl : cv.slots = am_sB.slots := by
    apply Array.ext_getElem?
    intro i
    match i with
    | 0 => rw [y0]; rfl
    | 1 => rw [y1]; rfl
    | 2 => rw [y2]; rfl
    | 3 => rw [y3]; rfl
    | i + 4 =>
      rw [Array.getElem?_eq_none (by omega), Array.getElem?_eq_none (by show 4 ≤ i + 4; omega)]
  refine ⟨q, v, cq, cv, vk_R.of (hts _ (am_w_in (p := 4071) rfl)) ?_, va_Zof (hts _ (am_w_in (p := 4085) rfl)) (hts _ (am_w_in (p := 1017) rfl)) (va_eqt hst) hA, e3, hA q (Array.getElem?_eq_some_iff.mp e3).1, v1, hA v (Array.getElem?_eq_some_iff.mp v1).1, e5, (fd (va_eqt hco)).1, e2, ⟨k, e4, e7⟩, (fd (va_eqt hco)).2, (fd t1).2, (Cond.arrayOf_spec har t1 v1).1, v2, hsl⟩
  exact e1
/-- the law's walk out of a run behind both constructors -/
theorem am_start2 {p : Program} {e : Env} {s : State} {m : MethodId} {below : List Frame} {meth : Method} {c : Code} (l : Launch) {b L : Nat} {xs : Nat → Int32} (C0 : lw_At p s m meth c b L xs) (hrun : am_V (some (L, xs)) 20 262 16 am_L1 [] am_S1 am_Qf) : W p l e room_1 s m #[Value.ref b] below meth c s.heap [] 0 0 (lw_Z below #[Value.ref b] s) (entryFrame m ([Value.ref b] : List Value).toArray 4) := by
  obtain ⟨hx, hb, hr, hml, hown, hts, hX, hbl, hlocks, hgv⟩ := C0
  obtain ⟨f, ⟨r, S'⟩, hrun, hr1, hS1, hS2⟩ := hrun
  replace hr1 : r = some (.int 1) := hr1
  subst hr1
  obtain ⟨D, cA, hK⟩ := am_world hts
  have hp := am_pre
  unfold am_pre1 at hp
  split at hp
  · rename_i F hF
    obtain ⟨-, T⟩ := am_soundT l 16 _ _ _ _ _ hF
    obtain ⟨pc, LL, st, SS⟩ := F
    simp only [Bool.and_eq_true, decide_eq_true_eq] at hp
    obtain ⟨⟨⟨rfl, rfl⟩, rfl⟩, hsq⟩ := hp
    have h161 : SS.1 = 161 ∧ SS.2.1 = 38646 := by
      have h := hsq
      unfold am_Seq at h
      simp only [Bool.and_eq_true, decide_eq_true_eq] at h
      exact ⟨h.1.1, h.1.2⟩
    obtain ⟨-, -, key⟩ := am_sound l f _ _ _ _ _ _ _ _ _ hrun
    have hN : am_Ns s := ⟨fun a i y h hw => va_Nw.of rfl (hts _ hw), hts _ (am_w_in (p := 2068) rfl), hts _ (am_w_in (p := 2111) rfl), hts _ (am_w_in (p := 1116) rfl), hts _ (am_w_in (p := 1140) rfl)⟩
    have hSt : am_St s.heap.size s s.heap := am_St0 hts hgv
    have C : am_Cx p s m #[Value.ref b] meth c s.heap.size 0 cA D 262 := ⟨hx, hb, hml, hown, fun w hw => hts w (List.mem_filter.mp hw).1, hK, hN, rfl, fun h => absurd (show "law" = "<init>" from h) (by decide), hSt⟩
    have hl := lv_entry ([.ref b]) (n := 4) (Nat.le_of_ble_eq_true rfl)
    rw [lg_entry_eq]
    refine T p e room_1 s m #[Value.ref b] below meth c (lw_Z below #[Value.ref b] s) s.heap.size 0 0 (fun _ => b) cA D C (Nat.le_refl _) (Nat.le_refl _) (by show SS.1 ≤ 0 + 600000; omega) (by show SS.2.1 ≤ 0 + 7302250; omega) (by decide) (by decide) ?_ s.heap [] _ ⟨rfl, fun k q h => by simp [am_ws, am_S0] at h⟩ va_S.rf hl
    refine am_K.sw hsq ?_
    refine key p e room_1 s m #[Value.ref b] below meth c (lw_Z below #[Value.ref b] s) s.heap.size 0 0 (fun _ => b) cA D C ⟨hX, hbl, Nat.not_le.mpr hbl⟩ (Nat.zero_le _) (Nat.zero_le _) (by show S'.1 ≤ 0 + 600000; dsimp only at hS1; omega) (by show S'.2.1 ≤ 0 + 7302250; dsimp only at hS2; omega) (by decide) (by decide) ?_
    intro pcR iR L' stR hd hret H locs ls hG hS hl1
    rcases am_ret_s hret with ⟨v, -, -, ht, -⟩ | ⟨v, rfl, rfl, -, -, hv⟩ | ⟨v, -, -, ht, -⟩ | ⟨-, -, ht, -⟩
    · cases ht
    · cases hv
      refine va_forget (fun q hq => hS.2.2 q hq) ?_
      refine W.widen (k := 600000) (n := 7302250) (by show S'.1 - 0 ≤ 600000; dsimp only at hS1; omega) (by show S'.2.1 - 0 ≤ 7302250; dsimp only at hS2; omega) ?_
      exact lw_ret hx hb hr hlocks hd
    · cases ht
    · cases ht
  · cases hp
