/-! ===== the class counts the choices of one h ===== -/
section CH
variable {Q : Option Value × am_S → Prop} {d : Nat}
set_option maxRecDepth 100000 in
theorem fh0_V {S : am_S} {v : Int64} (hP : ax_P0 none S) (hv : v.toInt = 0) (K : ∀ S', ax_P0 none S' → (∀ c x, c ≠ 54 → rd S' c x = rd S c x) → (∀ x : Nat, x < 13 → rd S' 54 (x : Int) = 0) → Q (none, S')) : am_V none d 260 0 [(0, .ref 54), (1, .long v)] [] S Q := by
  have hl : ∀ (q j : Nat), j + q = 13 → ∀ S1 L, ax_P0 none S1 → (∀ c x, c ≠ 54 → rd S1 c x = rd S c x) → (∀ x : Nat, x < j → rd S1 54 (x : Int) = 0) → lc L 0 54 → lj L 1 0 → li L 3 (j : Int) → li L 4 13 → am_V none d 260 6 L [] S1 Q := by
    intro q
    induction q with
    | zero =>
      intro j hj S1 L hP1 fr hz l0 l1 l3 l4
      obtain rfl : j = 13 := by omega
      refine sg_fh0_b (Nat.zero_le _) hP1 l0 l1 l3 l4 (by omega) (by omega) (by omega) ?_ ?_
      · intro S' hP' e _ _ _ _
        exact K S' hP' (fun c x h => by rw [e]; exact fr c x h) (fun x hx => by rw [e]; exact hz x hx)
      · intros
        omega
    | succ q ih =>
      intro j hj S1 L hP1 fr hz l0 l1 l3 l4
      refine sg_fh0_b (Nat.zero_le _) hP1 l0 l1 l3 l4 (by omega) (by omega) (by omega) ?_ ?_
      · intros
        omega
      · intro L' S' hP' e _ _ _ _ p0 p1 p3 p4
        refine ih (j + 1) (by omega) S' L' hP' (fun c x h => by rw [e, sg_upc h]; exact fr c x h) (fun x hx => ?_) p0 p1 (li_s p3) p4
        rw [e]
        by_cases c : x = j
        · rw [c, sg_ups]
        · rw [sg_upi (by omega)]
          exact hz x (by omega)
  refine sg_fh0_a (x1 := v.toInt) (Nat.zero_le _) hP (lc_of rfl) (lj_of rfl) (by omega) ?_
  intro L' _ p0 p1 p3 p4
  exact hl 13 0 rfl S L' hP (fun _ _ _ => rfl) (fun x hx => absurd hx (Nat.not_lt_zero _)) p0 p1 p3 p4
set_option maxRecDepth 100000 in
theorem fh1_V {S : am_S} {v : Int64} (hP : ax_P0 none S) (hv : v.toInt = 0) (K : ∀ S', ax_P0 none S' → (∀ c x, c ≠ 55 → rd S' c x = rd S c x) → (∀ x : Nat, x < 13 → rd S' 55 (x : Int) = 0) → Q (none, S')) : am_V none d 260 0 [(0, .ref 55), (1, .long v)] [] S Q := by
  have hl : ∀ (q j : Nat), j + q = 13 → ∀ S1 L, ax_P0 none S1 → (∀ c x, c ≠ 55 → rd S1 c x = rd S c x) → (∀ x : Nat, x < j → rd S1 55 (x : Int) = 0) → lc L 0 55 → lj L 1 0 → li L 3 (j : Int) → li L 4 13 → am_V none d 260 6 L [] S1 Q := by
    intro q
    induction q with
    | zero =>
      intro j hj S1 L hP1 fr hz l0 l1 l3 l4
      obtain rfl : j = 13 := by omega
      refine sg_fh1_b (Nat.zero_le _) hP1 l0 l1 l3 l4 (by omega) (by omega) (by omega) ?_ ?_
      · intro S' hP' e _ _ _ _
        exact K S' hP' (fun c x h => by rw [e]; exact fr c x h) (fun x hx => by rw [e]; exact hz x hx)
      · intros
        omega
    | succ q ih =>
      intro j hj S1 L hP1 fr hz l0 l1 l3 l4
      refine sg_fh1_b (Nat.zero_le _) hP1 l0 l1 l3 l4 (by omega) (by omega) (by omega) ?_ ?_
      · intros
        omega
      · intro L' S' hP' e _ _ _ _ p0 p1 p3 p4
        refine ih (j + 1) (by omega) S' L' hP' (fun c x h => by rw [e, sg_upc h]; exact fr c x h) (fun x hx => ?_) p0 p1 (li_s p3) p4
        rw [e]
        by_cases c : x = j
        · rw [c, sg_ups]
        · rw [sg_upi (by omega)]
          exact hz x (by omega)
  refine sg_fh1_a (x1 := v.toInt) (Nat.zero_le _) hP (lc_of rfl) (lj_of rfl) (by omega) ?_
  intro L' _ p0 p1 p3 p4
  exact hl 13 0 rfl S L' hP (fun _ _ _ => rfl) (fun x hx => absurd hx (Nat.not_lt_zero _)) p0 p1 p3 p4
set_option maxRecDepth 100000 in
theorem fh2_V {S : am_S} {v : Int64} (hP : ax_P0 none S) (hv : v.toInt = 0) (K : ∀ S', ax_P0 none S' → (∀ c x, c ≠ 56 → rd S' c x = rd S c x) → (∀ x : Nat, x < 13 → rd S' 56 (x : Int) = 0) → Q (none, S')) : am_V none d 260 0 [(0, .ref 56), (1, .long v)] [] S Q := by
  have hl : ∀ (q j : Nat), j + q = 13 → ∀ S1 L, ax_P0 none S1 → (∀ c x, c ≠ 56 → rd S1 c x = rd S c x) → (∀ x : Nat, x < j → rd S1 56 (x : Int) = 0) → lc L 0 56 → lj L 1 0 → li L 3 (j : Int) → li L 4 13 → am_V none d 260 6 L [] S1 Q := by
    intro q
    induction q with
    | zero =>
      intro j hj S1 L hP1 fr hz l0 l1 l3 l4
      obtain rfl : j = 13 := by omega
      refine sg_fh2_b (Nat.zero_le _) hP1 l0 l1 l3 l4 (by omega) (by omega) (by omega) ?_ ?_
      · intro S' hP' e _ _ _ _
        exact K S' hP' (fun c x h => by rw [e]; exact fr c x h) (fun x hx => by rw [e]; exact hz x hx)
      · intros
        omega
    | succ q ih =>
      intro j hj S1 L hP1 fr hz l0 l1 l3 l4
      refine sg_fh2_b (Nat.zero_le _) hP1 l0 l1 l3 l4 (by omega) (by omega) (by omega) ?_ ?_
      · intros
        omega
      · intro L' S' hP' e _ _ _ _ p0 p1 p3 p4
        refine ih (j + 1) (by omega) S' L' hP' (fun c x h => by rw [e, sg_upc h]; exact fr c x h) (fun x hx => ?_) p0 p1 (li_s p3) p4
        rw [e]
        by_cases c : x = j
        · rw [c, sg_ups]
        · rw [sg_upi (by omega)]
          exact hz x (by omega)
  refine sg_fh2_a (x1 := v.toInt) (Nat.zero_le _) hP (lc_of rfl) (lj_of rfl) (by omega) ?_
  intro L' _ p0 p1 p3 p4
  exact hl 13 0 rfl S L' hP (fun _ _ _ => rfl) (fun x hx => absurd hx (Nat.not_lt_zero _)) p0 p1 p3 p4
set_option maxRecDepth 100000 in
theorem fh3_V {S : am_S} {v : Int64} (hP : ax_P0 none S) (hv : v.toInt = 0) (K : ∀ S', ax_P0 none S' → (∀ c x, c ≠ 57 → rd S' c x = rd S c x) → (∀ x : Nat, x < 13 → rd S' 57 (x : Int) = 0) → Q (none, S')) : am_V none d 260 0 [(0, .ref 57), (1, .long v)] [] S Q := by
  have hl : ∀ (q j : Nat), j + q = 13 → ∀ S1 L, ax_P0 none S1 → (∀ c x, c ≠ 57 → rd S1 c x = rd S c x) → (∀ x : Nat, x < j → rd S1 57 (x : Int) = 0) → lc L 0 57 → lj L 1 0 → li L 3 (j : Int) → li L 4 13 → am_V none d 260 6 L [] S1 Q := by
    intro q
    induction q with
    | zero =>
      intro j hj S1 L hP1 fr hz l0 l1 l3 l4
      obtain rfl : j = 13 := by omega
      refine sg_fh3_b (Nat.zero_le _) hP1 l0 l1 l3 l4 (by omega) (by omega) (by omega) ?_ ?_
      · intro S' hP' e _ _ _ _
        exact K S' hP' (fun c x h => by rw [e]; exact fr c x h) (fun x hx => by rw [e]; exact hz x hx)
      · intros
        omega
    | succ q ih =>
      intro j hj S1 L hP1 fr hz l0 l1 l3 l4
      refine sg_fh3_b (Nat.zero_le _) hP1 l0 l1 l3 l4 (by omega) (by omega) (by omega) ?_ ?_
      · intros
        omega
      · intro L' S' hP' e _ _ _ _ p0 p1 p3 p4
        refine ih (j + 1) (by omega) S' L' hP' (fun c x h => by rw [e, sg_upc h]; exact fr c x h) (fun x hx => ?_) p0 p1 (li_s p3) p4
        rw [e]
        by_cases c : x = j
        · rw [c, sg_ups]
        · rw [sg_upi (by omega)]
          exact hz x (by omega)
  refine sg_fh3_a (x1 := v.toInt) (Nat.zero_le _) hP (lc_of rfl) (lj_of rfl) (by omega) ?_
  intro L' _ p0 p1 p3 p4
  exact hl 13 0 rfl S L' hP (fun _ _ _ => rfl) (fun x hx => absurd hx (Nat.not_lt_zero _)) p0 p1 p3 p4
set_option maxRecDepth 100000 in
theorem fh4_V {S : am_S} {v : Int64} (hP : ax_P0 none S) (hv : v.toInt = 0) (K : ∀ S', ax_P0 none S' → (∀ c x, c ≠ 58 → rd S' c x = rd S c x) → (∀ x : Nat, x < 13 → rd S' 58 (x : Int) = 0) → Q (none, S')) : am_V none d 260 0 [(0, .ref 58), (1, .long v)] [] S Q := by
  have hl : ∀ (q j : Nat), j + q = 13 → ∀ S1 L, ax_P0 none S1 → (∀ c x, c ≠ 58 → rd S1 c x = rd S c x) → (∀ x : Nat, x < j → rd S1 58 (x : Int) = 0) → lc L 0 58 → lj L 1 0 → li L 3 (j : Int) → li L 4 13 → am_V none d 260 6 L [] S1 Q := by
    intro q
    induction q with
    | zero =>
      intro j hj S1 L hP1 fr hz l0 l1 l3 l4
      obtain rfl : j = 13 := by omega
      refine sg_fh4_b (Nat.zero_le _) hP1 l0 l1 l3 l4 (by omega) (by omega) (by omega) ?_ ?_
      · intro S' hP' e _ _ _ _
        exact K S' hP' (fun c x h => by rw [e]; exact fr c x h) (fun x hx => by rw [e]; exact hz x hx)
      · intros
        omega
    | succ q ih =>
      intro j hj S1 L hP1 fr hz l0 l1 l3 l4
      refine sg_fh4_b (Nat.zero_le _) hP1 l0 l1 l3 l4 (by omega) (by omega) (by omega) ?_ ?_
      · intros
        omega
      · intro L' S' hP' e _ _ _ _ p0 p1 p3 p4
        refine ih (j + 1) (by omega) S' L' hP' (fun c x h => by rw [e, sg_upc h]; exact fr c x h) (fun x hx => ?_) p0 p1 (li_s p3) p4
        rw [e]
        by_cases c : x = j
        · rw [c, sg_ups]
        · rw [sg_upi (by omega)]
          exact hz x (by omega)
  refine sg_fh4_a (x1 := v.toInt) (Nat.zero_le _) hP (lc_of rfl) (lj_of rfl) (by omega) ?_
  intro L' _ p0 p1 p3 p4
  exact hl 13 0 rfl S L' hP (fun _ _ _ => rfl) (fun x hx => absurd hx (Nat.not_lt_zero _)) p0 p1 p3 p4
set_option maxRecDepth 100000 in
theorem fh5_V {S : am_S} {v : Int64} (hP : ax_P0 none S) (hv : v.toInt = 0) (K : ∀ S', ax_P0 none S' → (∀ c x, c ≠ 59 → rd S' c x = rd S c x) → (∀ x : Nat, x < 13 → rd S' 59 (x : Int) = 0) → Q (none, S')) : am_V none d 260 0 [(0, .ref 59), (1, .long v)] [] S Q := by
  have hl : ∀ (q j : Nat), j + q = 13 → ∀ S1 L, ax_P0 none S1 → (∀ c x, c ≠ 59 → rd S1 c x = rd S c x) → (∀ x : Nat, x < j → rd S1 59 (x : Int) = 0) → lc L 0 59 → lj L 1 0 → li L 3 (j : Int) → li L 4 13 → am_V none d 260 6 L [] S1 Q := by
    intro q
    induction q with
    | zero =>
      intro j hj S1 L hP1 fr hz l0 l1 l3 l4
      obtain rfl : j = 13 := by omega
      refine sg_fh5_b (Nat.zero_le _) hP1 l0 l1 l3 l4 (by omega) (by omega) (by omega) ?_ ?_
      · intro S' hP' e _ _ _ _
        exact K S' hP' (fun c x h => by rw [e]; exact fr c x h) (fun x hx => by rw [e]; exact hz x hx)
      · intros
        omega
    | succ q ih =>
      intro j hj S1 L hP1 fr hz l0 l1 l3 l4
      refine sg_fh5_b (Nat.zero_le _) hP1 l0 l1 l3 l4 (by omega) (by omega) (by omega) ?_ ?_
      · intros
        omega
      · intro L' S' hP' e _ _ _ _ p0 p1 p3 p4
        refine ih (j + 1) (by omega) S' L' hP' (fun c x h => by rw [e, sg_upc h]; exact fr c x h) (fun x hx => ?_) p0 p1 (li_s p3) p4
        rw [e]
        by_cases c : x = j
        · rw [c, sg_ups]
        · rw [sg_upi (by omega)]
          exact hz x (by omega)
  refine sg_fh5_a (x1 := v.toInt) (Nat.zero_le _) hP (lc_of rfl) (lj_of rfl) (by omega) ?_
  intro L' _ p0 p1 p3 p4
  exact hl 13 0 rfl S L' hP (fun _ _ _ => rfl) (fun x hx => absurd hx (Nat.not_lt_zero _)) p0 p1 p3 p4
set_option maxRecDepth 100000 in
theorem fh6_V {S : am_S} {v : Int64} (hP : ax_P0 none S) (hv : v.toInt = 0) (K : ∀ S', ax_P0 none S' → (∀ c x, c ≠ 60 → rd S' c x = rd S c x) → (∀ x : Nat, x < 13 → rd S' 60 (x : Int) = 0) → Q (none, S')) : am_V none d 260 0 [(0, .ref 60), (1, .long v)] [] S Q := by
  have hl : ∀ (q j : Nat), j + q = 13 → ∀ S1 L, ax_P0 none S1 → (∀ c x, c ≠ 60 → rd S1 c x = rd S c x) → (∀ x : Nat, x < j → rd S1 60 (x : Int) = 0) → lc L 0 60 → lj L 1 0 → li L 3 (j : Int) → li L 4 13 → am_V none d 260 6 L [] S1 Q := by
    intro q
    induction q with
    | zero =>
      intro j hj S1 L hP1 fr hz l0 l1 l3 l4
      obtain rfl : j = 13 := by omega
      refine sg_fh6_b (Nat.zero_le _) hP1 l0 l1 l3 l4 (by omega) (by omega) (by omega) ?_ ?_
      · intro S' hP' e _ _ _ _
        exact K S' hP' (fun c x h => by rw [e]; exact fr c x h) (fun x hx => by rw [e]; exact hz x hx)
      · intros
        omega
    | succ q ih =>
      intro j hj S1 L hP1 fr hz l0 l1 l3 l4
      refine sg_fh6_b (Nat.zero_le _) hP1 l0 l1 l3 l4 (by omega) (by omega) (by omega) ?_ ?_
      · intros
        omega
      · intro L' S' hP' e _ _ _ _ p0 p1 p3 p4
        refine ih (j + 1) (by omega) S' L' hP' (fun c x h => by rw [e, sg_upc h]; exact fr c x h) (fun x hx => ?_) p0 p1 (li_s p3) p4
        rw [e]
        by_cases c : x = j
        · rw [c, sg_ups]
        · rw [sg_upi (by omega)]
          exact hz x (by omega)
  refine sg_fh6_a (x1 := v.toInt) (Nat.zero_le _) hP (lc_of rfl) (lj_of rfl) (by omega) ?_
  intro L' _ p0 p1 p3 p4
  exact hl 13 0 rfl S L' hP (fun _ _ _ => rfl) (fun x hx => absurd hx (Nat.not_lt_zero _)) p0 p1 p3 p4
set_option maxRecDepth 100000 in
theorem fh7_V {S : am_S} {v : Int64} (hP : ax_P0 none S) (hv : v.toInt = 0) (K : ∀ S', ax_P0 none S' → (∀ c x, c ≠ 61 → rd S' c x = rd S c x) → (∀ x : Nat, x < 13 → rd S' 61 (x : Int) = 0) → Q (none, S')) : am_V none d 260 0 [(0, .ref 61), (1, .long v)] [] S Q := by
  have hl : ∀ (q j : Nat), j + q = 13 → ∀ S1 L, ax_P0 none S1 → (∀ c x, c ≠ 61 → rd S1 c x = rd S c x) → (∀ x : Nat, x < j → rd S1 61 (x : Int) = 0) → lc L 0 61 → lj L 1 0 → li L 3 (j : Int) → li L 4 13 → am_V none d 260 6 L [] S1 Q := by
    intro q
    induction q with
    | zero =>
      intro j hj S1 L hP1 fr hz l0 l1 l3 l4
      obtain rfl : j = 13 := by omega
      refine sg_fh7_b (Nat.zero_le _) hP1 l0 l1 l3 l4 (by omega) (by omega) (by omega) ?_ ?_
      · intro S' hP' e _ _ _ _
        exact K S' hP' (fun c x h => by rw [e]; exact fr c x h) (fun x hx => by rw [e]; exact hz x hx)
      · intros
        omega
    | succ q ih =>
      intro j hj S1 L hP1 fr hz l0 l1 l3 l4
      refine sg_fh7_b (Nat.zero_le _) hP1 l0 l1 l3 l4 (by omega) (by omega) (by omega) ?_ ?_
      · intros
        omega
      · intro L' S' hP' e _ _ _ _ p0 p1 p3 p4
        refine ih (j + 1) (by omega) S' L' hP' (fun c x h => by rw [e, sg_upc h]; exact fr c x h) (fun x hx => ?_) p0 p1 (li_s p3) p4
        rw [e]
        by_cases c : x = j
        · rw [c, sg_ups]
        · rw [sg_upi (by omega)]
          exact hz x (by omega)
  refine sg_fh7_a (x1 := v.toInt) (Nat.zero_le _) hP (lc_of rfl) (lj_of rfl) (by omega) ?_
  intro L' _ p0 p1 p3 p4
  exact hl 13 0 rfl S L' hP (fun _ _ _ => rfl) (fun x hx => absurd hx (Nat.not_lt_zero _)) p0 p1 p3 p4
set_option maxRecDepth 100000 in
theorem fp_V {S : am_S} {v : Int64} (hP : ax_P0 none S) (hv : v.toInt = 0) (K : ∀ S', ax_P0 none S' → (∀ c x, c ≠ 62 → rd S' c x = rd S c x) → (∀ x : Nat, x < 25 → rd S' 62 (x : Int) = 0) → Q (none, S')) : am_V none d 260 0 [(0, .ref 62), (1, .long v)] [] S Q := by
  have hl : ∀ (q j : Nat), j + q = 25 → ∀ S1 L, ax_P0 none S1 → (∀ c x, c ≠ 62 → rd S1 c x = rd S c x) → (∀ x : Nat, x < j → rd S1 62 (x : Int) = 0) → lc L 0 62 → lj L 1 0 → li L 3 (j : Int) → li L 4 25 → am_V none d 260 6 L [] S1 Q := by
    intro q
    induction q with
    | zero =>
      intro j hj S1 L hP1 fr hz l0 l1 l3 l4
      obtain rfl : j = 25 := by omega
      refine sg_fp_b (Nat.zero_le _) hP1 l0 l1 l3 l4 (by omega) (by omega) (by omega) ?_ ?_
      · intro S' hP' e _ _ _ _
        exact K S' hP' (fun c x h => by rw [e]; exact fr c x h) (fun x hx => by rw [e]; exact hz x hx)
      · intros
        omega
    | succ q ih =>
      intro j hj S1 L hP1 fr hz l0 l1 l3 l4
      refine sg_fp_b (Nat.zero_le _) hP1 l0 l1 l3 l4 (by omega) (by omega) (by omega) ?_ ?_
      · intros
        omega
      · intro L' S' hP' e _ _ _ _ p0 p1 p3 p4
        refine ih (j + 1) (by omega) S' L' hP' (fun c x h => by rw [e, sg_upc h]; exact fr c x h) (fun x hx => ?_) p0 p1 (li_s p3) p4
        rw [e]
        by_cases c : x = j
        · rw [c, sg_ups]
        · rw [sg_upi (by omega)]
          exact hz x (by omega)
  refine sg_fp_a (x1 := v.toInt) (Nat.zero_le _) hP (lc_of rfl) (lj_of rfl) (by omega) ?_
  intro L' _ p0 p1 p3 p4
  exact hl 25 0 rfl S L' hP (fun _ _ _ => rfl) (fun x hx => absurd hx (Nat.not_lt_zero _)) p0 p1 p3 p4
set_option maxRecDepth 100000 in
theorem fh_V {S : am_S} {v : Int64} (c : Nat) (hc : c < 8) (hP : ax_P0 none S) (hv : v.toInt = 0) (K : ∀ S', ax_P0 none S' → (∀ c' x, c' ≠ 54 + c → rd S' c' x = rd S c' x) → (∀ x : Nat, x < 13 → rd S' (54 + c) (x : Int) = 0) → Q (none, S')) : am_V none d 260 0 [(0, .ref (54 + c)), (1, .long v)] [] S Q := by
  match c, hc with
  | 0, _ => exact fh0_V hP hv K
  | 1, _ => exact fh1_V hP hv K
  | 2, _ => exact fh2_V hP hv K
  | 3, _ => exact fh3_V hP hv K
  | 4, _ => exact fh4_V hP hv K
  | 5, _ => exact fh5_V hP hv K
  | 6, _ => exact fh6_V hP hv K
  | 7, _ => exact fh7_V hP hv K
def hvS (S : am_S) (h : Nat → Int → Int) : Prop := ∀ c : Nat, c < 8 → ∀ i : Nat, i < 13 → rd S (54 + c) (i : Int) = B64 (h c (i : Int))
/-- what a row of halves is -/
def hid (ms : List Int) (c : Nat) (i : Int) : Int := cnl (i - 6) (Hs ms c)
/-- halves alone change -/
def hvF (S0 S : am_S) : Prop := ∀ (c : Nat) (x : Int), ¬ (54 ≤ c ∧ c ≤ 61) → rd S c x = rd S0 c x
/-- one row: what the turn at hand has done so far -/
def hst (h : Nat → Int → Int) (m : Int) (c : Nat) (f : Int) (i : Int) : Int := if 0 ≤ i - m ∧ i - m < f then h c i + h (c - 1) (i - m) else h c i
set_option maxRecDepth 100000 in
theorem ch_f {S0 : am_S} {h : Nat → Int → Int} {l m : Int} (bl : 0 ≤ l ∧ l ≤ 3) (bm : -3 ≤ m ∧ m ≤ 3) (c : Nat) (hc : 1 ≤ c ∧ c ≤ 7)
    (K : ∀ S L, ax_P0 none S → hvF S0 S → (∀ c' : Nat, c' < 8 → ∀ i : Nat, i < 13 → rd S (54 + c') (i : Int) = B64 (if c' = c then hst h m c 13 (i : Int) else h c' (i : Int))) → lc L 0 50 → li L 1 l → li L 2 m → li L 3 ((c : Int) + -1) → am_V none d 15 45 L [] S Q) :
    ∀ (q : Nat) (f : Int), f + (q : Int) = 13 → 0 ≤ f → 0 ≤ f + m → ∀ S L, ax_P0 none S → hvF S0 S → (∀ c' : Nat, c' < 8 → ∀ i : Nat, i < 13 → rd S (54 + c') (i : Int) = B64 (if c' = c then hst h m c f (i : Int) else h c' (i : Int))) → lc L 0 50 → li L 1 l → li L 2 m → li L 3 (c : Int) → li L 4 f → am_V none d 15 58 L [] S Q := by
  intro q
  induction q with
  | zero =>
    intro f hf f0 fm S L hP fr hh l0 l1 l2 l3 l4
    have f13 : f = 13 := by omega
    subst f13
    refine sg_ch_f (x1 := l) (x2 := m) (x3 := (c : Int)) (x4 := 13) (x5 := 13 + m) (Nat.zero_le _) hP l0 l1 l2 l3 l4 bl bm (by omega) (by omega) (by omega) rfl ?_ ?_ ?_ ?_ ?_ ?_ ?_ ?_ ?_
    · intro L' S' hP' e _ _ _ _ _ _ p0 p1 p2 p3 _
      exact K S' L' hP' (fun c x a => by rw [e]; exact fr c x a) (fun c' a i b => by rw [e]; exact hh c' a i b) p0 p1 p2 p3
    all_goals
      intros
      omega
  | succ q ih =>
    intro f hf f0 fm S L hP fr hh l0 l1 l2 l3 l4
    have step : ∀ (c1 : Nat) (S' : am_S) (L' : am_L) (x5 x6 x7 x8 : Int), c1 + 1 = c → ax_P0 none S' → rd S' = sg_up (rd S) (54 + (c1 + 1)) x5 x8 → x5 ≤ 12 → rd S (54 + (c1 + 1)) x5 = x6 → rd S (54 + c1) f = x7 → (∃ a b : Int64, a.toInt = x6 ∧ b.toInt = x7 ∧ (a + b).toInt = x8) → f + m = x5 → lc L' 0 50 → li L' 1 l → li L' 2 m → li L' 3 ((c1 + 1 : Nat) : Int) → li L' 4 (f + 1) → am_V none d 15 58 L' [] S' Q := fun c1 S' L' x5 x6 x7 x8 hc1 hP' e x12 r1 r2 hx t0 p0 p1 p2 p3 p4 => by
      subst hc1
      have h5 : ((x5.toNat : Nat) : Int) = x5 := by omega
      have hf' : ((f.toNat : Nat) : Int) = f := by omega
      have v6 : x6 = B64 (h (c1 + 1) x5) := by
        have := hh (c1 + 1) (by omega) x5.toNat (by omega)
        rw [if_pos rfl, h5, r1] at this
        rw [this]
        unfold hst
        rw [if_neg (by omega)]
      have v7 : x7 = B64 (h c1 f) := by
        have := hh c1 (by omega) f.toNat (by omega)
        rw [if_neg (by omega), hf', r2] at this
        exact this
      have v8 := b_add hx v6 v7
      refine ih (f + 1) (by omega) (by omega) (by omega) S' L' hP' (fun c x a => by rw [e, sg_upc (by omega)]; exact fr c x a) (fun c' a i b => ?_) p0 p1 p2 p3 p4
      by_cases cc : c' = c1 + 1
      · subst cc
        rw [if_pos rfl, e]
        by_cases ci : (i : Int) = x5
        · rw [ci, sg_ups, v8]
          unfold hst
          rw [if_pos (by omega), Nat.add_sub_cancel, show x5 - m = f by omega]
        · rw [sg_upi ci, hh (c1 + 1) a i b, if_pos rfl]
          unfold hst
          by_cases w : 0 ≤ (i : Int) - m ∧ (i : Int) - m < f
          · rw [if_pos w, if_pos (by omega)]
          · rw [if_neg w, if_neg (by omega)]
      · rw [if_neg cc, e, sg_upc (by omega), hh c' a i b, if_neg cc]
    refine sg_ch_f (x1 := l) (x2 := m) (x3 := (c : Int)) (x4 := f) (x5 := f + m) (Nat.zero_le _) hP l0 l1 l2 l3 l4 bl bm (by omega) (by omega) (by omega) rfl ?_ ?_ ?_ ?_ ?_ ?_ ?_ ?_ ?_
    · intros
      omega
    · intro L' S' hP' e f1 f2 _ _ _ _ _ t0 p0 p1 p2 p3 _
      refine K S' L' hP' (fun c x a => by rw [e]; exact fr c x a) (fun c' a i b => ?_) p0 p1 p2 p3
      rw [e, hh c' a i b]
      by_cases cc : c' = c
      · rw [if_pos cc, if_pos cc]
        unfold hst
        by_cases w : 0 ≤ (i : Int) - m ∧ (i : Int) - m < f
        · rw [if_pos w, if_pos (by omega)]
        · rw [if_neg w, if_neg (by omega)]
      · rw [if_neg cc, if_neg cc]
    · intro x6 x7 x8 L' S' hP' e f1 f2 r1 r2 hx _ _ _ _ _ t0 p0 p1 p2 p3 p4
      exact step 6 S' L' _ x6 x7 x8 (by omega) hP' e f2 r1 r2 hx rfl p0 p1 p2 p3 p4
    · intro x6 x7 x8 L' S' hP' e f1 f2 r1 r2 hx _ _ _ _ _ t0 p0 p1 p2 p3 p4
      exact step 5 S' L' _ x6 x7 x8 (by omega) hP' e f2 r1 r2 hx rfl p0 p1 p2 p3 p4
    · intro x6 x7 x8 L' S' hP' e f1 f2 r1 r2 hx _ _ _ _ _ t0 p0 p1 p2 p3 p4
      exact step 4 S' L' _ x6 x7 x8 (by omega) hP' e f2 r1 r2 hx rfl p0 p1 p2 p3 p4
    · intro x6 x7 x8 L' S' hP' e f1 f2 r1 r2 hx _ _ _ _ _ t0 p0 p1 p2 p3 p4
      exact step 3 S' L' _ x6 x7 x8 (by omega) hP' e f2 r1 r2 hx rfl p0 p1 p2 p3 p4
    · intro x6 x7 x8 L' S' hP' e f1 f2 r1 r2 hx _ _ _ _ _ t0 p0 p1 p2 p3 p4
      exact step 2 S' L' _ x6 x7 x8 (by omega) hP' e f2 r1 r2 hx rfl p0 p1 p2 p3 p4
    · intro x6 x7 x8 L' S' hP' e f1 f2 r1 r2 hx _ _ _ _ _ t0 p0 p1 p2 p3 p4
      exact step 1 S' L' _ x6 x7 x8 (by omega) hP' e f2 r1 r2 hx rfl p0 p1 p2 p3 p4
    · intro x6 x7 x8 L' S' hP' e f1 f2 r1 r2 hx _ _ _ _ _ t0 p0 p1 p2 p3 p4
      exact step 0 S' L' _ x6 x7 x8 (by omega) hP' e f2 r1 r2 hx rfl p0 p1 p2 p3 p4
set_option maxRecDepth 100000 in
theorem hid_0 (m : Int) (ms : List Int) (i : Int) : hid (m :: ms) 0 i = hid ms 0 i := by
  unfold hid
  have : Hs (m :: ms) 0 = Hs ms 0 := rfl
  rw [this]
set_option maxRecDepth 100000 in
theorem hid_s {m : Int} {ms : List Int} {c : Nat} {i : Int} (hc : 1 ≤ c) (hi : 0 ≤ i ∧ i < 13) (hb : ∀ s ∈ Hs ms (c - 1), -6 ≤ s ∧ s ≤ 6) : hst (hid ms) m c 13 i = hid (m :: ms) c i := by
  obtain ⟨c1, rfl⟩ : ∃ c1, c = c1 + 1 := ⟨c - 1, by omega⟩
  rw [Nat.add_sub_cancel] at hb
  have e : hid (m :: ms) (c1 + 1) i = hid ms (c1 + 1) i + hid ms c1 (i - m) := by
    unfold hid
    show cnl (i - 6) (Hs ms (c1 + 1) ++ (Hs ms c1).map (· + m)) = _
    rw [cnl_app, cnl_map, show i - 6 - m = i - m - 6 by omega]
  rw [e]
  unfold hst
  rw [Nat.add_sub_cancel]
  by_cases w : 0 ≤ i - m ∧ i - m < 13
  · rw [if_pos w]
  · rw [if_neg w]
    have : hid ms c1 (i - m) = 0 := cnl_no _ (fun s hs e => by have := hb s hs; omega)
    omega
set_option maxRecDepth 100000 in
theorem ch_e {S0 : am_S} {l : Nat} {k : Nat} (hl : l ≤ 3) (hk : k < 2 * l + 1)
    (K : ∀ S L, ax_P0 none S → hvF S0 S → hvS S (hid (mqs l (k + 1))) → lc L 0 50 → li L 1 (l : Int) → li L 2 ((k : Int) - (l : Int) + 1) → am_V none (d + 1) 15 37 L [] S Q) :
    ∀ (c : Nat), c ≤ 7 → ∀ S L, ax_P0 none S → hvF S0 S → (∀ c' : Nat, c' < 8 → ∀ i : Nat, i < 13 → rd S (54 + c') (i : Int) = B64 (if c < c' then hid (mqs l (k + 1)) c' (i : Int) else hid (mqs l k) c' (i : Int))) → lc L 0 50 → li L 1 (l : Int) → li L 2 ((k : Int) - (l : Int)) → li L 3 (c : Int) → am_V none (d + 1) 15 45 L [] S Q := by
  intro c
  induction c with
  | zero =>
    intro _ S L hP fr hh l0 l1 l2 l3
    refine sg_ch_e (x1 := (l : Int)) (x2 := (k : Int) - (l : Int)) (x3 := ((0 : Nat) : Int)) (by omega) hP l0 l1 l2 l3 (by omega) (by omega) (by omega) ?_ ?_ ?_
    · intro L' _ _ _ _ p0 p1 p2 _
      refine K S L' hP fr (fun c' a i b => ?_) p0 p1 p2
      rw [hh c' a i b]
      by_cases cc : 0 < c'
      · rw [if_pos cc]
      · obtain rfl : c' = 0 := by omega
        rw [if_neg cc]
        exact congrArg B64 (hid_0 _ _ _).symm
    all_goals
      intros
      omega
  | succ c ih =>
    intro hc7 S L hP fr hh l0 l1 l2 l3
    have bs : ∀ s ∈ Hs (mqs l k) (c + 1 - 1), -6 ≤ s ∧ s ≤ 6 := Hs_b ⟨l, by omega⟩ ⟨k, by omega⟩ ⟨c + 1 - 1, by omega⟩ (by show k ≤ 2 * l + 1; omega)
    -- one row
    have go : ∀ (f : Int) S' L', ax_P0 none S' → rd S' = rd S → (f = 0 ∨ f = -((k : Int) - (l : Int))) → 0 ≤ f → 0 ≤ f + ((k : Int) - (l : Int)) → lc L' 0 50 → li L' 1 (l : Int) → li L' 2 ((k : Int) - (l : Int)) → li L' 3 ((c + 1 : Nat) : Int) → li L' 4 f → am_V none (d + 1) 15 58 L' [] S' Q := fun f S' L' hP' e hf f0 fm p0 p1 p2 p3 p4 => by
      refine ch_f (S0 := S0) (h := fun c' i => if c + 1 < c' then hid (mqs l (k + 1)) c' i else hid (mqs l k) c' i) (l := (l : Int)) (m := (k : Int) - (l : Int)) (by omega) (by omega) (c + 1) (by omega) ?_ (13 - f).toNat f (by omega) f0 fm S' L' hP' (fun c x a => by rw [e]; exact fr c x a) (fun c' a i b => ?_) p0 p1 p2 p3 p4
      · intro S2 L2 hP2 fr2 hh2 q0 q1 q2 q3
        refine ih (by omega) S2 L2 hP2 fr2 (fun c' a i b => ?_) q0 q1 q2 (li_c q3 (by omega))
        rw [hh2 c' a i b]
        by_cases cc : c' = c + 1
        · subst cc
          rw [if_pos rfl, if_pos (by omega)]
          have e1 : hst (fun c' i => if c + 1 < c' then hid (mqs l (k + 1)) c' i else hid (mqs l k) c' i) ((k : Int) - (l : Int)) (c + 1) 13 (i : Int) = hst (hid (mqs l k)) ((k : Int) - (l : Int)) (c + 1) 13 (i : Int) := by
            unfold hst
            show (if 0 ≤ (i : Int) - ((k : Int) - (l : Int)) ∧ (i : Int) - ((k : Int) - (l : Int)) < 13 then (if c + 1 < c + 1 then hid (mqs l (k + 1)) (c + 1) (i : Int) else hid (mqs l k) (c + 1) (i : Int)) + (if c + 1 < c + 1 - 1 then hid (mqs l (k + 1)) (c + 1 - 1) ((i : Int) - ((k : Int) - (l : Int))) else hid (mqs l k) (c + 1 - 1) ((i : Int) - ((k : Int) - (l : Int)))) else (if c + 1 < c + 1 then hid (mqs l (k + 1)) (c + 1) (i : Int) else hid (mqs l k) (c + 1) (i : Int))) = _
            rw [if_neg (show ¬ c + 1 < c + 1 by omega), if_neg (show ¬ c + 1 < c + 1 - 1 by omega)]
          rw [e1]
          exact congrArg B64 (hid_s (by omega) (by omega) bs)
        · rw [if_neg cc]
          by_cases cl : c + 1 < c'
          · rw [if_pos cl, if_pos (by omega)]
          · rw [if_neg cl, if_neg (by omega)]
      · rw [e, hh c' a i b]
        by_cases cc : c' = c + 1
        · subst cc
          rw [if_pos rfl, if_neg (by omega)]
          unfold hst
          rw [if_neg (by omega)]
          show B64 (hid (mqs l k) (c + 1) (i : Int)) = B64 (if c + 1 < c + 1 then hid (mqs l (k + 1)) (c + 1) (i : Int) else hid (mqs l k) (c + 1) (i : Int))
          rw [if_neg (by omega)]
        · rw [if_neg cc]
    refine sg_ch_e (x1 := (l : Int)) (x2 := (k : Int) - (l : Int)) (x3 := ((c + 1 : Nat) : Int)) (by omega) hP l0 l1 l2 l3 (by omega) (by omega) (by omega) ?_ ?_ ?_
    · intros
      omega
    · intro L' f1 f2 _ _ _ p0 p1 p2 p3 p4
      exact go _ S L' hP rfl (Or.inr (by omega)) (by omega) (by omega) p0 p1 p2 p3 p4
    · intro L' f1 f2 _ _ _ p0 p1 p2 p3 p4
      exact go 0 S L' hP rfl (Or.inl rfl) (by omega) (by omega) p0 p1 p2 p3 p4
set_option maxRecDepth 100000 in
theorem ch_m {S0 : am_S} {l : Nat} (hl : l ≤ 3) (K : ∀ S, ax_P0 none S → hvF S0 S → hvS S (hid (mqs l (2 * l + 1))) → Q (none, S)) : ∀ (q k : Nat), k + q = 2 * l + 1 → ∀ S L, ax_P0 none S → hvF S0 S → hvS S (hid (mqs l k)) → lc L 0 50 → li L 1 (l : Int) → li L 2 ((k : Int) - (l : Int)) → am_V none (d + 1) 15 37 L [] S Q := by
  intro q
  induction q with
  | zero =>
    intro k hk S L hP fr hh l0 l1 l2
    refine sg_ch_d (x1 := (l : Int)) (x2 := (k : Int) - (l : Int)) (Nat.zero_le _) hP l0 l1 l2 (by omega) (by omega) ?_ ?_
    · intro _ _ _
      have e : k = 2 * l + 1 := by omega
      rw [e] at hh
      exact K S hP fr hh
    · intros
      omega
  | succ q ih =>
    intro k hk S L hP fr hh l0 l1 l2
    refine sg_ch_d (x1 := (l : Int)) (x2 := (k : Int) - (l : Int)) (Nat.zero_le _) hP l0 l1 l2 (by omega) (by omega) ?_ ?_
    · intros
      omega
    · intro L' _ _ _ p0 p1 p2 p3
      refine ch_e (S0 := S0) hl (by omega) ?_ 7 (by omega) S L' hP fr (fun c' a i b => ?_) p0 p1 p2 p3
      · intro S2 L2 hP2 fr2 hh2 q0 q1 q2
        exact ih (k + 1) (by omega) S2 L2 hP2 fr2 hh2 q0 q1 (li_c q2 (by omega))
      · rw [if_neg (by omega)]
        exact hh c' a i b
set_option maxRecDepth 100000 in
theorem ch_V {S : am_S} {l : Nat} {i1 : Int32} (hl : l ≤ 3) (h1 : i1.toInt = (l : Int)) (hP : ax_P0 none S) (K : ∀ S', ax_P0 none S' → hvF S S' → hvS S' (hid (mqs l (2 * l + 1))) → Q (none, S')) : am_V none (d + 1) 15 0 [(0, .ref 50), (1, .int i1)] [] S Q := by
  have hz : ∀ (q c : Nat), c + q = 8 → ∀ S1 L, ax_P0 none S1 → hvF S S1 → (∀ c' : Nat, c' < c → ∀ i : Nat, i < 13 → rd S1 (54 + c') (i : Int) = 0) → lc L 0 50 → li L 1 (l : Int) → li L 2 (c : Int) → am_V none (d + 1) 15 2 L [] S1 Q := by
    intro q
    induction q with
    | zero =>
      intro c hc S1 L hP1 fr hh l0 l1 l2
      have c8 : c = 8 := by omega
      subst c8
      refine sg_ch_b (x1 := (l : Int)) (x2 := ((8 : Nat) : Int)) (by omega) hP1 l0 l1 l2 (by omega) (by omega) ?_ ?_ ?_ ?_ ?_ ?_ ?_ ?_ ?_
      · intro L' S' hP' e _ _ _ p0 p1 p2
        refine ch_m (S0 := S) hl K (2 * l + 1) 0 (by omega) S' L' hP' (fun c x a => by rw [e, sg_upc (by omega)]; exact fr c x a) (fun c' a i b => ?_) p0 p1 (li_c p2 (by omega))
        have z0 := hh c' a i b
        rw [e]
        by_cases c0 : c' = 0
        · subst c0
          by_cases i6 : i = 6
          · subst i6
            exact sg_ups
          · show sg_up (rd S1) 54 6 1 54 (i : Int) = _
            rw [sg_upi (by omega)]
            have : hid (mqs l 0) 0 (i : Int) = 0 := cnl_no _ (fun s hs e => by
              have : s = 0 := by simpa [mqs, Hs] using hs
              omega)
            rw [this]
            exact z0
        · rw [sg_upc (by omega)]
          have : hid (mqs l 0) c' (i : Int) = 0 := by
            obtain ⟨c1, rfl⟩ : ∃ c1, c' = c1 + 1 := ⟨c' - 1, by omega⟩
            rfl
          rw [this]
          exact z0
      all_goals
        intros
        omega
    | succ q ih =>
      intro c hc S1 L hP1 fr hh l0 l1 l2
      have go : ∀ (S' : am_S) (L' : am_L) (w : Int64) (x : Int), ax_P0 none S' → rd S' = rd S1 → x = (c : Int) → lc L' 0 50 → li L' 1 (l : Int) → li L' 2 x → w.toInt = 0 → am_V none d 260 0 [(0, .ref (54 + c)), (1, .long w)] [] S' (am_post none (d + 1) 15 15 L' [] Q) := fun S' L' w x hP' e hx p0 p1 p2 hw => by
        refine fh_V c (by omega) hP' hw ?_
        intro S2 hP2 fr2 z2
        show am_V none (d + 1) 15 18 L' [] S2 Q
        subst hx
        refine sg_ch_c (x1 := (l : Int)) (x2 := (c : Int)) (Nat.zero_le _) hP2 p0 p1 p2 (by omega) (by omega) ?_
        intro L3 _ _ q0 q1 q2
        refine ih (c + 1) (by omega) S2 L3 hP2 (fun c' x a => by rw [fr2 c' x (by omega), e]; exact fr c' x a) (fun c' a i b => ?_) q0 q1 (li_s q2)
        by_cases cc : c' = c
        · rw [cc]
          exact z2 i b
        · rw [fr2 _ _ (by omega), e]
          exact hh c' (by omega) i b
      refine sg_ch_b (x1 := (l : Int)) (x2 := (c : Int)) (by omega) hP1 l0 l1 l2 (by omega) (by omega) ?_ ?_ ?_ ?_ ?_ ?_ ?_ ?_ ?_
      · intros
        omega
      · intro L' S' w hP' e _ _ bc p0 p1 p2 hw
        obtain rfl : c = 7 := by omega
        refine am_Vc (mid := 260) (As := [.ref 61, .long w]) (rest := []) rfl ?_
        exact go S' L' w 7 hP' e rfl p0 p1 p2 hw
      · intro L' S' w hP' e _ _ bc p0 p1 p2 hw
        obtain rfl : c = 6 := by omega
        refine am_Vc (mid := 260) (As := [.ref 60, .long w]) (rest := []) rfl ?_
        exact go S' L' w 6 hP' e rfl p0 p1 p2 hw
      · intro L' S' w hP' e _ _ bc p0 p1 p2 hw
        obtain rfl : c = 5 := by omega
        refine am_Vc (mid := 260) (As := [.ref 59, .long w]) (rest := []) rfl ?_
        exact go S' L' w 5 hP' e rfl p0 p1 p2 hw
      · intro L' S' w hP' e _ _ bc p0 p1 p2 hw
        obtain rfl : c = 4 := by omega
        refine am_Vc (mid := 260) (As := [.ref 58, .long w]) (rest := []) rfl ?_
        exact go S' L' w 4 hP' e rfl p0 p1 p2 hw
      · intro L' S' w hP' e _ _ bc p0 p1 p2 hw
        obtain rfl : c = 3 := by omega
        refine am_Vc (mid := 260) (As := [.ref 57, .long w]) (rest := []) rfl ?_
        exact go S' L' w 3 hP' e rfl p0 p1 p2 hw
      · intro L' S' w hP' e _ _ bc p0 p1 p2 hw
        obtain rfl : c = 2 := by omega
        refine am_Vc (mid := 260) (As := [.ref 56, .long w]) (rest := []) rfl ?_
        exact go S' L' w 2 hP' e rfl p0 p1 p2 hw
      · intro L' S' w hP' e _ _ bc p0 p1 p2 hw
        obtain rfl : c = 1 := by omega
        refine am_Vc (mid := 260) (As := [.ref 55, .long w]) (rest := []) rfl ?_
        exact go S' L' w 1 hP' e rfl p0 p1 p2 hw
      · intro L' S' w hP' e _ _ bc p0 p1 p2 hw
        obtain rfl : c = 0 := by omega
        refine am_Vc (mid := 260) (As := [.ref 54, .long w]) (rest := []) rfl ?_
        exact go S' L' w 0 hP' e rfl p0 p1 p2 hw
  refine sg_ch_a (x1 := (l : Int)) (Nat.zero_le _) hP (lc_of rfl) (li_c (li_of rfl) h1) (by omega) ?_
  intro L' _ p0 p1 p2
  exact hz 8 0 rfl S L' hP (fun _ _ _ => rfl) (fun c' h => absurd h (Nat.not_lt_zero _)) p0 p1 p2
end CH
