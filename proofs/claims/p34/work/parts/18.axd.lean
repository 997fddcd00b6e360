/-! ===== an abstract machine over the small one: symbols with sets, facts of the heap, loops with ranks, contracts ===== -/
/-- a number: a * (symbol) + c -/
abbrev ax_l : Type := Nat × Int × Int
/-- a set of numbers: from .. to -/
abbrev ax_s : Type := List (Int × Int)
/-- a value: an int or a long; a cell out of a list; the comparison of two longs; what lies outside -/
abbrev ax_v : Type := (Bool × ax_l) ⊕ (List Nat) ⊕ (ax_l × ax_l) ⊕ Nat
/-- what is known: symbols' sets, cells' contents, x ≤ y, x + y = z, what may be written, a pair half written -/
abbrev ax_k : Type := Nat × List (Nat × ax_s) × List (Nat × ax_l × ax_l) × List (ax_l × ax_l) × List (ax_l × ax_l × ax_l) × List (Nat × Option Nat) × Option (Nat × ax_l × Bool)
abbrev ax_P : Type := Option (Nat × Int × Bool) → am_S → Prop
abbrev ax_L : Type := List (Nat × ax_v)
def ax_le (a b : Int) : Bool := match a, b with
  | .ofNat m, .ofNat n => Nat.ble m n
  | .negSucc m, .negSucc n => Nat.ble n m
  | .negSucc _, .ofNat _ => true
  | .ofNat _, .negSucc _ => false
def ax_eq (a b : Int) : Bool := match a, b with
  | .ofNat m, .ofNat n => Nat.beq m n
  | .negSucc m, .negSucc n => Nat.beq m n
  | _, _ => false
theorem ax_le_iff {a b : Int} : ax_le a b = true ↔ a ≤ b := by
  cases a <;> cases b <;> simp only [ax_le, Int.ofNat_eq_natCast, Int.negSucc_eq, Nat.ble_eq] <;> simp <;> omega
theorem ax_eq_iff {a b : Int} : ax_eq a b = true ↔ a = b := by
  cases a with
  | ofNat m =>
    cases b with
    | ofNat n =>
      show Nat.beq m n = true ↔ _
      rw [Nat.beq_eq, Int.ofNat_eq_natCast, Int.ofNat_eq_natCast]
      omega
    | negSucc n =>
      show false = true ↔ _
      rw [Int.ofNat_eq_natCast, Int.negSucc_eq]
      constructor
      · intro h
        cases h
      · intro h
        omega
  | negSucc m =>
    cases b with
    | ofNat n =>
      show false = true ↔ _
      rw [Int.ofNat_eq_natCast, Int.negSucc_eq]
      constructor
      · intro h
        cases h
      · intro h
        omega
    | negSucc n =>
      show Nat.beq m n = true ↔ _
      rw [Nat.beq_eq, Int.negSucc_eq, Int.negSucc_eq]
      omega
def ax_leq (x y : ax_l) : Bool := Nat.beq x.1 y.1 && ax_eq x.2.1 y.2.1 && ax_eq x.2.2 y.2.2
theorem ax_leq_eq {x y : ax_l} (h : ax_leq x y = true) : x = y := by
  obtain ⟨a, b, c⟩ := x
  obtain ⟨a', b', c'⟩ := y
  unfold ax_leq at h
  simp only [Bool.and_eq_true, ax_eq_iff] at h
  obtain ⟨⟨h1, h2⟩, h3⟩ := h
  rw [Nat.eq_of_beq_eq_true h1, h2, h3]
-- sets
def ax_in (z : Int) (s : ax_s) : Prop := ∃ q ∈ s, q.1 ≤ z ∧ z ≤ q.2
def ax_sub1 (q : Int × Int) (t : ax_s) : Bool := t.any fun p => ax_le p.1 q.1 && ax_le q.2 p.2
def ax_sub (s t : ax_s) : Bool := s.all fun q => ax_sub1 q t
theorem ax_sub_in {s t : ax_s} {z : Int} (h : ax_sub s t = true) (hz : ax_in z s) : ax_in z t := by
  obtain ⟨q, hq, h1, h2⟩ := hz
  have h3 := List.all_eq_true.mp h q hq
  obtain ⟨p, hp, h4⟩ := List.any_eq_true.mp h3
  simp only [Bool.and_eq_true, ax_le_iff] at h4
  exact ⟨p, hp, by omega, by omega⟩
def ax_max (a b : Int) : Int := if ax_le a b then b else a
def ax_min (a b : Int) : Int := if ax_le a b then a else b
theorem ax_max_le {a b : Int} : a ≤ ax_max a b ∧ b ≤ ax_max a b := by
  unfold ax_max
  split <;> rename_i h
  · rw [ax_le_iff] at h; omega
  · rw [ax_le_iff] at h; omega
theorem ax_le_min {a b : Int} : ax_min a b ≤ a ∧ ax_min a b ≤ b := by
  unfold ax_min
  split <;> rename_i h
  · rw [ax_le_iff] at h; omega
  · rw [ax_le_iff] at h; omega
theorem ax_max_of {a b z : Int} (h1 : a ≤ z) (h2 : b ≤ z) : ax_max a b ≤ z := by unfold ax_max; split <;> assumption
theorem ax_min_of {a b z : Int} (h1 : z ≤ a) (h2 : z ≤ b) : z ≤ ax_min a b := by unfold ax_min; split <;> assumption
/-- what of a set is at least lo, at most hi -/
def ax_ge (lo : Int) : ax_s → ax_s
  | [] => []
  | q :: s => if ax_le lo q.2 then (ax_max lo q.1, q.2) :: ax_ge lo s else ax_ge lo s
def ax_lo (hi : Int) : ax_s → ax_s
  | [] => []
  | q :: s => if ax_le q.1 hi then (q.1, ax_min hi q.2) :: ax_lo hi s else ax_lo hi s
def ax_no (z : Int) : ax_s → ax_s
  | [] => []
  | q :: s => if ax_le q.1 z && ax_le z q.2 then (if ax_le q.1 (z - 1) then [(q.1, z - 1)] else []) ++ ((if ax_le (z + 1) q.2 then [(z + 1, q.2)] else []) ++ ax_no z s) else q :: ax_no z s
theorem ax_ge_in {lo z : Int} : ∀ {s : ax_s}, ax_in z s → lo ≤ z → ax_in z (ax_ge lo s)
  | [], h, _ => h
  | q :: s, ⟨p, hp, h1, h2⟩, hl => by
    unfold ax_ge
    rcases List.mem_cons.mp hp with rfl | hp
    · rw [if_pos (ax_le_iff.mpr (by omega))]
      exact ⟨_, List.mem_cons_self, ax_max_of hl h1, h2⟩
    · obtain ⟨p', hp', h'⟩ := ax_ge_in ⟨p, hp, h1, h2⟩ hl
      split
      · exact ⟨p', List.mem_cons_of_mem _ hp', h'⟩
      · exact ⟨p', hp', h'⟩
theorem ax_lo_in {hi z : Int} : ∀ {s : ax_s}, ax_in z s → z ≤ hi → ax_in z (ax_lo hi s)
  | [], h, _ => h
  | q :: s, ⟨p, hp, h1, h2⟩, hl => by
    unfold ax_lo
    rcases List.mem_cons.mp hp with rfl | hp
    · rw [if_pos (ax_le_iff.mpr (by omega))]
      exact ⟨_, List.mem_cons_self, h1, ax_min_of hl h2⟩
    · obtain ⟨p', hp', h'⟩ := ax_lo_in ⟨p, hp, h1, h2⟩ hl
      split
      · exact ⟨p', List.mem_cons_of_mem _ hp', h'⟩
      · exact ⟨p', hp', h'⟩
theorem ax_no_in {w z : Int} : ∀ {s : ax_s}, ax_in z s → z ≠ w → ax_in z (ax_no w s)
  | [], h, _ => h
  | q :: s, ⟨p, hp, h1, h2⟩, hl => by
    unfold ax_no
    rcases List.mem_cons.mp hp with rfl | hp
    · split
      · rcases Int.lt_or_gt_of_ne hl with h | h
        · refine ⟨(p.1, w - 1), List.mem_append_left _ ?_, h1, by show z ≤ w - 1; omega⟩
          rw [if_pos (ax_le_iff.mpr (by omega))]
          exact List.mem_cons_self
        · refine ⟨(w + 1, p.2), List.mem_append_right _ (List.mem_append_left _ ?_), by show w + 1 ≤ z; omega, h2⟩
          rw [if_pos (ax_le_iff.mpr (by omega))]
          exact List.mem_cons_self
      · exact ⟨p, List.mem_cons_self, h1, h2⟩
    · obtain ⟨p', hp', h'⟩ := ax_no_in ⟨p, hp, h1, h2⟩ hl
      split
      · exact ⟨p', List.mem_append_right _ (List.mem_append_right _ hp'), h'⟩
      · exact ⟨p', List.mem_cons_of_mem _ hp', h'⟩
/-- the least and the greatest -/
def ax_hull : ax_s → Int × Int
  | [] => (0, 0)
  | [q] => q
  | q :: s => let r := ax_hull s; (ax_min q.1 r.1, ax_max q.2 r.2)
theorem ax_hull_in {z : Int} : ∀ {s : ax_s}, ax_in z s → (ax_hull s).1 ≤ z ∧ z ≤ (ax_hull s).2
  | [], ⟨_, h, _⟩ => by cases h
  | [q], ⟨p, hp, h1, h2⟩ => by
    rcases List.mem_cons.mp hp with rfl | hp
    · exact ⟨h1, h2⟩
    · cases hp
  | q :: r :: s, ⟨p, hp, h1, h2⟩ => by
    show ax_min q.1 (ax_hull (r :: s)).1 ≤ z ∧ z ≤ ax_max q.2 (ax_hull (r :: s)).2
    have m1 := ax_le_min (a := q.1) (b := (ax_hull (r :: s)).1)
    have m2 := ax_max_le (a := q.2) (b := (ax_hull (r :: s)).2)
    rcases List.mem_cons.mp hp with rfl | hp
    · omega
    · have ih := ax_hull_in (s := r :: s) ⟨p, hp, h1, h2⟩
      omega
-- symbols and numbers
def ax_ev (ρ : List Int) (x : ax_l) (v : Int) : Prop := ∃ z, ρ[x.1]? = some z ∧ v = x.2.1 * z + x.2.2
def ax_set (E : List (Nat × ax_s)) (i : Nat) : ax_s := match E with
  | [] => []
  | q :: E => if Nat.beq q.1 i then q.2 else ax_set E i
def ax_con (c : Int) : ax_l := (0, 0, c)
/-- the bounds of a number -/
def ax_bd (E : List (Nat × ax_s)) (x : ax_l) : Int × Int := if ax_eq x.2.1 0 then (x.2.2, x.2.2) else
  let h := ax_hull (ax_set E x.1)
  if ax_le 0 x.2.1 then (x.2.1 * h.1 + x.2.2, x.2.1 * h.2 + x.2.2) else (x.2.1 * h.2 + x.2.2, x.2.1 * h.1 + x.2.2)
/-- its set -/
def ax_st (E : List (Nat × ax_s)) (x : ax_l) : ax_s := if ax_eq x.2.1 0 then [(x.2.2, x.2.2)] else
  if ax_eq x.2.1 1 then (ax_set E x.1).map (fun q => (q.1 + x.2.2, q.2 + x.2.2)) else [ax_bd E x]
/-- a symbol that can be one number alone is that number -/
def ax_one (s : ax_s) : Option Int := match s with
  | [q] => if ax_eq q.1 q.2 then some q.1 else none
  | _ => none
def ax_simp (E : List (Nat × ax_s)) (x : ax_l) : ax_l := if ax_eq x.2.1 0 then (0, 0, x.2.2) else match ax_one (ax_set E x.1) with
  | some z => (0, 0, x.2.1 * z + x.2.2)
  | none => x
