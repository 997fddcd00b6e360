/-! ===== more rules of runs ===== -/
def am_sn (sc : am_X) (y : Nat) : Nat → Nat → am_L → List Value → am_S → Option am_F
  | 0, pc, L, st, S => some (pc, L, st, S)
  | n + 1, pc, L, st, S => match am_s1 sc y pc L st S with
    | none => none
    | some (pc', L', st', S') => am_sn sc y n pc' L' st' S'
section AMV2
variable {sc : am_X} {d y pc : Nat} {L : am_L} {st : List Value} {S : am_S} {Q : Option Value × am_S → Prop}
theorem am_Vn : ∀ (n : Nat) {pc : Nat} {L : am_L} {st : List Value} {S : am_S} (pc' : Nat) (L' : am_L) (st' : List Value) (S' : am_S), am_sn sc y n pc L st S = some (pc', L', st', S') → am_V sc d y pc' L' st' S' Q → am_V sc d y pc L st S Q
  | 0, pc, L, st, S, pc', L', st', S', h, k => by
    unfold am_sn at h
    cases h
    exact k
  | n + 1, pc, L, st, S, pc', L', st', S', h, k => by
    unfold am_sn at h
    split at h
    · cases h
    · rename_i hs
      exact am_Vs hs (am_Vn n pc' L' st' S' h k)
theorem am_Vt {pa : Nat} {La : am_L} {sa : List Value} {Sa : am_S} {c : Prop} {dc : Decidable c} {X : Option am_F} (h : am_s1 sc y pc L st S = @ite _ c dc (some (pa, La, sa, Sa)) X) (hc : c) (k1 : am_V sc d y pa La sa Sa Q) : am_V sc d y pc L st S Q := by
  rw [if_pos hc] at h
  exact am_Vs h k1
theorem am_Vf {pb : Nat} {Lb : am_L} {sb : List Value} {Sb : am_S} {c : Prop} {dc : Decidable c} {X : Option am_F} (h : am_s1 sc y pc L st S = @ite _ c dc X (some (pb, Lb, sb, Sb))) (hc : ¬ c) (k1 : am_V sc d y pb Lb sb Sb Q) : am_V sc d y pc L st S Q := by
  rw [if_neg hc] at h
  exact am_Vs h k1
/-- a call that the kernel runs -/
def am_kr (f d mid : Nat) (As : List Value) (S : am_S) (v : Value) : Bool := match am_x none f d mid 0 (lv_args 0 As) [] S with
  | some (some w, S') => decide (w = v) && decide (S'.1 ≤ 600000) && decide (S'.2.1 ≤ 7302250)
  | _ => false
def am_ks (f d mid : Nat) (As : List Value) (S : am_S) : am_S := match am_x none f d mid 0 (lv_args 0 As) [] S with
  | some (_, S') => S'
  | none => S
theorem am_Vk (f : Nat) {mid : Nat} {As rest : List Value} {v : Value} (h : am_c1 y pc st S = some (mid, As, rest)) (hx : am_kr f d mid As S v = true) (k : (am_ks f d mid As S).1 ≤ 600000 → (am_ks f d mid As S).2.1 ≤ 7302250 → am_V sc (d + 1) y (pc + 3) L (v :: rest) (am_ks f d mid As S) Q) : am_V sc (d + 1) y pc L st S Q := by
  refine am_Vc h ?_
  unfold am_kr at hx
  unfold am_ks at k
  split at hx
  · rename_i w S' he
    rw [he] at k
    simp only [Bool.and_eq_true, decide_eq_true_eq] at hx
    obtain ⟨⟨rfl, h1⟩, h2⟩ := hx
    exact ⟨f, _, he, k h1 h2⟩
  · cases hx
end AMV2
/-! comparisons of ints, as both sides ask them -/
theorem am_c64 {x c : Int32} : (x.toInt64 < c.toInt64 ↔ x < c) ∧ (x.toInt64 ≤ c.toInt64 ↔ x ≤ c) ∧ (c.toInt64 < x.toInt64 ↔ c < x) ∧ (c.toInt64 ≤ x.toInt64 ↔ c ≤ x) := by
  refine ⟨?_, ?_, ?_, ?_⟩ <;> simp [Int64.lt_iff_toInt_lt, Int64.le_iff_toInt_le, Int32.lt_iff_toInt_lt, Int32.le_iff_toInt_le]
theorem am_lt {x c : Int32} {C : Int64} (hC : c.toInt64 = C) (h : x < c) : x < c ∧ ¬ c ≤ x ∧ ¬ c < x ∧ x ≤ c ∧ lg_cmp x.toInt64 C < 0 ∧ ¬ 0 ≤ lg_cmp x.toInt64 C ∧ ¬ 0 < lg_cmp x.toInt64 C ∧ lg_cmp x.toInt64 C ≤ 0 := by
  subst hC
  rw [lg_cmp_lt, lg_cmp_ge, lg_cmp_gt, lg_cmp_le, am_c64.1, am_c64.2.1, am_c64.2.2.1, am_c64.2.2.2]
  have h2 : x ≤ c := Int32.le_of_lt h
  have h3 : ¬ c ≤ x := Int32.not_le.mpr h
  have h4 : ¬ c < x := Int32.not_lt.mpr h2
  exact ⟨h, h3, h4, h2, h, h3, h4, h2⟩
theorem am_ge {x c : Int32} {C : Int64} (hC : c.toInt64 = C) (h : ¬ x < c) : ¬ x < c ∧ c ≤ x ∧ ¬ lg_cmp x.toInt64 C < 0 ∧ 0 ≤ lg_cmp x.toInt64 C := by
  subst hC
  rw [lg_cmp_lt, lg_cmp_ge, am_c64.1, am_c64.2.2.2]
  have h2 : c ≤ x := Int32.not_lt.mp h
  exact ⟨h, h2, h, h2⟩
theorem am_gt {x c : Int32} {C : Int64} (hC : c.toInt64 = C) (h : c < x) : c < x ∧ ¬ x ≤ c ∧ 0 < lg_cmp x.toInt64 C ∧ ¬ lg_cmp x.toInt64 C ≤ 0 := by
  subst hC
  rw [lg_cmp_gt, lg_cmp_le, am_c64.2.1, am_c64.2.2.1]
  have h2 : ¬ x ≤ c := Int32.not_le.mpr h
  exact ⟨h, h2, h, h2⟩
theorem am_le' {x c : Int32} {C : Int64} (hC : c.toInt64 = C) (h : ¬ c < x) : ¬ c < x ∧ x ≤ c ∧ ¬ 0 < lg_cmp x.toInt64 C ∧ lg_cmp x.toInt64 C ≤ 0 := by
  subst hC
  rw [lg_cmp_gt, lg_cmp_le, am_c64.2.1, am_c64.2.2.1]
  have h2 : x ≤ c := Int32.not_lt.mp h
  exact ⟨h, h2, h, h2⟩
/-- not below 0: above -1 -/
theorem am_m1 {x : Int32} (h : ¬ x < 0) : (-1 : Int32) < x := by
  rw [Int32.lt_iff_toInt_lt] at h ⊢
  have e0 : (0 : Int32).toInt = 0 := by decide
  have e1 : (-1 : Int32).toInt = -1 := by decide
  rw [e1]
  rw [e0] at h
  omega
theorem am_ne4 {x : Int32} (h : ¬ x < 0) : ¬ (-4 : Int32) = x := by
  intro e
  subst e
  exact h (by decide)
theorem am_xsE {xs : Nat → Int32} {a : Nat} {c : Int32} (h : xs a = c) : xs = fun k => if k = a then c else xs k := by
  funext k
  by_cases e : k = a
  · rw [if_pos e, e, h]
  · rw [if_neg e]
theorem am_val {x M : Int32} {n : Nat} (hM : M.toInt = n) (h : ¬ x < 0) (h5 : ¬ M < x) : ∃ j : Nat, j < n + 1 ∧ x = nI j := by
  obtain ⟨j, hj, e⟩ := nI_of2 hM h (Int32.not_lt.mp h5)
  exact ⟨j, by omega, e⟩
theorem am_out {x : Int32} (h : x < 0 ∨ 9 < x) : x.toInt < 0 ∨ 9 < x.toInt := by
  rcases h with h | h
  · exact Or.inl (by rw [Int32.lt_iff_toInt_lt] at h; exact h)
  · exact Or.inr (by rw [Int32.lt_iff_toInt_lt] at h; exact h)
