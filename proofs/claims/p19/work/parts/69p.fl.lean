/-! ===== equal fractions: their nearest whole numbers, their lowest terms ===== -/
set_option maxRecDepth 100000 in
theorem fl_le {x d x' d' : Int} (hd : 0 < d) (hd' : 0 < d') (h : x * d' = x' * d) : (2 * x + d) / (2 * d) ≤ (2 * x' + d') / (2 * d') := by
  refine (Int.le_ediv_iff_mul_le (by omega)).mpr ?_
  have h1 : (2 * x + d) / (2 * d) * (2 * d) ≤ 2 * x + d := Int.ediv_mul_le _ (by omega)
  generalize (2 * x + d) / (2 * d) = q at *
  refine Int.le_of_mul_le_mul_right ?_ hd
  have h2 := Int.mul_le_mul_of_nonneg_right h1 (Int.le_of_lt hd')
  have e1 : q * (2 * d') * d = q * (2 * d) * d' := by ac_rfl
  have e2 : (2 * x' + d') * d = (2 * x + d) * d' := by rw [Int.add_mul, Int.add_mul, Int.mul_assoc 2 x' d, Int.mul_assoc 2 x d', h, Int.mul_comm d' d]
  rw [e1, e2]
  exact h2
set_option maxRecDepth 100000 in
theorem fl_eq {x d x' d' : Int} (hd : 0 < d) (hd' : 0 < d') (h : x * d' = x' * d) : (2 * x + d) / (2 * d) = (2 * x' + d') / (2 * d') := Int.le_antisymm (fl_le hd hd' h) (fl_le hd' hd h.symm)
set_option maxRecDepth 100000 in
theorem fl_b {b x d : Int} (hd : 0 < d) : (2 * (b * d + x) + d) / (2 * d) = b + (2 * x + d) / (2 * d) := by
  have e : 2 * (b * d + x) + d = 2 * x + d + b * (2 * d) := by
    rw [Int.mul_add, ← Int.mul_assoc 2 b d, Int.mul_comm 2 b, Int.mul_assoc b 2 d]
    omega
  rw [e, Int.add_mul_ediv_right _ _ (by omega)]
  exact Int.add_comm _ _
set_option maxRecDepth 100000 in
theorem lt_n {x d x' d' : Nat} (hd : 0 < d) (hd' : 0 < d') (h : x * d' = x' * d) : x / Nat.gcd x d = x' / Nat.gcd x' d' ∧ d / Nat.gcd x d = d' / Nat.gcd x' d' := by
  have g0 : 0 < Nat.gcd x d := Nat.gcd_pos_of_pos_right _ hd
  have g0' : 0 < Nat.gcd x' d' := Nat.gcd_pos_of_pos_right _ hd'
  have c0 := Nat.coprime_div_gcd_div_gcd g0
  have c0' := Nat.coprime_div_gcd_div_gcd g0'
  have ex := Nat.div_mul_cancel (Nat.gcd_dvd_left x d)
  have ed := Nat.div_mul_cancel (Nat.gcd_dvd_right x d)
  have ex' := Nat.div_mul_cancel (Nat.gcd_dvd_left x' d')
  have ed' := Nat.div_mul_cancel (Nat.gcd_dvd_right x' d')
  generalize Nat.gcd x d = g at *
  generalize Nat.gcd x' d' = g' at *
  generalize x / g = a at *
  generalize d / g = c at *
  generalize x' / g' = a' at *
  generalize d' / g' = c' at *
  subst ex ed ex' ed'
  have hc : 0 < c := Nat.pos_of_ne_zero (by
    rintro rfl
    rw [Nat.zero_mul] at hd
    exact absurd hd (Nat.lt_irrefl 0))
  have k : a * c' = a' * c := by
    have e1 : a * g * (c' * g') = a * c' * (g * g') := by ac_rfl
    have e2 : a' * g' * (c * g) = a' * c * (g * g') := by ac_rfl
    rw [e1, e2] at h
    exact Nat.eq_of_mul_eq_mul_right (Nat.mul_pos g0 g0') h
  have d1 : c ∣ c' := c0.symm.dvd_of_dvd_mul_left (by rw [k]; exact Nat.dvd_mul_left c a')
  have d2 : c' ∣ c := c0'.symm.dvd_of_dvd_mul_left (by rw [← k]; exact Nat.dvd_mul_left c' a)
  have e : c = c' := Nat.dvd_antisymm d1 d2
  subst e
  exact ⟨Nat.eq_of_mul_eq_mul_right hc k, rfl⟩
/-- how many turns it takes -/
def gt_ : Nat → Nat → Nat → Nat
  | 0, _, _ => 0
  | f + 1, a, b => if b = 0 then 0 else 1 + gt_ f b (a % b)
set_option maxRecDepth 100000 in
theorem gt_le : ∀ (k f a b : Nat), b < 2 ^ k → gt_ f a b ≤ 2 * k
  | 0, f, a, b, h => by
    obtain rfl : b = 0 := by
      have h1 : b < 1 := h
      omega
    cases f with
    | zero => exact Nat.le_refl _
    | succ f =>
      show (if (0 : Nat) = 0 then 0 else 1 + gt_ f 0 (a % 0)) ≤ 2 * 0
      rw [if_pos rfl]
      exact Nat.le_refl _
  | k + 1, f, a, b, h => by
    cases f with
    | zero => exact Nat.zero_le _
    | succ f =>
      show (if b = 0 then 0 else 1 + gt_ f b (a % b)) ≤ _
      split
      · omega
      · rename_i hb
        cases f with
        | zero =>
          show 1 + 0 ≤ _
          omega
        | succ f =>
          show 1 + (if a % b = 0 then 0 else 1 + gt_ f (a % b) (b % (a % b))) ≤ _
          split
          · omega
          · rename_i hr
            have hr1 : a % b < b := Nat.mod_lt _ (by omega)
            have h2 : b % (a % b) < 2 ^ k := by
              rw [Nat.pow_succ] at h
              generalize a % b = r at *
              by_cases hh : 2 * r ≤ b
              · have := Nat.mod_lt b (show 0 < r by omega)
                omega
              · have e : b % r = b - r := by
                  rw [Nat.mod_eq_sub_mod (by omega), Nat.mod_eq_of_lt (by omega)]
                omega
            have := gt_le k f (a % b) (b % (a % b)) h2
            omega
set_option maxRecDepth 100000 in
theorem gt_s {f a b : Nat} (h : b ≠ 0) : gt_ (f + 1) a b = 1 + gt_ f b (a % b) := if_neg h
set_option maxRecDepth 100000 in
/-- with enough turns the number of turns doesn't depend on how many there may be -/
theorem gt_f : ∀ (f a b : Nat), b < f → gt_ (f + 1) a b = gt_ f a b
  | 0, a, b, h => by omega
  | f + 1, a, b, h => by
    show (if b = 0 then 0 else 1 + gt_ (f + 1) b (a % b)) = if b = 0 then 0 else 1 + gt_ f b (a % b)
    by_cases hb : b = 0
    · rw [if_pos hb, if_pos hb]
    · have := Nat.mod_lt a (show 0 < b by omega)
      rw [if_neg hb, if_neg hb, gt_f f b (a % b) (by omega)]
/-- the turns that b takes -/
def gT (a b : Nat) : Nat := gt_ (b + 1) a b
set_option maxRecDepth 100000 in
theorem gT_0 (a : Nat) : gT a 0 = 0 := rfl
set_option maxRecDepth 100000 in
theorem gt_m : ∀ (k f a b : Nat), b < f → gt_ (f + k) a b = gt_ f a b
  | 0, f, a, b, _ => rfl
  | k + 1, f, a, b, h => by rw [← Nat.add_assoc, gt_f (f + k) a b (by omega), gt_m k f a b h]
set_option maxRecDepth 100000 in
theorem gT_s {a b : Nat} (h : b ≠ 0) : gT a b = 1 + gT b (a % b) := by
  unfold gT
  rw [gt_s h]
  have hr := Nat.mod_lt a (show 0 < b by omega)
  have := gt_m (b - (a % b + 1)) (a % b + 1) b (a % b) (by omega)
  rw [show a % b + 1 + (b - (a % b + 1)) = b by omega] at this
  rw [this]
set_option maxRecDepth 100000 in
theorem gT_le {a b k : Nat} (h : b < 2 ^ k) : gT a b ≤ 2 * k := gt_le k _ a b h
