theorem am_okL : ∀ pc, pc < 1701 → am_okpc 262 pc = true := by
  intro pc hp
  have e : pc = pc % 90 + (pc / 90) * 90 := by omega
  have hj : pc / 90 < 19 := by omega
  have hk : pc % 90 < 90 := Nat.mod_lt _ (by decide)
  generalize pc / 90 = j at e hj
  generalize pc % 90 = k at e hk
  subst e
  match j, hj with
  | 0, _ => exact am_okL_0 k hk
  | 1, _ => exact am_okL_1 k hk
  | 2, _ => exact am_okL_2 k hk
  | 3, _ => exact am_okL_3 k hk
  | 4, _ => exact am_okL_4 k hk
  | 5, _ => exact am_okL_5 k hk
  | 6, _ => exact am_okL_6 k hk
  | 7, _ => exact am_okL_7 k hk
  | 8, _ => exact am_okL_8 k hk
  | 9, _ => exact am_okL_9 k hk
  | 10, _ => exact am_okL_10 k hk
  | 11, _ => exact am_okL_11 k hk
  | 12, _ => exact am_okL_12 k hk
  | 13, _ => exact am_okL_13 k hk
  | 14, _ => exact am_okL_14 k hk
  | 15, _ => exact am_okL_15 k hk
  | 16, _ => exact am_okL_16 k hk
  | 17, _ => exact am_okL_17 k hk
  | 18, _ => exact am_okL_18 k hk
  | j + 19, h => exact absurd h (Nat.not_lt.mpr (Nat.le_add_left _ j))
theorem am_ok (y pc : Nat) : am_okpc y pc = true := by
  by_cases hy : y < 263
  · by_cases hp : pc < am_ln y
    · by_cases hl : y = 262
      · subst hl
        exact am_okL pc hp
      · have e : y = y % 8 + (y / 8) * 8 := by omega
        have hj : y / 8 < 33 := by omega
        have hk : y % 8 < 8 := Nat.mod_lt _ (by decide)
        generalize y / 8 = j at e hj
        generalize y % 8 = k at e hk
        subst e
        match j, hj with
        | 0, _ => exact am_ok_0 k hk pc hp
        | 1, _ => exact am_ok_1 k hk pc hp
        | 2, _ => exact am_ok_2 k hk pc hp
        | 3, _ => exact am_ok_3 k hk pc hp
        | 4, _ => exact am_ok_4 k hk pc hp
        | 5, _ => exact am_ok_5 k hk pc hp
        | 6, _ => exact am_ok_6 k hk pc hp
        | 7, _ => exact am_ok_7 k hk pc hp
        | 8, _ => exact am_ok_8 k hk pc hp
        | 9, _ => exact am_ok_9 k hk pc hp
        | 10, _ => exact am_ok_10 k hk pc hp
        | 11, _ => exact am_ok_11 k hk pc hp
        | 12, _ => exact am_ok_12 k hk pc hp
        | 13, _ => exact am_ok_13 k hk pc hp
        | 14, _ => exact am_ok_14 k hk pc hp
        | 15, _ => exact am_ok_15 k hk pc hp
        | 16, _ => exact am_ok_16 k hk pc hp
        | 17, _ => exact am_ok_17 k hk pc hp
        | 18, _ => exact am_ok_18 k hk pc hp
        | 19, _ => exact am_ok_19 k hk pc hp
        | 20, _ => exact am_ok_20 k hk pc hp
        | 21, _ => exact am_ok_21 k hk pc hp
        | 22, _ => exact am_ok_22 k hk pc hp
        | 23, _ => exact am_ok_23 k hk pc hp
        | 24, _ => exact am_ok_24 k hk pc hp
        | 25, _ => exact am_ok_25 k hk pc hp
        | 26, _ => exact am_ok_26 k hk pc hp
        | 27, _ => exact am_ok_27 k hk pc hp
        | 28, _ => exact am_ok_28 k hk pc hp
        | 29, _ => exact am_ok_29 k hk pc hp
        | 30, _ => exact am_ok_30 k hk pc hp
        | 31, _ => exact am_ok_31 k hk pc hp
        | 32, _ => exact am_ok_32 k (by omega) pc hp
        | j + 33, h => exact absurd h (Nat.not_lt.mpr (Nat.le_add_left _ j))
    · unfold am_okpc am_cd
      rw [if_pos hy, if_neg hp]
  · unfold am_okpc am_cd
    rw [if_neg hy]
