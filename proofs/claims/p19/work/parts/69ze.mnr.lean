/-! ===== the reference: nearest, over ===== -/
set_option maxRecDepth 100000 in
theorem ed_bd {X Y B : Int} (hY : 1 ≤ Y) (h : -B ≤ X ∧ X ≤ B) (hB : 0 ≤ B) : -B ≤ X / Y ∧ X / Y ≤ B := by
  have k := Int.mul_le_mul_of_nonneg_left hY hB
  have k2 := Int.mul_le_mul_of_nonneg_left hY (show 0 ≤ B + 1 by omega)
  constructor
  · refine (Int.le_ediv_iff_mul_le (by omega)).mpr ?_
    rw [Int.neg_mul]
    omega
  · have := (Int.ediv_lt_iff_lt_mul (a := X) (b := B + 1) (c := Y) (by omega)).mpr (by omega)
    omega
section MN
variable {sc : am_X} {d y0 pc : Nat} {L0 : am_L} {rest : List Value} {S : am_S} {Q : Option Value × am_S → Prop}
set_option maxRecDepth 100000 in
set_option maxHeartbeats 4000000 in
theorem nr_V {x y : Int64} (hy : 1 ≤ y.toInt ∧ y.toInt ≤ 40000) (hx : -36000000000000 ≤ x.toInt ∧ x.toInt ≤ 36000000000000) (K : ∀ z : Int64, z.toInt = (2 * x.toInt + y.toInt) / (2 * y.toInt) → am_V sc (d + 1) y0 (pc + 3) L0 (.long z :: rest) S Q) : am_V none d 194 0 [(0, .long x), (2, .long y)] [] S (am_post sc (d + 1) y0 pc L0 rest Q) := by
  obtain ⟨L, hL0, hL⟩ : ∃ L, L = ([(0, .long x), (2, .long y)] : am_L) ∧ lr [(0, .long x), (2, .long y)] L := ⟨_, rfl, lr_rf rfl⟩
  rw [← hL0]
  have z0 : (0 : Int64).toInt = 0 := by decide
  have z1 : (1 : Int64).toInt = 1 := by decide
  have z2 : (2 : Int64).toInt = 2 := by decide
  have p1 := m64 (x := 2) (y := x) (v := 2 * x.toInt) (by rw [z2]) (by omega) (by omega)
  have p2 := a64 (x := 2 * x) (y := y) (by omega) (by omega) (by omega) (by omega)
  have p3 := m64 (x := 2) (y := y) (v := 2 * y.toInt) (by rw [z2]) (by omega) (by omega)
  rw [p1] at p2
  have he : 1 ≤ (2 * y : Int64).toInt := by omega
  have q1 := dv64 (x := 2 * x + y) he
  have q2 := rm64 (x := 2 * x + y) he
  have f := td_f (X := (2 * x + y : Int64).toInt) (Y := (2 * y : Int64).toInt) (by omega)
  refine am_Vs (pc' := 3) (L' := L) (st' := [.long 2]) (S' := S) rfl ?_
  refine v_lln rfl hL rfl ?_
  refine v_lmul rfl ?_
  refine v_lln rfl hL rfl ?_
  refine v_ladd rfl ?_
  refine am_Vs (pc' := 10) (L' := L) (st' := [.long 2, .long (2 * x + y)]) (S' := S) rfl ?_
  refine v_lln rfl hL rfl ?_
  refine v_lmul rfl ?_
  refine v_ldiv rfl (ne0 he) ?_
  refine v_ls rfl hL (fun L hL => ?_)
  refine am_Vs (pc' := 18) (L' := L) (st' := [.long 2]) (S' := S) rfl ?_
  refine v_lln rfl hL rfl ?_
  refine v_lmul rfl ?_
  refine v_lln rfl hL rfl ?_
  refine v_ladd rfl ?_
  refine am_Vs (pc' := 25) (L' := L) (st' := [.long 2, .long (2 * x + y)]) (S' := S) rfl ?_
  refine v_lln rfl hL rfl ?_
  refine v_lmul rfl ?_
  refine v_lrem rfl (ne0 he) ?_
  refine am_Vs (pc' := 29) (L' := L) (st' := [.long 0, .long (2 * x + y - (2 * x + y) / (2 * y) * (2 * y))]) (S' := S) rfl ?_
  refine am_Vs (pc' := 30) (L' := L) (st' := [.int (lg_cmp (2 * x + y - (2 * x + y) / (2 * y) * (2 * y)) 0)]) (S' := S) rfl ?_
  refine am_Vi (c := 0 ≤ lg_cmp (2 * x + y - (2 * x + y) / (2 * y) * (2 * y)) 0) (pa := 40) (pb := 33) (La := L) (Lb := L) (sa := []) (sb := []) (Sa := S) (Sb := S) rfl (fun h => ?_) (fun h => ?_)
  · rw [lg_cmp_ge, Int64.le_iff_toInt_le, z0, q2] at h
    refine v_ll rfl hL rfl ?_
    refine am_Vr1 (v := .long ((2 * x + y) / (2 * y))) rfl (K _ ?_)
    rw [q1, ← p2, ← p3]
    symm
    refine ed_u (by omega) ?_ ?_
    · rcases f with f | f <;> omega
    · rcases f with f | f <;> omega
  · rw [lg_cmp_ge, Int64.le_iff_toInt_le, z0, q2] at h
    refine v_ll rfl hL rfl ?_
    refine am_Vs (pc' := 36) (L' := L) (st' := [.long 1, .long ((2 * x + y) / (2 * y))]) (S' := S) rfl ?_
    refine v_lsub rfl ?_
    refine am_Vs (pc' := 42) (L' := L) (st' := [.long ((2 * x + y) / (2 * y) - 1)]) (S' := S) rfl ?_
    refine am_Vr1 (v := .long ((2 * x + y) / (2 * y) - 1)) rfl (K _ ?_)
    have e : (2 * x + y : Int64).toInt / (2 * y : Int64).toInt = (2 * x + y : Int64).toInt.tdiv (2 * y : Int64).toInt - 1 := by
      refine ed_u (by omega) ?_ ?_
      · rw [Int.mul_sub, Int.mul_one]
        rcases f with f | f <;> omega
      · rw [Int.mul_sub, Int.mul_one]
        rcases f with f | f <;> omega
    have b : -72000000040000 ≤ (2 * x + y : Int64).toInt.tdiv (2 * y : Int64).toInt := by
      have k : (2 * y : Int64).toInt * (2 * x + y : Int64).toInt.tdiv (2 * y : Int64).toInt ≥ -72000000040000 := by
        rcases f with f | f <;> omega
      by_cases q : (2 * x + y : Int64).toInt.tdiv (2 * y : Int64).toInt < 0
      · have := Int.mul_le_mul_of_nonpos_right he (show (2 * x + y : Int64).toInt.tdiv (2 * y : Int64).toInt ≤ 0 by omega)
        omega
      · omega
    have c : (2 * x + y : Int64).toInt.tdiv (2 * y : Int64).toInt ≤ 9223372036854775807 := by
      have : ((2 * x + y) / (2 * y) : Int64).toInt ≤ 9223372036854775807 := Int64.toInt_le _
      rw [q1] at this
      exact this
    rw [← p2, ← p3, e, Int64.toInt_sub, q1, z1]
    show ((2 * x + y : Int64).toInt.tdiv (2 * y : Int64).toInt - 1).bmod 18446744073709551616 = _
    rw [ax_b64]
    split <;> omega
set_option maxRecDepth 100000 in
theorem ov_V {W : List (Nat × Option Nat)} {S0 : am_S} {i : Nat} (hS : sv W S0 S) (hi : i < 8) (hr : rd S 138 i = -4 ∨ (0 ≤ rd S 138 i ∧ rd S 138 i ≤ 7)) (K : ∀ z : Int64, z.toInt = (if rd S 138 i = -4 then 0 else rd S 139 (8 * rd S 138 i + 7)) → Q (some (.long z), S)) : am_V none d 190 0 [(0, .ref 122), (1, .int (nI i))] [] S Q := by
  obtain ⟨L, hL0, hL⟩ : ∃ L, L = ([(0, .ref 122), (1, .int (nI i))] : am_L) ∧ lr [(0, .ref 122), (1, .int (nI i))] L := ⟨_, rfl, lr_rf rfl⟩
  rw [← hL0]
  have i1 : (nI i).toInt = (i : Int) := nI_toInt (by omega)
  have m4 : ((Int8.ofInt (-4)).toInt32).toInt = -4 := by decide
  have z0 : (0 : Int64).toInt = 0 := by decide
  refine v_an rfl hL rfl ?_
  refine v_gr hS rfl rfl rfl rfl (by decide) ?_
  refine v_iln rfl hL rfl ?_
  refine v_ia hS rfl rfl (by decide) (by omega) (by omega) (fun x5 e5 s5 => ?_)
  have s5 : x5.toInt = (-4 : Int) ∨ ((0 : Int) ≤ x5.toInt ∧ x5.toInt ≤ (7 : Int)) := iv2 s5
  rw [i1] at e5
  refine am_Vs rfl ?_
  refine am_Vi (c := x5 = (Int8.ofInt (-4)).toInt32) (pa := 11) (pb := 15) (La := L) (Lb := L) (sa := []) (sb := []) (Sa := S) (Sb := S) rfl (fun h => ?_) (fun h => ?_)
  rotate_left
  · have hn4 : x5.toInt ≠ -4 := fun q => h (Int32.toInt_inj.mp (by omega))
    have hL := hL
    refine v_an rfl hL rfl ?_
    refine v_gr hS rfl rfl rfl rfl (by decide) ?_
    refine am_Vs rfl ?_
    refine v_an rfl hL rfl ?_
    refine v_gr hS rfl rfl rfl rfl (by decide) ?_
    refine v_iln rfl hL rfl ?_
    refine v_ia hS rfl rfl (by decide) (by omega) (by omega) (fun x26 e26 s26 => ?_)
    have s26 : x26.toInt = (-4 : Int) ∨ ((0 : Int) ≤ x26.toInt ∧ x26.toInt ≤ (7 : Int)) := iv2 s26
    rw [i1] at e26
    have q2 := ix87 (x := x26) (by omega) (by omega)
    refine v_imul rfl ?_
    refine am_Vs rfl ?_
    refine v_iadd rfl ?_
    refine v_la hS rfl rfl (by decide) (by omega) (by omega) (fun x31 e31 => ?_)
    refine am_Vr (r := some (.long x31)) rfl (K _ ?_)
    rw [if_neg (by omega), e31, q2, e26]
  · refine am_Vs (pc' := 12) (L' := L) (st' := [.long 0]) (S' := S) rfl ?_
    refine am_Vs (pc' := 32) (L' := L) (st' := [.long 0]) (S' := S) rfl ?_
    refine am_Vr (r := some (.long 0)) rfl (K _ ?_)
    rw [if_pos (by rw [← e5, h, m4]), z0]
end MN
