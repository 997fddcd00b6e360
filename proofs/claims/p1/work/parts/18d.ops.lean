set_option maxRecDepth 100000 in
set_option maxHeartbeats 8000000 in
theorem am_op_22 (xs : Nat → Int32) : am_V (some (6, xs)) 20 262 900 am_L3 [] am_S1 am_Qf := by
  obtain ⟨v, ev⟩ : ∃ v : Int64, v = (((xs 1).toInt64 <<< ((32 : Int32).toInt64 &&& 63)) ||| ((xs 2).toInt64 &&& (4294967295))) := ⟨_, rfl⟩
  refine am_Vn 18 _ _ [.long ((((xs 1).toInt64 <<< ((32 : Int32).toInt64 &&& 63)) ||| ((xs 2).toInt64 &&& (4294967295)))), .ref 0] _ rfl ?_
  rw [← ev]
  refine am_Vc (As := [.ref 0, .long (v)]) (rest := []) rfl ?_
  refine am_Vn 10 _ [(0, .ref 0), (1, .long (v))] [.long (v), .ref 45] _ rfl ?_
  refine am_Vc (As := [.ref 45, .long (v)]) (rest := []) rfl ?_
  refine am_Vn 30 _ [(3, .int (48)), (0, .ref 45), (1, .long (v))] [.int (1)] _ rfl ?_
  refine am_Vn 30 _ [(3, .int (40)), (0, .ref 45), (1, .long (v))] [.int (2), .ref 46] _ rfl ?_
  refine am_Vn 30 _ [(3, .int (32)), (0, .ref 45), (1, .long (v))] [] _ rfl ?_
  refine am_Vn 30 _ [(3, .int (24)), (0, .ref 45), (1, .long (v))] [] _ rfl ?_
  refine am_Vn 30 _ [(3, .int (8)), (0, .ref 45), (1, .long (v))] [.int (6)] _ rfl ?_
  refine am_Vn 30 _ [(3, .int (0)), (0, .ref 45), (1, .long (v))] [.int (7), .ref 46] _ rfl ?_
  refine am_Vn 16 _ _ _ _ rfl ?_
  refine am_Vr0 rfl ?_
  refine am_Vn 3 _ [(0, .ref 0), (1, .long (v))] [.int (8)] _ rfl ?_
  refine am_Vr1 rfl ?_
  refine am_Vn 18 _ _ [.long ((((xs 1).toInt64 <<< ((32 : Int32).toInt64 &&& 63)) ||| ((xs 2).toInt64 &&& (4294967295)))), .ref 122, .int (8)] _ rfl ?_
  rw [← ev]
  refine am_Vc (As := [.ref 122, .long (v)]) (rest := [.int (8)]) rfl ?_
  refine am_Vn 30 _ [(3, .int (48)), (0, .ref 122), (1, .long (v))] [.int (48)] _ rfl ?_
  refine am_Vn 30 _ [(3, .int (40)), (0, .ref 122), (1, .long (v))] [.int (((v >>> ((40 : Int32).toInt64 &&& 63))).toInt32), .int (2), .ref 141] _ rfl ?_
  refine am_Vn 30 _ [(3, .int (32)), (0, .ref 122), (1, .long (v))] [] _ rfl ?_
  refine am_Vn 30 _ [(3, .int (16)), (0, .ref 122), (1, .long (v))] [.long (v), .int (5), .ref 141] _ rfl ?_
  refine am_Vn 30 _ [(3, .int (8)), (0, .ref 122), (1, .long (v))] [.int (6), .ref 122] _ rfl ?_
  refine am_Vn 30 _ [(3, .int (-8)), (0, .ref 122), (1, .long (v))] [.int (8)] _ rfl ?_
  refine am_Vr1 rfl ?_
  refine am_Vs rfl ?_
  exact am_fin _ _ (Nat.le_of_ble_eq_true rfl) (Nat.le_of_ble_eq_true rfl)
set_option maxRecDepth 100000 in
set_option maxHeartbeats 8000000 in
theorem am_op_21 (xs : Nat → Int32) : am_V (some (6, xs)) 20 262 867 am_L3 [] am_S1 am_Qf := by
  by_cases h1 : xs 1 < 0
  · skip
    obtain ⟨h2, h3, h4, h5, h6, h7, h8, h9⟩ := am_lt (C := 0) (by decide) h1
    refine am_Vn 11 _ _ [.int (xs 2), .int (xs 1), .ref 0] _ rfl ?_
    refine am_Vc (As := [.ref 0, .int (xs 1), .int (xs 2)]) (rest := []) rfl ?_
    refine am_Vn 1 _ [(0, .ref 0), (1, .int (xs 1)), (2, .int (xs 2))] [.int (xs 1)] _ rfl ?_
    refine am_Vt rfl h2 ?_
    refine am_Vn 1 _ [(0, .ref 0), (1, .int (xs 1)), (2, .int (xs 2))] [.int (-1)] _ rfl ?_
    refine am_Vr1 rfl ?_
    refine am_Vn 11 _ _ [.int (xs 2), .int (xs 1), .ref 122, .int (-1)] _ rfl ?_
    refine am_Vc (As := [.ref 122, .int (xs 1), .int (xs 2)]) (rest := [.int (-1)]) rfl ?_
    refine am_Vn 1 _ [(0, .ref 122), (1, .int (xs 1)), (2, .int (xs 2))] [.int (xs 1)] _ rfl ?_
    refine am_Vt rfl h2 ?_
    refine am_Vn 1 _ [(0, .ref 122), (1, .int (xs 1)), (2, .int (xs 2))] [.int (-1)] _ rfl ?_
    refine am_Vr1 rfl ?_
    refine am_Vs rfl ?_
    exact am_fin _ _ (Nat.le_of_ble_eq_true rfl) (Nat.le_of_ble_eq_true rfl)
  · skip
    obtain ⟨h10, h11, h12, h13⟩ := am_ge (C := 0) (by decide) h1
    by_cases h14 : xs 2 < 0
    · skip
      obtain ⟨h15, h16, h17, h18, h19, h20, h21, h22⟩ := am_lt (C := 0) (by decide) h14
      refine am_Vn 11 _ _ [.int (xs 2), .int (xs 1), .ref 0] _ rfl ?_
      refine am_Vc (As := [.ref 0, .int (xs 1), .int (xs 2)]) (rest := []) rfl ?_
      refine am_Vn 1 _ [(0, .ref 0), (1, .int (xs 1)), (2, .int (xs 2))] [.int (xs 1)] _ rfl ?_
      refine am_Vf rfl h10 ?_
      refine am_Vn 1 _ [(0, .ref 0), (1, .int (xs 1)), (2, .int (xs 2))] [.int (xs 2)] _ rfl ?_
      refine am_Vt rfl h15 ?_
      refine am_Vn 1 _ [(0, .ref 0), (1, .int (xs 1)), (2, .int (xs 2))] [.int (-1)] _ rfl ?_
      refine am_Vr1 rfl ?_
      refine am_Vn 11 _ _ [.int (xs 2), .int (xs 1), .ref 122, .int (-1)] _ rfl ?_
      refine am_Vc (As := [.ref 122, .int (xs 1), .int (xs 2)]) (rest := [.int (-1)]) rfl ?_
      refine am_Vn 1 _ [(0, .ref 122), (1, .int (xs 1)), (2, .int (xs 2))] [.int (xs 1)] _ rfl ?_
      refine am_Vf rfl h10 ?_
      refine am_Vn 4 _ [(0, .ref 122), (1, .int (xs 1)), (2, .int (xs 2))] [.long (3), .long (0), .long (xs 2).toInt64] _ rfl ?_
      refine am_Vc (As := [.long (xs 2).toInt64, .long (0), .long (3)]) (rest := []) rfl ?_
      refine am_Vn 3 _ [(0, .long (xs 2).toInt64), (2, .long (0)), (4, .long (3))] _ _ rfl ?_
      refine am_Vt rfl h19 ?_
      refine am_Vn 1 _ [(0, .long (xs 2).toInt64), (2, .long (0)), (4, .long (3))] [.int (0)] _ rfl ?_
      refine am_Vr1 rfl ?_
      refine am_Vn 2 _ [(0, .ref 122), (1, .int (xs 1)), (2, .int (xs 2))] [.int (-1)] _ rfl ?_
      refine am_Vr1 rfl ?_
      refine am_Vs rfl ?_
      exact am_fin _ _ (Nat.le_of_ble_eq_true rfl) (Nat.le_of_ble_eq_true rfl)
    · skip
      obtain ⟨h23, h24, h25, h26⟩ := am_ge (C := 0) (by decide) h14
      by_cases h27 : 3 < xs 2
      · skip
        obtain ⟨h28, h29, h30, h31⟩ := am_gt (C := 3) (by decide) h27
        refine am_Vn 11 _ _ [.int (xs 2), .int (xs 1), .ref 0] _ rfl ?_
        refine am_Vc (As := [.ref 0, .int (xs 1), .int (xs 2)]) (rest := []) rfl ?_
        refine am_Vn 1 _ [(0, .ref 0), (1, .int (xs 1)), (2, .int (xs 2))] [.int (xs 1)] _ rfl ?_
        refine am_Vf rfl h10 ?_
        refine am_Vn 1 _ [(0, .ref 0), (1, .int (xs 1)), (2, .int (xs 2))] [.int (xs 2)] _ rfl ?_
        refine am_Vf rfl h23 ?_
        refine am_Vn 2 _ [(0, .ref 0), (1, .int (xs 1)), (2, .int (xs 2))] [.int (3), .int (xs 2)] _ rfl ?_
        refine am_Vf rfl h29 ?_
        refine am_Vn 1 _ [(0, .ref 0), (1, .int (xs 1)), (2, .int (xs 2))] [.int (-1)] _ rfl ?_
        refine am_Vr1 rfl ?_
        refine am_Vn 11 _ _ [.int (xs 2), .int (xs 1), .ref 122, .int (-1)] _ rfl ?_
        refine am_Vc (As := [.ref 122, .int (xs 1), .int (xs 2)]) (rest := [.int (-1)]) rfl ?_
        refine am_Vn 1 _ [(0, .ref 122), (1, .int (xs 1)), (2, .int (xs 2))] [.int (xs 1)] _ rfl ?_
        refine am_Vf rfl h10 ?_
        refine am_Vn 4 _ [(0, .ref 122), (1, .int (xs 1)), (2, .int (xs 2))] [.long (3), .long (0), .long (xs 2).toInt64] _ rfl ?_
        refine am_Vc (As := [.long (xs 2).toInt64, .long (0), .long (3)]) (rest := []) rfl ?_
        refine am_Vn 3 _ [(0, .long (xs 2).toInt64), (2, .long (0)), (4, .long (3))] _ _ rfl ?_
        refine am_Vf rfl h25 ?_
        refine am_Vn 3 _ [(0, .long (xs 2).toInt64), (2, .long (0)), (4, .long (3))] _ _ rfl ?_
        refine am_Vt rfl h30 ?_
        refine am_Vn 1 _ [(0, .long (xs 2).toInt64), (2, .long (0)), (4, .long (3))] [.int (0)] _ rfl ?_
        refine am_Vr1 rfl ?_
        refine am_Vn 2 _ [(0, .ref 122), (1, .int (xs 1)), (2, .int (xs 2))] [.int (-1)] _ rfl ?_
        refine am_Vr1 rfl ?_
        refine am_Vs rfl ?_
        exact am_fin _ _ (Nat.le_of_ble_eq_true rfl) (Nat.le_of_ble_eq_true rfl)
      · skip
        obtain ⟨h32, h33, h34, h35⟩ := am_le' (C := 3) (by decide) h27
        refine am_Vn 11 _ _ [.int (xs 2), .int (xs 1), .ref 0] _ rfl ?_
        refine am_Vc (As := [.ref 0, .int (xs 1), .int (xs 2)]) (rest := []) rfl ?_
        refine am_Vn 1 _ [(0, .ref 0), (1, .int (xs 1)), (2, .int (xs 2))] [.int (xs 1)] _ rfl ?_
        refine am_Vf rfl h10 ?_
        refine am_Vn 1 _ [(0, .ref 0), (1, .int (xs 1)), (2, .int (xs 2))] [.int (xs 2)] _ rfl ?_
        refine am_Vf rfl h23 ?_
        refine am_Vn 2 _ [(0, .ref 0), (1, .int (xs 1)), (2, .int (xs 2))] [.int (3), .int (xs 2)] _ rfl ?_
        refine am_Vt rfl h33 ?_
        refine am_Vn 6 _ [(0, .ref 0), (1, .int (xs 1)), (2, .int (xs 2))] [.ref 6, .ref 1, .ref 40] _ rfl ?_
        refine am_Vc (As := [.ref 40, .ref 1, .ref 6]) (rest := []) rfl ?_
        refine am_Vn 9 _ _ _ _ rfl ?_
        refine am_Vr0 rfl ?_
        refine am_Vn 4 _ [(0, .ref 0), (1, .int (xs 1)), (2, .int (xs 2))] [.int (0), .int (xs 1)] _ rfl ?_
        refine am_Vf rfl h10 ?_
        refine am_Vn 1 _ [(0, .ref 0), (1, .int (xs 1)), (2, .int (xs 2))] [.int (-4)] _ rfl ?_
        refine am_Vr1 rfl ?_
        refine am_Vn 11 _ _ [.int (xs 2), .int (xs 1), .ref 122, .int (-4)] _ rfl ?_
        refine am_Vc (As := [.ref 122, .int (xs 1), .int (xs 2)]) (rest := [.int (-4)]) rfl ?_
        refine am_Vn 1 _ [(0, .ref 122), (1, .int (xs 1)), (2, .int (xs 2))] [.int (xs 1)] _ rfl ?_
        refine am_Vf rfl h10 ?_
        refine am_Vn 4 _ [(0, .ref 122), (1, .int (xs 1)), (2, .int (xs 2))] [.long (3), .long (0), .long (xs 2).toInt64] _ rfl ?_
        refine am_Vc (As := [.long (xs 2).toInt64, .long (0), .long (3)]) (rest := []) rfl ?_
        refine am_Vn 3 _ [(0, .long (xs 2).toInt64), (2, .long (0)), (4, .long (3))] _ _ rfl ?_
        refine am_Vf rfl h25 ?_
        refine am_Vn 3 _ [(0, .long (xs 2).toInt64), (2, .long (0)), (4, .long (3))] _ _ rfl ?_
        refine am_Vf rfl h34 ?_
        refine am_Vn 2 _ [(0, .long (xs 2).toInt64), (2, .long (0)), (4, .long (3))] [.int (1)] _ rfl ?_
        refine am_Vr1 rfl ?_
        refine am_Vn 30 _ [(3, .int (2)), (0, .ref 122), (1, .int (xs 1)), (2, .int (xs 2))] [.int (8), .int (2)] _ rfl ?_
        refine am_Vn 30 _ [(3, .int (5)), (0, .ref 122), (1, .int (xs 1)), (2, .int (xs 2))] [.int (64), .int (5)] _ rfl ?_
        refine am_Vn 30 _ [(3, .int (8)), (0, .ref 122), (1, .int (xs 1)), (2, .int (xs 2))] [] _ rfl ?_
        refine am_Vn 30 _ [(3, .int (10)), (0, .ref 122), (1, .int (xs 1)), (2, .int (xs 2))] [.ref 122, .int (1)] _ rfl ?_
        refine am_Vn 30 _ [(3, .int (13)), (0, .ref 122), (1, .int (xs 1)), (2, .int (xs 2))] [.int (13)] _ rfl ?_
        refine am_Vn 30 _ [(3, .int (16)), (0, .ref 122), (1, .int (xs 1)), (2, .int (xs 2))] [.int (16)] _ rfl ?_
        refine am_Vn 30 _ [(3, .int (18)), (0, .ref 122), (1, .int (xs 1)), (2, .int (xs 2))] [] _ rfl ?_
        refine am_Vn 30 _ [(3, .int (21)), (0, .ref 122), (1, .int (xs 1)), (2, .int (xs 2))] [.int (2)] _ rfl ?_
        refine am_Vn 30 _ [(3, .int (24)), (0, .ref 122), (1, .int (xs 1)), (2, .int (xs 2))] [] _ rfl ?_
        refine am_Vn 30 _ [(3, .int (27)), (0, .ref 122), (1, .int (xs 1)), (2, .int (xs 2))] [] _ rfl ?_
        refine am_Vn 30 _ [(3, .int (29)), (0, .ref 122), (1, .int (xs 1)), (2, .int (xs 2))] [.int (0), .int (3)] _ rfl ?_
        refine am_Vn 30 _ [(3, .int (32)), (0, .ref 122), (1, .int (xs 1)), (2, .int (xs 2))] [.int (8), .int (32)] _ rfl ?_
        refine am_Vn 30 _ [(3, .int (35)), (0, .ref 122), (1, .int (xs 1)), (2, .int (xs 2))] [.int (64), .int (35)] _ rfl ?_
        refine am_Vn 30 _ [(3, .int (38)), (0, .ref 122), (1, .int (xs 1)), (2, .int (xs 2))] [] _ rfl ?_
        refine am_Vn 30 _ [(3, .int (40)), (0, .ref 122), (1, .int (xs 1)), (2, .int (xs 2))] [.ref 122, .int (5)] _ rfl ?_
        refine am_Vn 30 _ [(3, .int (43)), (0, .ref 122), (1, .int (xs 1)), (2, .int (xs 2))] [.int (43)] _ rfl ?_
        refine am_Vn 30 _ [(3, .int (46)), (0, .ref 122), (1, .int (xs 1)), (2, .int (xs 2))] [.int (46)] _ rfl ?_
        refine am_Vn 30 _ [(3, .int (48)), (0, .ref 122), (1, .int (xs 1)), (2, .int (xs 2))] [] _ rfl ?_
        refine am_Vn 30 _ [(3, .int (51)), (0, .ref 122), (1, .int (xs 1)), (2, .int (xs 2))] [.int (6)] _ rfl ?_
        refine am_Vn 30 _ [(3, .int (54)), (0, .ref 122), (1, .int (xs 1)), (2, .int (xs 2))] [] _ rfl ?_
        refine am_Vn 30 _ [(3, .int (57)), (0, .ref 122), (1, .int (xs 1)), (2, .int (xs 2))] [] _ rfl ?_
        refine am_Vn 30 _ [(3, .int (59)), (0, .ref 122), (1, .int (xs 1)), (2, .int (xs 2))] [.int (0), .int (7)] _ rfl ?_
        refine am_Vn 30 _ [(3, .int (62)), (0, .ref 122), (1, .int (xs 1)), (2, .int (xs 2))] [.int (8), .int (62)] _ rfl ?_
        refine am_Vn 21 _ [(3, .int (64)), (0, .ref 122), (1, .int (xs 1)), (2, .int (xs 2))] [.int (-4)] _ rfl ?_
        refine am_Vr1 rfl ?_
        refine am_Vs rfl ?_
        exact am_fin _ _ (Nat.le_of_ble_eq_true rfl) (Nat.le_of_ble_eq_true rfl)
