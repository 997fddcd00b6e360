theorem am_sc {x c c1 : Int32} (hc : c1.toInt = c.toInt + 1) : (c < x → ¬ x < c1) ∧ (¬ c < x → x < c1) := by
  refine ⟨fun h g => ?_, fun h => ?_⟩
  · have h2 := Int32.lt_iff_toInt_lt.mp h
    have g2 := Int32.lt_iff_toInt_lt.mp g
    omega
  · refine Int32.lt_iff_toInt_lt.mpr ?_
    have h2 : ¬ c.toInt < x.toInt := fun q => h (Int32.lt_iff_toInt_lt.mpr q)
    omega
set_option maxRecDepth 100000 in
set_option maxHeartbeats 8000000 in
theorem am_op_31 (xs : Nat → Int32) : am_V (some (6, xs)) 20 262 1152 am_L3 [] am_S1 am_Qf := by
  by_cases h1 : xs 1 < 0
  · skip
    obtain ⟨h2, h3, h4, h5, h6, h7, h8, h9⟩ := am_lt (C := 0) (by decide) h1
    refine am_Vn 11 _ _ [.int (xs 2), .int (xs 1), .ref 0] _ rfl ?_
    refine am_Vc (As := [.ref 0, .int (xs 1), .int (xs 2)]) (rest := []) rfl ?_
    refine am_Vn 3 _ _ [.int (xs 1), .ref 1] _ rfl ?_
    refine am_Vc (As := [.ref 1, .int (xs 1)]) (rest := []) rfl ?_
    refine am_Vn 1 _ _ [.int (xs 1)] _ rfl ?_
    refine am_Vt rfl h2 ?_
    refine am_Vn 1 _ _ [.int (0)] _ rfl ?_
    refine am_Vr1 rfl ?_
    refine am_Vn 2 _ _ [.int (-1000)] _ rfl ?_
    refine am_Vr1 rfl ?_
    refine am_Vn 11 _ _ [.int (xs 2), .int (xs 1), .ref 122, .int (-1000)] _ rfl ?_
    refine am_Vc (As := [.ref 122, .int (xs 1), .int (xs 2)]) (rest := [.int (-1000)]) rfl ?_
    refine am_Vn 2 _ _ [.int (xs 1), .ref 122] _ rfl ?_
    refine am_Vc (As := [.ref 122, .int (xs 1)]) (rest := []) rfl ?_
    refine am_Vn 8 _ _ [.long (-1), .long (0), .long (xs 1).toInt64] _ rfl ?_
    refine am_Vc (As := [.long (xs 1).toInt64, .long (0), .long (-1)]) (rest := []) rfl ?_
    refine am_Vn 3 _ _ _ _ rfl ?_
    refine am_Vt rfl h6 ?_
    refine am_Vn 1 _ _ [.int (0)] _ rfl ?_
    refine am_Vr1 rfl ?_
    refine am_Vr1 rfl ?_
    refine am_Vn 2 _ _ [.int (-1000)] _ rfl ?_
    refine am_Vr1 rfl ?_
    refine am_Vs rfl ?_
    exact am_fin _ _ (Nat.le_of_ble_eq_true rfl) (Nat.le_of_ble_eq_true rfl)
  · skip
    obtain ⟨h10, h11, h12, h13⟩ := am_ge (C := 0) (by decide) h1
    obtain ⟨h14, h15, h16, h17⟩ := am_gt (C := (-1)) (by decide) (am_m1 h1)
    refine am_Vn 11 _ _ [.int (xs 2), .int (xs 1), .ref 0] _ rfl ?_
    refine am_Vc (As := [.ref 0, .int (xs 1), .int (xs 2)]) (rest := []) rfl ?_
    refine am_Vn 3 _ _ [.int (xs 1), .ref 1] _ rfl ?_
    refine am_Vc (As := [.ref 1, .int (xs 1)]) (rest := []) rfl ?_
    refine am_Vn 1 _ _ [.int (xs 1)] _ rfl ?_
    refine am_Vf rfl h10 ?_
    refine am_Vn 3 _ _ [.int (0), .int (xs 1)] _ rfl ?_
    refine am_Vt rfl h11 ?_
    refine am_Vn 1 _ _ [.int (0)] _ rfl ?_
    refine am_Vr1 rfl ?_
    refine am_Vn 2 _ _ [.int (-1000)] _ rfl ?_
    refine am_Vr1 rfl ?_
    refine am_Vn 11 _ _ [.int (xs 2), .int (xs 1), .ref 122, .int (-1000)] _ rfl ?_
    refine am_Vc (As := [.ref 122, .int (xs 1), .int (xs 2)]) (rest := [.int (-1000)]) rfl ?_
    refine am_Vn 2 _ _ [.int (xs 1), .ref 122] _ rfl ?_
    refine am_Vc (As := [.ref 122, .int (xs 1)]) (rest := []) rfl ?_
    refine am_Vn 8 _ _ [.long (-1), .long (0), .long (xs 1).toInt64] _ rfl ?_
    refine am_Vc (As := [.long (xs 1).toInt64, .long (0), .long (-1)]) (rest := []) rfl ?_
    refine am_Vn 3 _ _ _ _ rfl ?_
    refine am_Vf rfl h12 ?_
    refine am_Vn 3 _ _ _ _ rfl ?_
    refine am_Vt rfl h16 ?_
    refine am_Vn 1 _ _ [.int (0)] _ rfl ?_
    refine am_Vr1 rfl ?_
    refine am_Vr1 rfl ?_
    refine am_Vn 2 _ _ [.int (-1000)] _ rfl ?_
    refine am_Vr1 rfl ?_
    refine am_Vs rfl ?_
    exact am_fin _ _ (Nat.le_of_ble_eq_true rfl) (Nat.le_of_ble_eq_true rfl)
set_option maxRecDepth 100000 in
set_option maxHeartbeats 8000000 in
theorem am_op_32 (xs : Nat → Int32) : am_V (some (6, xs)) 20 262 1185 am_L3 [] am_S1 am_Qf := by
  by_cases h1 : xs 1 < 0
  · skip
    obtain ⟨h2, h3, h4, h5, h6, h7, h8, h9⟩ := am_lt (C := 0) (by decide) h1
    refine am_Vn 16 _ _ [.int (xs 3), .int (xs 2), .int (xs 1), .ref 0] _ rfl ?_
    refine am_Vc (As := [.ref 0, .int (xs 1), .int (xs 2), .int (xs 3)]) (rest := []) rfl ?_
    refine am_Vn 3 _ _ [.int (xs 1), .ref 1] _ rfl ?_
    refine am_Vc (As := [.ref 1, .int (xs 1)]) (rest := []) rfl ?_
    refine am_Vn 1 _ _ [.int (xs 1)] _ rfl ?_
    refine am_Vt rfl h2 ?_
    refine am_Vn 1 _ _ [.int (0)] _ rfl ?_
    refine am_Vr1 rfl ?_
    refine am_Vn 2 _ _ [.int (-1)] _ rfl ?_
    refine am_Vr1 rfl ?_
    refine am_Vn 16 _ _ [.int (xs 3), .int (xs 2), .int (xs 1), .ref 122, .int (-1)] _ rfl ?_
    refine am_Vc (As := [.ref 122, .int (xs 1), .int (xs 2), .int (xs 3)]) (rest := [.int (-1)]) rfl ?_
    refine am_Vn 2 _ _ [.int (xs 1), .ref 122] _ rfl ?_
    refine am_Vc (As := [.ref 122, .int (xs 1)]) (rest := []) rfl ?_
    refine am_Vn 8 _ _ [.long (-1), .long (0), .long (xs 1).toInt64] _ rfl ?_
    refine am_Vc (As := [.long (xs 1).toInt64, .long (0), .long (-1)]) (rest := []) rfl ?_
    refine am_Vn 3 _ _ _ _ rfl ?_
    refine am_Vt rfl h6 ?_
    refine am_Vn 1 _ _ [.int (0)] _ rfl ?_
    refine am_Vr1 rfl ?_
    refine am_Vr1 rfl ?_
    refine am_Vn 2 _ _ [.int (-1)] _ rfl ?_
    refine am_Vr1 rfl ?_
    refine am_Vs rfl ?_
    exact am_fin _ _ (Nat.le_of_ble_eq_true rfl) (Nat.le_of_ble_eq_true rfl)
  · skip
    obtain ⟨h10, h11, h12, h13⟩ := am_ge (C := 0) (by decide) h1
    obtain ⟨h14, h15, h16, h17⟩ := am_gt (C := (-1)) (by decide) (am_m1 h1)
    refine am_Vn 16 _ _ [.int (xs 3), .int (xs 2), .int (xs 1), .ref 0] _ rfl ?_
    refine am_Vc (As := [.ref 0, .int (xs 1), .int (xs 2), .int (xs 3)]) (rest := []) rfl ?_
    refine am_Vn 3 _ _ [.int (xs 1), .ref 1] _ rfl ?_
    refine am_Vc (As := [.ref 1, .int (xs 1)]) (rest := []) rfl ?_
    refine am_Vn 1 _ _ [.int (xs 1)] _ rfl ?_
    refine am_Vf rfl h10 ?_
    refine am_Vn 3 _ _ [.int (0), .int (xs 1)] _ rfl ?_
    refine am_Vt rfl h11 ?_
    refine am_Vn 1 _ _ [.int (0)] _ rfl ?_
    refine am_Vr1 rfl ?_
    refine am_Vn 2 _ _ [.int (-1)] _ rfl ?_
    refine am_Vr1 rfl ?_
    refine am_Vn 16 _ _ [.int (xs 3), .int (xs 2), .int (xs 1), .ref 122, .int (-1)] _ rfl ?_
    refine am_Vc (As := [.ref 122, .int (xs 1), .int (xs 2), .int (xs 3)]) (rest := [.int (-1)]) rfl ?_
    refine am_Vn 2 _ _ [.int (xs 1), .ref 122] _ rfl ?_
    refine am_Vc (As := [.ref 122, .int (xs 1)]) (rest := []) rfl ?_
    refine am_Vn 8 _ _ [.long (-1), .long (0), .long (xs 1).toInt64] _ rfl ?_
    refine am_Vc (As := [.long (xs 1).toInt64, .long (0), .long (-1)]) (rest := []) rfl ?_
    refine am_Vn 3 _ _ _ _ rfl ?_
    refine am_Vf rfl h12 ?_
    refine am_Vn 3 _ _ _ _ rfl ?_
    refine am_Vt rfl h16 ?_
    refine am_Vn 1 _ _ [.int (0)] _ rfl ?_
    refine am_Vr1 rfl ?_
    refine am_Vr1 rfl ?_
    refine am_Vn 2 _ _ [.int (-1)] _ rfl ?_
    refine am_Vr1 rfl ?_
    refine am_Vs rfl ?_
    exact am_fin _ _ (Nat.le_of_ble_eq_true rfl) (Nat.le_of_ble_eq_true rfl)
set_option maxRecDepth 100000 in
set_option maxHeartbeats 8000000 in
theorem am_op_33 (xs : Nat → Int32) : am_V (some (6, xs)) 20 262 1228 am_L3 [] am_S1 am_Qf := by
  by_cases h1 : xs 1 < 0
  · skip
    obtain ⟨h2, h3, h4, h5, h6, h7, h8, h9⟩ := am_lt (C := 0) (by decide) h1
    refine am_Vn 21 _ _ [.int (xs 4), .int (xs 3), .int (xs 2), .int (xs 1), .ref 0] _ rfl ?_
    refine am_Vc (As := [.ref 0, .int (xs 1), .int (xs 2), .int (xs 3), .int (xs 4)]) (rest := []) rfl ?_
    refine am_Vn 3 _ _ [.int (xs 1), .ref 1] _ rfl ?_
    refine am_Vc (As := [.ref 1, .int (xs 1)]) (rest := []) rfl ?_
    refine am_Vn 1 _ _ [.int (xs 1)] _ rfl ?_
    refine am_Vt rfl h2 ?_
    refine am_Vn 1 _ _ [.int (0)] _ rfl ?_
    refine am_Vr1 rfl ?_
    refine am_Vn 2 _ _ [.int (-1000000)] _ rfl ?_
    refine am_Vr1 rfl ?_
    refine am_Vn 21 _ _ [.int (xs 4), .int (xs 3), .int (xs 2), .int (xs 1), .ref 122, .int (-1000000)] _ rfl ?_
    refine am_Vc (As := [.ref 122, .int (xs 1), .int (xs 2), .int (xs 3), .int (xs 4)]) (rest := [.int (-1000000)]) rfl ?_
    refine am_Vn 2 _ _ [.int (xs 1), .ref 122] _ rfl ?_
    refine am_Vc (As := [.ref 122, .int (xs 1)]) (rest := []) rfl ?_
    refine am_Vn 8 _ _ [.long (-1), .long (0), .long (xs 1).toInt64] _ rfl ?_
    refine am_Vc (As := [.long (xs 1).toInt64, .long (0), .long (-1)]) (rest := []) rfl ?_
    refine am_Vn 3 _ _ _ _ rfl ?_
    refine am_Vt rfl h6 ?_
    refine am_Vn 1 _ _ [.int (0)] _ rfl ?_
    refine am_Vr1 rfl ?_
    refine am_Vr1 rfl ?_
    refine am_Vn 2 _ _ [.int (-1000000)] _ rfl ?_
    refine am_Vr1 rfl ?_
    refine am_Vs rfl ?_
    exact am_fin _ _ (Nat.le_of_ble_eq_true rfl) (Nat.le_of_ble_eq_true rfl)
  · skip
    obtain ⟨h10, h11, h12, h13⟩ := am_ge (C := 0) (by decide) h1
    obtain ⟨h14, h15, h16, h17⟩ := am_gt (C := (-1)) (by decide) (am_m1 h1)
    refine am_Vn 21 _ _ [.int (xs 4), .int (xs 3), .int (xs 2), .int (xs 1), .ref 0] _ rfl ?_
    refine am_Vc (As := [.ref 0, .int (xs 1), .int (xs 2), .int (xs 3), .int (xs 4)]) (rest := []) rfl ?_
    refine am_Vn 3 _ _ [.int (xs 1), .ref 1] _ rfl ?_
    refine am_Vc (As := [.ref 1, .int (xs 1)]) (rest := []) rfl ?_
    refine am_Vn 1 _ _ [.int (xs 1)] _ rfl ?_
    refine am_Vf rfl h10 ?_
    refine am_Vn 3 _ _ [.int (0), .int (xs 1)] _ rfl ?_
    refine am_Vt rfl h11 ?_
    refine am_Vn 1 _ _ [.int (0)] _ rfl ?_
    refine am_Vr1 rfl ?_
    refine am_Vn 2 _ _ [.int (-1000000)] _ rfl ?_
    refine am_Vr1 rfl ?_
    refine am_Vn 21 _ _ [.int (xs 4), .int (xs 3), .int (xs 2), .int (xs 1), .ref 122, .int (-1000000)] _ rfl ?_
    refine am_Vc (As := [.ref 122, .int (xs 1), .int (xs 2), .int (xs 3), .int (xs 4)]) (rest := [.int (-1000000)]) rfl ?_
    refine am_Vn 2 _ _ [.int (xs 1), .ref 122] _ rfl ?_
    refine am_Vc (As := [.ref 122, .int (xs 1)]) (rest := []) rfl ?_
    refine am_Vn 8 _ _ [.long (-1), .long (0), .long (xs 1).toInt64] _ rfl ?_
    refine am_Vc (As := [.long (xs 1).toInt64, .long (0), .long (-1)]) (rest := []) rfl ?_
    refine am_Vn 3 _ _ _ _ rfl ?_
    refine am_Vf rfl h12 ?_
    refine am_Vn 3 _ _ _ _ rfl ?_
    refine am_Vt rfl h16 ?_
    refine am_Vn 1 _ _ [.int (0)] _ rfl ?_
    refine am_Vr1 rfl ?_
    refine am_Vr1 rfl ?_
    refine am_Vn 2 _ _ [.int (-1000000)] _ rfl ?_
    refine am_Vr1 rfl ?_
    refine am_Vs rfl ?_
    exact am_fin _ _ (Nat.le_of_ble_eq_true rfl) (Nat.le_of_ble_eq_true rfl)
set_option maxRecDepth 100000 in
set_option maxHeartbeats 8000000 in
theorem am_op_34 (xs : Nat → Int32) : am_V (some (6, xs)) 20 262 1281 am_L3 [] am_S1 am_Qf := by
  by_cases h1 : xs 1 < 0
  · skip
    obtain ⟨h2, h3, h4, h5, h6, h7, h8, h9⟩ := am_lt (C := 0) (by decide) h1
    refine am_Vn 26 _ _ [.int (xs 5), .int (xs 4), .int (xs 3), .int (xs 2), .int (xs 1), .ref 0] _ rfl ?_
    refine am_Vc (As := [.ref 0, .int (xs 1), .int (xs 2), .int (xs 3), .int (xs 4), .int (xs 5)]) (rest := []) rfl ?_
    refine am_Vn 1 _ _ [.int (xs 1)] _ rfl ?_
    refine am_Vc (As := [.int (xs 1)]) (rest := []) rfl ?_
    refine am_Vn 1 _ _ [.int (xs 1)] _ rfl ?_
    refine am_Vt rfl h2 ?_
    refine am_Vn 1 _ _ [.int (0)] _ rfl ?_
    refine am_Vr1 rfl ?_
    refine am_Vn 2 _ _ [.int (-1)] _ rfl ?_
    refine am_Vr1 rfl ?_
    refine am_Vn 26 _ _ [.int (xs 5), .int (xs 4), .int (xs 3), .int (xs 2), .int (xs 1), .ref 122, .int (-1)] _ rfl ?_
    refine am_Vc (As := [.ref 122, .int (xs 1), .int (xs 2), .int (xs 3), .int (xs 4), .int (xs 5)]) (rest := [.int (-1)]) rfl ?_
    refine am_Vn 4 _ _ [.long (3), .long (0), .long (xs 1).toInt64] _ rfl ?_
    refine am_Vc (As := [.long (xs 1).toInt64, .long (0), .long (3)]) (rest := []) rfl ?_
    refine am_Vn 3 _ _ _ _ rfl ?_
    refine am_Vt rfl h6 ?_
    refine am_Vn 1 _ _ [.int (0)] _ rfl ?_
    refine am_Vr1 rfl ?_
    refine am_Vn 2 _ _ [.int (-1)] _ rfl ?_
    refine am_Vr1 rfl ?_
    refine am_Vs rfl ?_
    exact am_fin _ _ (Nat.le_of_ble_eq_true rfl) (Nat.le_of_ble_eq_true rfl)
  · skip
    obtain ⟨h10, h11, h12, h13⟩ := am_ge (C := 0) (by decide) h1
    by_cases h14 : 3 < xs 1
    · skip
      obtain ⟨h15, h16, h17, h18⟩ := am_gt (C := 3) (by decide) h14
      obtain ⟨h19, h20, h21, h22⟩ := am_ge (C := 4) (by decide) ((am_sc (c1 := 4) (by decide)).1 h14)
      refine am_Vn 26 _ _ [.int (xs 5), .int (xs 4), .int (xs 3), .int (xs 2), .int (xs 1), .ref 0] _ rfl ?_
      refine am_Vc (As := [.ref 0, .int (xs 1), .int (xs 2), .int (xs 3), .int (xs 4), .int (xs 5)]) (rest := []) rfl ?_
      refine am_Vn 1 _ _ [.int (xs 1)] _ rfl ?_
      refine am_Vc (As := [.int (xs 1)]) (rest := []) rfl ?_
      refine am_Vn 1 _ _ [.int (xs 1)] _ rfl ?_
      refine am_Vf rfl h10 ?_
      refine am_Vn 2 _ _ [.int (4), .int (xs 1)] _ rfl ?_
      refine am_Vt rfl h20 ?_
      refine am_Vn 1 _ _ [.int (0)] _ rfl ?_
      refine am_Vr1 rfl ?_
      refine am_Vn 2 _ _ [.int (-1)] _ rfl ?_
      refine am_Vr1 rfl ?_
      refine am_Vn 26 _ _ [.int (xs 5), .int (xs 4), .int (xs 3), .int (xs 2), .int (xs 1), .ref 122, .int (-1)] _ rfl ?_
      refine am_Vc (As := [.ref 122, .int (xs 1), .int (xs 2), .int (xs 3), .int (xs 4), .int (xs 5)]) (rest := [.int (-1)]) rfl ?_
      refine am_Vn 4 _ _ [.long (3), .long (0), .long (xs 1).toInt64] _ rfl ?_
      refine am_Vc (As := [.long (xs 1).toInt64, .long (0), .long (3)]) (rest := []) rfl ?_
      refine am_Vn 3 _ _ _ _ rfl ?_
      refine am_Vf rfl h12 ?_
      refine am_Vn 3 _ _ _ _ rfl ?_
      refine am_Vt rfl h17 ?_
      refine am_Vn 1 _ _ [.int (0)] _ rfl ?_
      refine am_Vr1 rfl ?_
      refine am_Vn 2 _ _ [.int (-1)] _ rfl ?_
      refine am_Vr1 rfl ?_
      refine am_Vs rfl ?_
      exact am_fin _ _ (Nat.le_of_ble_eq_true rfl) (Nat.le_of_ble_eq_true rfl)
    · skip
      obtain ⟨h23, h24, h25, h26⟩ := am_le' (C := 3) (by decide) h14
      obtain ⟨h27, h28, h29, h30, h31, h32, h33, h34⟩ := am_lt (C := 4) (by decide) ((am_sc (c1 := 4) (by decide)).2 h14)
      by_cases h35 : xs 2 < 0
      · skip
        obtain ⟨h36, h37, h38, h39, h40, h41, h42, h43⟩ := am_lt (C := 0) (by decide) h35
        refine am_Vn 26 _ _ [.int (xs 5), .int (xs 4), .int (xs 3), .int (xs 2), .int (xs 1), .ref 0] _ rfl ?_
        refine am_Vc (As := [.ref 0, .int (xs 1), .int (xs 2), .int (xs 3), .int (xs 4), .int (xs 5)]) (rest := []) rfl ?_
        refine am_Vn 1 _ _ [.int (xs 1)] _ rfl ?_
        refine am_Vc (As := [.int (xs 1)]) (rest := []) rfl ?_
        refine am_Vn 1 _ _ [.int (xs 1)] _ rfl ?_
        refine am_Vf rfl h10 ?_
        refine am_Vn 2 _ _ [.int (4), .int (xs 1)] _ rfl ?_
        refine am_Vf rfl h28 ?_
        refine am_Vn 2 _ _ [.int (1)] _ rfl ?_
        refine am_Vr1 rfl ?_
        refine am_Vn 2 _ _ [.int (xs 2)] _ rfl ?_
        refine am_Vc (As := [.int (xs 2)]) (rest := []) rfl ?_
        refine am_Vn 1 _ _ [.int (xs 2)] _ rfl ?_
        refine am_Vt rfl h36 ?_
        refine am_Vn 1 _ _ [.int (0)] _ rfl ?_
        refine am_Vr1 rfl ?_
        refine am_Vn 2 _ _ [.int (-1)] _ rfl ?_
        refine am_Vr1 rfl ?_
        refine am_Vn 26 _ _ [.int (xs 5), .int (xs 4), .int (xs 3), .int (xs 2), .int (xs 1), .ref 122, .int (-1)] _ rfl ?_
        refine am_Vc (As := [.ref 122, .int (xs 1), .int (xs 2), .int (xs 3), .int (xs 4), .int (xs 5)]) (rest := [.int (-1)]) rfl ?_
        refine am_Vn 4 _ _ [.long (3), .long (0), .long (xs 1).toInt64] _ rfl ?_
        refine am_Vc (As := [.long (xs 1).toInt64, .long (0), .long (3)]) (rest := []) rfl ?_
        refine am_Vn 3 _ _ _ _ rfl ?_
        refine am_Vf rfl h12 ?_
        refine am_Vn 3 _ _ _ _ rfl ?_
        refine am_Vf rfl h25 ?_
        refine am_Vn 2 _ _ [.int (1)] _ rfl ?_
        refine am_Vr1 rfl ?_
        refine am_Vn 5 _ _ [.long (2), .long (0), .long (xs 2).toInt64] _ rfl ?_
        refine am_Vc (As := [.long (xs 2).toInt64, .long (0), .long (2)]) (rest := []) rfl ?_
        refine am_Vn 3 _ _ _ _ rfl ?_
        refine am_Vt rfl h40 ?_
        refine am_Vn 1 _ _ [.int (0)] _ rfl ?_
        refine am_Vr1 rfl ?_
        refine am_Vn 2 _ _ [.int (-1)] _ rfl ?_
        refine am_Vr1 rfl ?_
        refine am_Vs rfl ?_
        exact am_fin _ _ (Nat.le_of_ble_eq_true rfl) (Nat.le_of_ble_eq_true rfl)
      · skip
        obtain ⟨h44, h45, h46, h47⟩ := am_ge (C := 0) (by decide) h35
        by_cases h48 : 2 < xs 2
        · skip
          obtain ⟨h49, h50, h51, h52⟩ := am_gt (C := 2) (by decide) h48
          obtain ⟨h53, h54, h55, h56⟩ := am_ge (C := 3) (by decide) ((am_sc (c1 := 3) (by decide)).1 h48)
          refine am_Vn 26 _ _ [.int (xs 5), .int (xs 4), .int (xs 3), .int (xs 2), .int (xs 1), .ref 0] _ rfl ?_
          refine am_Vc (As := [.ref 0, .int (xs 1), .int (xs 2), .int (xs 3), .int (xs 4), .int (xs 5)]) (rest := []) rfl ?_
          refine am_Vn 1 _ _ [.int (xs 1)] _ rfl ?_
          refine am_Vc (As := [.int (xs 1)]) (rest := []) rfl ?_
          refine am_Vn 1 _ _ [.int (xs 1)] _ rfl ?_
          refine am_Vf rfl h10 ?_
          refine am_Vn 2 _ _ [.int (4), .int (xs 1)] _ rfl ?_
          refine am_Vf rfl h28 ?_
          refine am_Vn 2 _ _ [.int (1)] _ rfl ?_
          refine am_Vr1 rfl ?_
          refine am_Vn 2 _ _ [.int (xs 2)] _ rfl ?_
          refine am_Vc (As := [.int (xs 2)]) (rest := []) rfl ?_
          refine am_Vn 1 _ _ [.int (xs 2)] _ rfl ?_
          refine am_Vf rfl h44 ?_
          refine am_Vn 2 _ _ [.int (3), .int (xs 2)] _ rfl ?_
          refine am_Vt rfl h54 ?_
          refine am_Vn 1 _ _ [.int (0)] _ rfl ?_
          refine am_Vr1 rfl ?_
          refine am_Vn 2 _ _ [.int (-1)] _ rfl ?_
          refine am_Vr1 rfl ?_
          refine am_Vn 26 _ _ [.int (xs 5), .int (xs 4), .int (xs 3), .int (xs 2), .int (xs 1), .ref 122, .int (-1)] _ rfl ?_
          refine am_Vc (As := [.ref 122, .int (xs 1), .int (xs 2), .int (xs 3), .int (xs 4), .int (xs 5)]) (rest := [.int (-1)]) rfl ?_
          refine am_Vn 4 _ _ [.long (3), .long (0), .long (xs 1).toInt64] _ rfl ?_
          refine am_Vc (As := [.long (xs 1).toInt64, .long (0), .long (3)]) (rest := []) rfl ?_
          refine am_Vn 3 _ _ _ _ rfl ?_
          refine am_Vf rfl h12 ?_
          refine am_Vn 3 _ _ _ _ rfl ?_
          refine am_Vf rfl h25 ?_
          refine am_Vn 2 _ _ [.int (1)] _ rfl ?_
          refine am_Vr1 rfl ?_
          refine am_Vn 5 _ _ [.long (2), .long (0), .long (xs 2).toInt64] _ rfl ?_
          refine am_Vc (As := [.long (xs 2).toInt64, .long (0), .long (2)]) (rest := []) rfl ?_
          refine am_Vn 3 _ _ _ _ rfl ?_
          refine am_Vf rfl h46 ?_
          refine am_Vn 3 _ _ _ _ rfl ?_
          refine am_Vt rfl h51 ?_
          refine am_Vn 1 _ _ [.int (0)] _ rfl ?_
          refine am_Vr1 rfl ?_
          refine am_Vn 2 _ _ [.int (-1)] _ rfl ?_
          refine am_Vr1 rfl ?_
          refine am_Vs rfl ?_
          exact am_fin _ _ (Nat.le_of_ble_eq_true rfl) (Nat.le_of_ble_eq_true rfl)
        · skip
          obtain ⟨h57, h58, h59, h60⟩ := am_le' (C := 2) (by decide) h48
          obtain ⟨h61, h62, h63, h64, h65, h66, h67, h68⟩ := am_lt (C := 3) (by decide) ((am_sc (c1 := 3) (by decide)).2 h48)
          by_cases h69 : xs 4 < 1
          · skip
            obtain ⟨h70, h71, h72, h73, h74, h75, h76, h77⟩ := am_lt (C := 1) (by decide) h69
            refine am_Vn 26 _ _ [.int (xs 5), .int (xs 4), .int (xs 3), .int (xs 2), .int (xs 1), .ref 0] _ rfl ?_
            refine am_Vc (As := [.ref 0, .int (xs 1), .int (xs 2), .int (xs 3), .int (xs 4), .int (xs 5)]) (rest := []) rfl ?_
            refine am_Vn 1 _ _ [.int (xs 1)] _ rfl ?_
            refine am_Vc (As := [.int (xs 1)]) (rest := []) rfl ?_
            refine am_Vn 1 _ _ [.int (xs 1)] _ rfl ?_
            refine am_Vf rfl h10 ?_
            refine am_Vn 2 _ _ [.int (4), .int (xs 1)] _ rfl ?_
            refine am_Vf rfl h28 ?_
            refine am_Vn 2 _ _ [.int (1)] _ rfl ?_
            refine am_Vr1 rfl ?_
            refine am_Vn 2 _ _ [.int (xs 2)] _ rfl ?_
            refine am_Vc (As := [.int (xs 2)]) (rest := []) rfl ?_
            refine am_Vn 1 _ _ [.int (xs 2)] _ rfl ?_
            refine am_Vf rfl h44 ?_
            refine am_Vn 2 _ _ [.int (3), .int (xs 2)] _ rfl ?_
            refine am_Vf rfl h62 ?_
            refine am_Vn 2 _ _ [.int (1)] _ rfl ?_
            refine am_Vr1 rfl ?_
            refine am_Vn 3 _ _ [.int (1), .int (xs 4)] _ rfl ?_
            refine am_Vt rfl h70 ?_
            refine am_Vn 1 _ _ [.int (-1)] _ rfl ?_
            refine am_Vr1 rfl ?_
            refine am_Vn 26 _ _ [.int (xs 5), .int (xs 4), .int (xs 3), .int (xs 2), .int (xs 1), .ref 122, .int (-1)] _ rfl ?_
            refine am_Vc (As := [.ref 122, .int (xs 1), .int (xs 2), .int (xs 3), .int (xs 4), .int (xs 5)]) (rest := [.int (-1)]) rfl ?_
            refine am_Vn 4 _ _ [.long (3), .long (0), .long (xs 1).toInt64] _ rfl ?_
            refine am_Vc (As := [.long (xs 1).toInt64, .long (0), .long (3)]) (rest := []) rfl ?_
            refine am_Vn 3 _ _ _ _ rfl ?_
            refine am_Vf rfl h12 ?_
            refine am_Vn 3 _ _ _ _ rfl ?_
            refine am_Vf rfl h25 ?_
            refine am_Vn 2 _ _ [.int (1)] _ rfl ?_
            refine am_Vr1 rfl ?_
            refine am_Vn 5 _ _ [.long (2), .long (0), .long (xs 2).toInt64] _ rfl ?_
            refine am_Vc (As := [.long (xs 2).toInt64, .long (0), .long (2)]) (rest := []) rfl ?_
            refine am_Vn 3 _ _ _ _ rfl ?_
            refine am_Vf rfl h46 ?_
            refine am_Vn 3 _ _ _ _ rfl ?_
            refine am_Vf rfl h59 ?_
            refine am_Vn 2 _ _ [.int (1)] _ rfl ?_
            refine am_Vr1 rfl ?_
            refine am_Vn 5 _ _ [.long (20), .long (1), .long (xs 4).toInt64] _ rfl ?_
            refine am_Vc (As := [.long (xs 4).toInt64, .long (1), .long (20)]) (rest := []) rfl ?_
            refine am_Vn 3 _ _ _ _ rfl ?_
            refine am_Vt rfl h74 ?_
            refine am_Vn 1 _ _ [.int (0)] _ rfl ?_
            refine am_Vr1 rfl ?_
            refine am_Vn 2 _ _ [.int (-1)] _ rfl ?_
            refine am_Vr1 rfl ?_
            refine am_Vs rfl ?_
            exact am_fin _ _ (Nat.le_of_ble_eq_true rfl) (Nat.le_of_ble_eq_true rfl)
          · skip
            obtain ⟨h78, h79, h80, h81⟩ := am_ge (C := 1) (by decide) h69
            by_cases h82 : 20 < xs 4
            · skip
              obtain ⟨h83, h84, h85, h86⟩ := am_gt (C := 20) (by decide) h82
              refine am_Vn 26 _ _ [.int (xs 5), .int (xs 4), .int (xs 3), .int (xs 2), .int (xs 1), .ref 0] _ rfl ?_
              refine am_Vc (As := [.ref 0, .int (xs 1), .int (xs 2), .int (xs 3), .int (xs 4), .int (xs 5)]) (rest := []) rfl ?_
              refine am_Vn 1 _ _ [.int (xs 1)] _ rfl ?_
              refine am_Vc (As := [.int (xs 1)]) (rest := []) rfl ?_
              refine am_Vn 1 _ _ [.int (xs 1)] _ rfl ?_
              refine am_Vf rfl h10 ?_
              refine am_Vn 2 _ _ [.int (4), .int (xs 1)] _ rfl ?_
              refine am_Vf rfl h28 ?_
              refine am_Vn 2 _ _ [.int (1)] _ rfl ?_
              refine am_Vr1 rfl ?_
              refine am_Vn 2 _ _ [.int (xs 2)] _ rfl ?_
              refine am_Vc (As := [.int (xs 2)]) (rest := []) rfl ?_
              refine am_Vn 1 _ _ [.int (xs 2)] _ rfl ?_
              refine am_Vf rfl h44 ?_
              refine am_Vn 2 _ _ [.int (3), .int (xs 2)] _ rfl ?_
              refine am_Vf rfl h62 ?_
              refine am_Vn 2 _ _ [.int (1)] _ rfl ?_
              refine am_Vr1 rfl ?_
              refine am_Vn 3 _ _ [.int (1), .int (xs 4)] _ rfl ?_
              refine am_Vf rfl h78 ?_
              refine am_Vn 2 _ _ [.int (20), .int (xs 4)] _ rfl ?_
              refine am_Vt rfl h83 ?_
              refine am_Vn 1 _ _ [.int (-1)] _ rfl ?_
              refine am_Vr1 rfl ?_
              refine am_Vn 26 _ _ [.int (xs 5), .int (xs 4), .int (xs 3), .int (xs 2), .int (xs 1), .ref 122, .int (-1)] _ rfl ?_
              refine am_Vc (As := [.ref 122, .int (xs 1), .int (xs 2), .int (xs 3), .int (xs 4), .int (xs 5)]) (rest := [.int (-1)]) rfl ?_
              refine am_Vn 4 _ _ [.long (3), .long (0), .long (xs 1).toInt64] _ rfl ?_
              refine am_Vc (As := [.long (xs 1).toInt64, .long (0), .long (3)]) (rest := []) rfl ?_
              refine am_Vn 3 _ _ _ _ rfl ?_
              refine am_Vf rfl h12 ?_
              refine am_Vn 3 _ _ _ _ rfl ?_
              refine am_Vf rfl h25 ?_
              refine am_Vn 2 _ _ [.int (1)] _ rfl ?_
              refine am_Vr1 rfl ?_
              refine am_Vn 5 _ _ [.long (2), .long (0), .long (xs 2).toInt64] _ rfl ?_
              refine am_Vc (As := [.long (xs 2).toInt64, .long (0), .long (2)]) (rest := []) rfl ?_
              refine am_Vn 3 _ _ _ _ rfl ?_
              refine am_Vf rfl h46 ?_
              refine am_Vn 3 _ _ _ _ rfl ?_
              refine am_Vf rfl h59 ?_
              refine am_Vn 2 _ _ [.int (1)] _ rfl ?_
              refine am_Vr1 rfl ?_
              refine am_Vn 5 _ _ [.long (20), .long (1), .long (xs 4).toInt64] _ rfl ?_
              refine am_Vc (As := [.long (xs 4).toInt64, .long (1), .long (20)]) (rest := []) rfl ?_
              refine am_Vn 3 _ _ _ _ rfl ?_
              refine am_Vf rfl h80 ?_
              refine am_Vn 3 _ _ _ _ rfl ?_
              refine am_Vt rfl h85 ?_
              refine am_Vn 1 _ _ [.int (0)] _ rfl ?_
              refine am_Vr1 rfl ?_
              refine am_Vn 2 _ _ [.int (-1)] _ rfl ?_
              refine am_Vr1 rfl ?_
              refine am_Vs rfl ?_
              exact am_fin _ _ (Nat.le_of_ble_eq_true rfl) (Nat.le_of_ble_eq_true rfl)
            · skip
              obtain ⟨h87, h88, h89, h90⟩ := am_le' (C := 20) (by decide) h82
              by_cases h91 : xs 5 < 0
              · skip
                obtain ⟨h92, h93, h94, h95, h96, h97, h98, h99⟩ := am_lt (C := 0) (by decide) h91
                refine am_Vn 26 _ _ [.int (xs 5), .int (xs 4), .int (xs 3), .int (xs 2), .int (xs 1), .ref 0] _ rfl ?_
                refine am_Vc (As := [.ref 0, .int (xs 1), .int (xs 2), .int (xs 3), .int (xs 4), .int (xs 5)]) (rest := []) rfl ?_
                refine am_Vn 1 _ _ [.int (xs 1)] _ rfl ?_
                refine am_Vc (As := [.int (xs 1)]) (rest := []) rfl ?_
                refine am_Vn 1 _ _ [.int (xs 1)] _ rfl ?_
                refine am_Vf rfl h10 ?_
                refine am_Vn 2 _ _ [.int (4), .int (xs 1)] _ rfl ?_
                refine am_Vf rfl h28 ?_
                refine am_Vn 2 _ _ [.int (1)] _ rfl ?_
                refine am_Vr1 rfl ?_
                refine am_Vn 2 _ _ [.int (xs 2)] _ rfl ?_
                refine am_Vc (As := [.int (xs 2)]) (rest := []) rfl ?_
                refine am_Vn 1 _ _ [.int (xs 2)] _ rfl ?_
                refine am_Vf rfl h44 ?_
                refine am_Vn 2 _ _ [.int (3), .int (xs 2)] _ rfl ?_
                refine am_Vf rfl h62 ?_
                refine am_Vn 2 _ _ [.int (1)] _ rfl ?_
                refine am_Vr1 rfl ?_
                refine am_Vn 3 _ _ [.int (1), .int (xs 4)] _ rfl ?_
                refine am_Vf rfl h78 ?_
                refine am_Vn 2 _ _ [.int (20), .int (xs 4)] _ rfl ?_
                refine am_Vf rfl h87 ?_
                refine am_Vn 1 _ _ [.int (xs 5)] _ rfl ?_
                refine am_Vt rfl h92 ?_
                refine am_Vn 1 _ _ [.int (-1)] _ rfl ?_
                refine am_Vr1 rfl ?_
                refine am_Vn 26 _ _ [.int (xs 5), .int (xs 4), .int (xs 3), .int (xs 2), .int (xs 1), .ref 122, .int (-1)] _ rfl ?_
                refine am_Vc (As := [.ref 122, .int (xs 1), .int (xs 2), .int (xs 3), .int (xs 4), .int (xs 5)]) (rest := [.int (-1)]) rfl ?_
                refine am_Vn 4 _ _ [.long (3), .long (0), .long (xs 1).toInt64] _ rfl ?_
                refine am_Vc (As := [.long (xs 1).toInt64, .long (0), .long (3)]) (rest := []) rfl ?_
                refine am_Vn 3 _ _ _ _ rfl ?_
                refine am_Vf rfl h12 ?_
                refine am_Vn 3 _ _ _ _ rfl ?_
                refine am_Vf rfl h25 ?_
                refine am_Vn 2 _ _ [.int (1)] _ rfl ?_
                refine am_Vr1 rfl ?_
                refine am_Vn 5 _ _ [.long (2), .long (0), .long (xs 2).toInt64] _ rfl ?_
                refine am_Vc (As := [.long (xs 2).toInt64, .long (0), .long (2)]) (rest := []) rfl ?_
                refine am_Vn 3 _ _ _ _ rfl ?_
                refine am_Vf rfl h46 ?_
                refine am_Vn 3 _ _ _ _ rfl ?_
                refine am_Vf rfl h59 ?_
                refine am_Vn 2 _ _ [.int (1)] _ rfl ?_
                refine am_Vr1 rfl ?_
                refine am_Vn 5 _ _ [.long (20), .long (1), .long (xs 4).toInt64] _ rfl ?_
                refine am_Vc (As := [.long (xs 4).toInt64, .long (1), .long (20)]) (rest := []) rfl ?_
                refine am_Vn 3 _ _ _ _ rfl ?_
                refine am_Vf rfl h80 ?_
                refine am_Vn 3 _ _ _ _ rfl ?_
                refine am_Vf rfl h89 ?_
                refine am_Vn 2 _ _ [.int (1)] _ rfl ?_
                refine am_Vr1 rfl ?_
                refine am_Vn 5 _ _ [.long (1000), .long (0), .long (xs 5).toInt64] _ rfl ?_
                refine am_Vc (As := [.long (xs 5).toInt64, .long (0), .long (1000)]) (rest := []) rfl ?_
                refine am_Vn 3 _ _ _ _ rfl ?_
                refine am_Vt rfl h96 ?_
                refine am_Vn 1 _ _ [.int (0)] _ rfl ?_
                refine am_Vr1 rfl ?_
                refine am_Vn 2 _ _ [.int (-1)] _ rfl ?_
                refine am_Vr1 rfl ?_
                refine am_Vs rfl ?_
                exact am_fin _ _ (Nat.le_of_ble_eq_true rfl) (Nat.le_of_ble_eq_true rfl)
              · skip
                obtain ⟨h100, h101, h102, h103⟩ := am_ge (C := 0) (by decide) h91
                by_cases h104 : 1000 < xs 5
                · skip
                  obtain ⟨h105, h106, h107, h108⟩ := am_gt (C := 1000) (by decide) h104
                  refine am_Vn 26 _ _ [.int (xs 5), .int (xs 4), .int (xs 3), .int (xs 2), .int (xs 1), .ref 0] _ rfl ?_
                  refine am_Vc (As := [.ref 0, .int (xs 1), .int (xs 2), .int (xs 3), .int (xs 4), .int (xs 5)]) (rest := []) rfl ?_
                  refine am_Vn 1 _ _ [.int (xs 1)] _ rfl ?_
                  refine am_Vc (As := [.int (xs 1)]) (rest := []) rfl ?_
                  refine am_Vn 1 _ _ [.int (xs 1)] _ rfl ?_
                  refine am_Vf rfl h10 ?_
                  refine am_Vn 2 _ _ [.int (4), .int (xs 1)] _ rfl ?_
                  refine am_Vf rfl h28 ?_
                  refine am_Vn 2 _ _ [.int (1)] _ rfl ?_
                  refine am_Vr1 rfl ?_
                  refine am_Vn 2 _ _ [.int (xs 2)] _ rfl ?_
                  refine am_Vc (As := [.int (xs 2)]) (rest := []) rfl ?_
                  refine am_Vn 1 _ _ [.int (xs 2)] _ rfl ?_
                  refine am_Vf rfl h44 ?_
                  refine am_Vn 2 _ _ [.int (3), .int (xs 2)] _ rfl ?_
                  refine am_Vf rfl h62 ?_
                  refine am_Vn 2 _ _ [.int (1)] _ rfl ?_
                  refine am_Vr1 rfl ?_
                  refine am_Vn 3 _ _ [.int (1), .int (xs 4)] _ rfl ?_
                  refine am_Vf rfl h78 ?_
                  refine am_Vn 2 _ _ [.int (20), .int (xs 4)] _ rfl ?_
                  refine am_Vf rfl h87 ?_
                  refine am_Vn 1 _ _ [.int (xs 5)] _ rfl ?_
                  refine am_Vf rfl h100 ?_
                  refine am_Vn 2 _ _ [.int (1000), .int (xs 5)] _ rfl ?_
                  refine am_Vf rfl h106 ?_
                  refine am_Vn 1 _ _ [.int (-1)] _ rfl ?_
                  refine am_Vr1 rfl ?_
                  refine am_Vn 26 _ _ [.int (xs 5), .int (xs 4), .int (xs 3), .int (xs 2), .int (xs 1), .ref 122, .int (-1)] _ rfl ?_
                  refine am_Vc (As := [.ref 122, .int (xs 1), .int (xs 2), .int (xs 3), .int (xs 4), .int (xs 5)]) (rest := [.int (-1)]) rfl ?_
                  refine am_Vn 4 _ _ [.long (3), .long (0), .long (xs 1).toInt64] _ rfl ?_
                  refine am_Vc (As := [.long (xs 1).toInt64, .long (0), .long (3)]) (rest := []) rfl ?_
                  refine am_Vn 3 _ _ _ _ rfl ?_
                  refine am_Vf rfl h12 ?_
                  refine am_Vn 3 _ _ _ _ rfl ?_
                  refine am_Vf rfl h25 ?_
                  refine am_Vn 2 _ _ [.int (1)] _ rfl ?_
                  refine am_Vr1 rfl ?_
                  refine am_Vn 5 _ _ [.long (2), .long (0), .long (xs 2).toInt64] _ rfl ?_
                  refine am_Vc (As := [.long (xs 2).toInt64, .long (0), .long (2)]) (rest := []) rfl ?_
                  refine am_Vn 3 _ _ _ _ rfl ?_
                  refine am_Vf rfl h46 ?_
                  refine am_Vn 3 _ _ _ _ rfl ?_
                  refine am_Vf rfl h59 ?_
                  refine am_Vn 2 _ _ [.int (1)] _ rfl ?_
                  refine am_Vr1 rfl ?_
                  refine am_Vn 5 _ _ [.long (20), .long (1), .long (xs 4).toInt64] _ rfl ?_
                  refine am_Vc (As := [.long (xs 4).toInt64, .long (1), .long (20)]) (rest := []) rfl ?_
                  refine am_Vn 3 _ _ _ _ rfl ?_
                  refine am_Vf rfl h80 ?_
                  refine am_Vn 3 _ _ _ _ rfl ?_
                  refine am_Vf rfl h89 ?_
                  refine am_Vn 2 _ _ [.int (1)] _ rfl ?_
                  refine am_Vr1 rfl ?_
                  refine am_Vn 5 _ _ [.long (1000), .long (0), .long (xs 5).toInt64] _ rfl ?_
                  refine am_Vc (As := [.long (xs 5).toInt64, .long (0), .long (1000)]) (rest := []) rfl ?_
                  refine am_Vn 3 _ _ _ _ rfl ?_
                  refine am_Vf rfl h102 ?_
                  refine am_Vn 3 _ _ _ _ rfl ?_
                  refine am_Vt rfl h107 ?_
                  refine am_Vn 1 _ _ [.int (0)] _ rfl ?_
                  refine am_Vr1 rfl ?_
                  refine am_Vn 2 _ _ [.int (-1)] _ rfl ?_
                  refine am_Vr1 rfl ?_
                  refine am_Vs rfl ?_
                  exact am_fin _ _ (Nat.le_of_ble_eq_true rfl) (Nat.le_of_ble_eq_true rfl)
                · skip
                  obtain ⟨h109, h110, h111, h112⟩ := am_le' (C := 1000) (by decide) h104
                  have h113 := am_ne4 h35
                  obtain ⟨j, hj, ej⟩ := am_val (n := 3) (by decide) h1 h14
                  match j, hj, ej with
                  | 0, _, ej =>
                    refine am_Vn 26 _ _ [.int (xs 5), .int (xs 4), .int (xs 3), .int (xs 2), .int (xs 1), .ref 0] _ rfl ?_
                    rw [ej]
                    refine am_Vc (As := [.ref 0, .int (0), .int (xs 2), .int (xs 3), .int (xs 4), .int (xs 5)]) (rest := []) rfl ?_
                    refine am_Vn 1 _ _ [.int (0)] _ rfl ?_
                    refine am_Vc (As := [.int (0)]) (rest := []) rfl ?_
                    refine am_Vn 7 _ _ [.int (1)] _ rfl ?_
                    refine am_Vr1 rfl ?_
                    refine am_Vn 2 _ _ [.int (xs 2)] _ rfl ?_
                    refine am_Vc (As := [.int (xs 2)]) (rest := []) rfl ?_
                    refine am_Vn 1 _ _ [.int (xs 2)] _ rfl ?_
                    refine am_Vf rfl h44 ?_
                    refine am_Vn 2 _ _ [.int (3), .int (xs 2)] _ rfl ?_
                    refine am_Vf rfl h62 ?_
                    refine am_Vn 2 _ _ [.int (1)] _ rfl ?_
                    refine am_Vr1 rfl ?_
                    refine am_Vn 3 _ _ [.int (1), .int (xs 4)] _ rfl ?_
                    refine am_Vf rfl h78 ?_
                    refine am_Vn 2 _ _ [.int (20), .int (xs 4)] _ rfl ?_
                    refine am_Vf rfl h87 ?_
                    refine am_Vn 1 _ _ [.int (xs 5)] _ rfl ?_
                    refine am_Vf rfl h100 ?_
                    refine am_Vn 2 _ _ [.int (1000), .int (xs 5)] _ rfl ?_
                    refine am_Vt rfl h110 ?_
                    refine am_Vn 5 _ _ [.int (xs 2), .ref 114] _ rfl ?_
                    refine am_Vc (As := [.ref 114, .int (xs 2)]) (rest := []) rfl ?_
                    refine am_Vn 1 _ _ [.ref 114] _ rfl ?_
                    refine am_Vc (As := [.ref 114]) (rest := []) rfl ?_
                    refine am_Vn 6 _ _ [.int (1)] _ rfl ?_
                    refine am_Vr1 rfl ?_
                    refine am_Vn 2 _ _ [.int (1)] _ rfl ?_
                    refine am_Vr1 rfl ?_
                    refine am_Vn 8 _ _ [.int (-11)] _ rfl ?_
                    refine am_Vr1 rfl ?_
                    refine am_Vn 26 _ _ [.int (xs 5), .int (xs 4), .int (xs 3), .int (xs 2), .int (xs 1), .ref 122, .int (-11)] _ rfl ?_
                    rw [ej]
                    refine am_Vc (As := [.ref 122, .int (0), .int (xs 2), .int (xs 3), .int (xs 4), .int (xs 5)]) (rest := [.int (-11)]) rfl ?_
                    refine am_Vn 4 _ _ [.long (3), .long (0), .long (0)] _ rfl ?_
                    refine am_Vc (As := [.long (0), .long (0), .long (3)]) (rest := []) rfl ?_
                    refine am_Vn 10 _ _ [.int (1)] _ rfl ?_
                    refine am_Vr1 rfl ?_
                    refine am_Vn 5 _ _ [.long (2), .long (0), .long (xs 2).toInt64] _ rfl ?_
                    refine am_Vc (As := [.long (xs 2).toInt64, .long (0), .long (2)]) (rest := []) rfl ?_
                    refine am_Vn 3 _ _ _ _ rfl ?_
                    refine am_Vf rfl h46 ?_
                    refine am_Vn 3 _ _ _ _ rfl ?_
                    refine am_Vf rfl h59 ?_
                    refine am_Vn 2 _ _ [.int (1)] _ rfl ?_
                    refine am_Vr1 rfl ?_
                    refine am_Vn 5 _ _ [.long (20), .long (1), .long (xs 4).toInt64] _ rfl ?_
                    refine am_Vc (As := [.long (xs 4).toInt64, .long (1), .long (20)]) (rest := []) rfl ?_
                    refine am_Vn 3 _ _ _ _ rfl ?_
                    refine am_Vf rfl h80 ?_
                    refine am_Vn 3 _ _ _ _ rfl ?_
                    refine am_Vf rfl h89 ?_
                    refine am_Vn 2 _ _ [.int (1)] _ rfl ?_
                    refine am_Vr1 rfl ?_
                    refine am_Vn 5 _ _ [.long (1000), .long (0), .long (xs 5).toInt64] _ rfl ?_
                    refine am_Vc (As := [.long (xs 5).toInt64, .long (0), .long (1000)]) (rest := []) rfl ?_
                    refine am_Vn 3 _ _ _ _ rfl ?_
                    refine am_Vf rfl h102 ?_
                    refine am_Vn 3 _ _ _ _ rfl ?_
                    refine am_Vf rfl h111 ?_
                    refine am_Vn 2 _ _ [.int (1)] _ rfl ?_
                    refine am_Vr1 rfl ?_
                    refine am_Vn 6 _ _ [.int (xs 2), .int (-4)] _ rfl ?_
                    refine am_Vf rfl h113 ?_
                    refine am_Vn 8 _ _ [.int (-11)] _ rfl ?_
                    refine am_Vr1 rfl ?_
                    refine am_Vs rfl ?_
                    exact am_fin _ _ (Nat.le_of_ble_eq_true rfl) (Nat.le_of_ble_eq_true rfl)
                  | 1, _, ej =>
                    refine am_Vn 26 _ _ [.int (xs 5), .int (xs 4), .int (xs 3), .int (xs 2), .int (xs 1), .ref 0] _ rfl ?_
                    rw [ej]
                    refine am_Vc (As := [.ref 0, .int (1), .int (xs 2), .int (xs 3), .int (xs 4), .int (xs 5)]) (rest := []) rfl ?_
                    refine am_Vn 1 _ _ [.int (1)] _ rfl ?_
                    refine am_Vc (As := [.int (1)]) (rest := []) rfl ?_
                    refine am_Vn 7 _ _ [.int (1)] _ rfl ?_
                    refine am_Vr1 rfl ?_
                    refine am_Vn 2 _ _ [.int (xs 2)] _ rfl ?_
                    refine am_Vc (As := [.int (xs 2)]) (rest := []) rfl ?_
                    refine am_Vn 1 _ _ [.int (xs 2)] _ rfl ?_
                    refine am_Vf rfl h44 ?_
                    refine am_Vn 2 _ _ [.int (3), .int (xs 2)] _ rfl ?_
                    refine am_Vf rfl h62 ?_
                    refine am_Vn 2 _ _ [.int (1)] _ rfl ?_
                    refine am_Vr1 rfl ?_
                    refine am_Vn 3 _ _ [.int (1), .int (xs 4)] _ rfl ?_
                    refine am_Vf rfl h78 ?_
                    refine am_Vn 2 _ _ [.int (20), .int (xs 4)] _ rfl ?_
                    refine am_Vf rfl h87 ?_
                    refine am_Vn 1 _ _ [.int (xs 5)] _ rfl ?_
                    refine am_Vf rfl h100 ?_
                    refine am_Vn 2 _ _ [.int (1000), .int (xs 5)] _ rfl ?_
                    refine am_Vt rfl h110 ?_
                    refine am_Vn 5 _ _ [.int (xs 2), .ref 116] _ rfl ?_
                    refine am_Vc (As := [.ref 116, .int (xs 2)]) (rest := []) rfl ?_
                    refine am_Vn 1 _ _ [.ref 116] _ rfl ?_
                    refine am_Vc (As := [.ref 116]) (rest := []) rfl ?_
                    refine am_Vn 6 _ _ [.int (1)] _ rfl ?_
                    refine am_Vr1 rfl ?_
                    refine am_Vn 2 _ _ [.int (1)] _ rfl ?_
                    refine am_Vr1 rfl ?_
                    refine am_Vn 8 _ _ [.int (-11)] _ rfl ?_
                    refine am_Vr1 rfl ?_
                    refine am_Vn 26 _ _ [.int (xs 5), .int (xs 4), .int (xs 3), .int (xs 2), .int (xs 1), .ref 122, .int (-11)] _ rfl ?_
                    rw [ej]
                    refine am_Vc (As := [.ref 122, .int (1), .int (xs 2), .int (xs 3), .int (xs 4), .int (xs 5)]) (rest := [.int (-11)]) rfl ?_
                    refine am_Vn 4 _ _ [.long (3), .long (0), .long (1)] _ rfl ?_
                    refine am_Vc (As := [.long (1), .long (0), .long (3)]) (rest := []) rfl ?_
                    refine am_Vn 10 _ _ [.int (1)] _ rfl ?_
                    refine am_Vr1 rfl ?_
                    refine am_Vn 5 _ _ [.long (2), .long (0), .long (xs 2).toInt64] _ rfl ?_
                    refine am_Vc (As := [.long (xs 2).toInt64, .long (0), .long (2)]) (rest := []) rfl ?_
                    refine am_Vn 3 _ _ _ _ rfl ?_
                    refine am_Vf rfl h46 ?_
                    refine am_Vn 3 _ _ _ _ rfl ?_
                    refine am_Vf rfl h59 ?_
                    refine am_Vn 2 _ _ [.int (1)] _ rfl ?_
                    refine am_Vr1 rfl ?_
                    refine am_Vn 5 _ _ [.long (20), .long (1), .long (xs 4).toInt64] _ rfl ?_
                    refine am_Vc (As := [.long (xs 4).toInt64, .long (1), .long (20)]) (rest := []) rfl ?_
                    refine am_Vn 3 _ _ _ _ rfl ?_
                    refine am_Vf rfl h80 ?_
                    refine am_Vn 3 _ _ _ _ rfl ?_
                    refine am_Vf rfl h89 ?_
                    refine am_Vn 2 _ _ [.int (1)] _ rfl ?_
                    refine am_Vr1 rfl ?_
                    refine am_Vn 5 _ _ [.long (1000), .long (0), .long (xs 5).toInt64] _ rfl ?_
                    refine am_Vc (As := [.long (xs 5).toInt64, .long (0), .long (1000)]) (rest := []) rfl ?_
                    refine am_Vn 3 _ _ _ _ rfl ?_
                    refine am_Vf rfl h102 ?_
                    refine am_Vn 3 _ _ _ _ rfl ?_
                    refine am_Vf rfl h111 ?_
                    refine am_Vn 2 _ _ [.int (1)] _ rfl ?_
                    refine am_Vr1 rfl ?_
                    refine am_Vn 6 _ _ [.int (xs 2), .int (-4)] _ rfl ?_
                    refine am_Vf rfl h113 ?_
                    refine am_Vn 8 _ _ [.int (-11)] _ rfl ?_
                    refine am_Vr1 rfl ?_
                    refine am_Vs rfl ?_
                    exact am_fin _ _ (Nat.le_of_ble_eq_true rfl) (Nat.le_of_ble_eq_true rfl)
                  | 2, _, ej =>
                    refine am_Vn 26 _ _ [.int (xs 5), .int (xs 4), .int (xs 3), .int (xs 2), .int (xs 1), .ref 0] _ rfl ?_
                    rw [ej]
                    refine am_Vc (As := [.ref 0, .int (2), .int (xs 2), .int (xs 3), .int (xs 4), .int (xs 5)]) (rest := []) rfl ?_
                    refine am_Vn 1 _ _ [.int (2)] _ rfl ?_
                    refine am_Vc (As := [.int (2)]) (rest := []) rfl ?_
                    refine am_Vn 7 _ _ [.int (1)] _ rfl ?_
                    refine am_Vr1 rfl ?_
                    refine am_Vn 2 _ _ [.int (xs 2)] _ rfl ?_
                    refine am_Vc (As := [.int (xs 2)]) (rest := []) rfl ?_
                    refine am_Vn 1 _ _ [.int (xs 2)] _ rfl ?_
                    refine am_Vf rfl h44 ?_
                    refine am_Vn 2 _ _ [.int (3), .int (xs 2)] _ rfl ?_
                    refine am_Vf rfl h62 ?_
                    refine am_Vn 2 _ _ [.int (1)] _ rfl ?_
                    refine am_Vr1 rfl ?_
                    refine am_Vn 3 _ _ [.int (1), .int (xs 4)] _ rfl ?_
                    refine am_Vf rfl h78 ?_
                    refine am_Vn 2 _ _ [.int (20), .int (xs 4)] _ rfl ?_
                    refine am_Vf rfl h87 ?_
                    refine am_Vn 1 _ _ [.int (xs 5)] _ rfl ?_
                    refine am_Vf rfl h100 ?_
                    refine am_Vn 2 _ _ [.int (1000), .int (xs 5)] _ rfl ?_
                    refine am_Vt rfl h110 ?_
                    refine am_Vn 5 _ _ [.int (xs 2), .ref 118] _ rfl ?_
                    refine am_Vc (As := [.ref 118, .int (xs 2)]) (rest := []) rfl ?_
                    refine am_Vn 1 _ _ [.ref 118] _ rfl ?_
                    refine am_Vc (As := [.ref 118]) (rest := []) rfl ?_
                    refine am_Vn 6 _ _ [.int (1)] _ rfl ?_
                    refine am_Vr1 rfl ?_
                    refine am_Vn 2 _ _ [.int (1)] _ rfl ?_
                    refine am_Vr1 rfl ?_
                    refine am_Vn 8 _ _ [.int (-11)] _ rfl ?_
                    refine am_Vr1 rfl ?_
                    refine am_Vn 26 _ _ [.int (xs 5), .int (xs 4), .int (xs 3), .int (xs 2), .int (xs 1), .ref 122, .int (-11)] _ rfl ?_
                    rw [ej]
                    refine am_Vc (As := [.ref 122, .int (2), .int (xs 2), .int (xs 3), .int (xs 4), .int (xs 5)]) (rest := [.int (-11)]) rfl ?_
                    refine am_Vn 4 _ _ [.long (3), .long (0), .long (2)] _ rfl ?_
                    refine am_Vc (As := [.long (2), .long (0), .long (3)]) (rest := []) rfl ?_
                    refine am_Vn 10 _ _ [.int (1)] _ rfl ?_
                    refine am_Vr1 rfl ?_
                    refine am_Vn 5 _ _ [.long (2), .long (0), .long (xs 2).toInt64] _ rfl ?_
                    refine am_Vc (As := [.long (xs 2).toInt64, .long (0), .long (2)]) (rest := []) rfl ?_
                    refine am_Vn 3 _ _ _ _ rfl ?_
                    refine am_Vf rfl h46 ?_
                    refine am_Vn 3 _ _ _ _ rfl ?_
                    refine am_Vf rfl h59 ?_
                    refine am_Vn 2 _ _ [.int (1)] _ rfl ?_
                    refine am_Vr1 rfl ?_
                    refine am_Vn 5 _ _ [.long (20), .long (1), .long (xs 4).toInt64] _ rfl ?_
                    refine am_Vc (As := [.long (xs 4).toInt64, .long (1), .long (20)]) (rest := []) rfl ?_
                    refine am_Vn 3 _ _ _ _ rfl ?_
                    refine am_Vf rfl h80 ?_
                    refine am_Vn 3 _ _ _ _ rfl ?_
                    refine am_Vf rfl h89 ?_
                    refine am_Vn 2 _ _ [.int (1)] _ rfl ?_
                    refine am_Vr1 rfl ?_
                    refine am_Vn 5 _ _ [.long (1000), .long (0), .long (xs 5).toInt64] _ rfl ?_
                    refine am_Vc (As := [.long (xs 5).toInt64, .long (0), .long (1000)]) (rest := []) rfl ?_
                    refine am_Vn 3 _ _ _ _ rfl ?_
                    refine am_Vf rfl h102 ?_
                    refine am_Vn 3 _ _ _ _ rfl ?_
                    refine am_Vf rfl h111 ?_
                    refine am_Vn 2 _ _ [.int (1)] _ rfl ?_
                    refine am_Vr1 rfl ?_
                    refine am_Vn 6 _ _ [.int (xs 2), .int (-4)] _ rfl ?_
                    refine am_Vf rfl h113 ?_
                    refine am_Vn 8 _ _ [.int (-11)] _ rfl ?_
                    refine am_Vr1 rfl ?_
                    refine am_Vs rfl ?_
                    exact am_fin _ _ (Nat.le_of_ble_eq_true rfl) (Nat.le_of_ble_eq_true rfl)
                  | 3, _, ej =>
                    refine am_Vn 26 _ _ [.int (xs 5), .int (xs 4), .int (xs 3), .int (xs 2), .int (xs 1), .ref 0] _ rfl ?_
                    rw [ej]
                    refine am_Vc (As := [.ref 0, .int (3), .int (xs 2), .int (xs 3), .int (xs 4), .int (xs 5)]) (rest := []) rfl ?_
                    refine am_Vn 1 _ _ [.int (3)] _ rfl ?_
                    refine am_Vc (As := [.int (3)]) (rest := []) rfl ?_
                    refine am_Vn 7 _ _ [.int (1)] _ rfl ?_
                    refine am_Vr1 rfl ?_
                    refine am_Vn 2 _ _ [.int (xs 2)] _ rfl ?_
                    refine am_Vc (As := [.int (xs 2)]) (rest := []) rfl ?_
                    refine am_Vn 1 _ _ [.int (xs 2)] _ rfl ?_
                    refine am_Vf rfl h44 ?_
                    refine am_Vn 2 _ _ [.int (3), .int (xs 2)] _ rfl ?_
                    refine am_Vf rfl h62 ?_
                    refine am_Vn 2 _ _ [.int (1)] _ rfl ?_
                    refine am_Vr1 rfl ?_
                    refine am_Vn 3 _ _ [.int (1), .int (xs 4)] _ rfl ?_
                    refine am_Vf rfl h78 ?_
                    refine am_Vn 2 _ _ [.int (20), .int (xs 4)] _ rfl ?_
                    refine am_Vf rfl h87 ?_
                    refine am_Vn 1 _ _ [.int (xs 5)] _ rfl ?_
                    refine am_Vf rfl h100 ?_
                    refine am_Vn 2 _ _ [.int (1000), .int (xs 5)] _ rfl ?_
                    refine am_Vt rfl h110 ?_
                    refine am_Vn 5 _ _ [.int (xs 2), .ref 120] _ rfl ?_
                    refine am_Vc (As := [.ref 120, .int (xs 2)]) (rest := []) rfl ?_
                    refine am_Vn 1 _ _ [.ref 120] _ rfl ?_
                    refine am_Vc (As := [.ref 120]) (rest := []) rfl ?_
                    refine am_Vn 6 _ _ [.int (1)] _ rfl ?_
                    refine am_Vr1 rfl ?_
                    refine am_Vn 2 _ _ [.int (1)] _ rfl ?_
                    refine am_Vr1 rfl ?_
                    refine am_Vn 8 _ _ [.int (-11)] _ rfl ?_
                    refine am_Vr1 rfl ?_
                    refine am_Vn 26 _ _ [.int (xs 5), .int (xs 4), .int (xs 3), .int (xs 2), .int (xs 1), .ref 122, .int (-11)] _ rfl ?_
                    rw [ej]
                    refine am_Vc (As := [.ref 122, .int (3), .int (xs 2), .int (xs 3), .int (xs 4), .int (xs 5)]) (rest := [.int (-11)]) rfl ?_
                    refine am_Vn 4 _ _ [.long (3), .long (0), .long (3)] _ rfl ?_
                    refine am_Vc (As := [.long (3), .long (0), .long (3)]) (rest := []) rfl ?_
                    refine am_Vn 10 _ _ [.int (1)] _ rfl ?_
                    refine am_Vr1 rfl ?_
                    refine am_Vn 5 _ _ [.long (2), .long (0), .long (xs 2).toInt64] _ rfl ?_
                    refine am_Vc (As := [.long (xs 2).toInt64, .long (0), .long (2)]) (rest := []) rfl ?_
                    refine am_Vn 3 _ _ _ _ rfl ?_
                    refine am_Vf rfl h46 ?_
                    refine am_Vn 3 _ _ _ _ rfl ?_
                    refine am_Vf rfl h59 ?_
                    refine am_Vn 2 _ _ [.int (1)] _ rfl ?_
                    refine am_Vr1 rfl ?_
                    refine am_Vn 5 _ _ [.long (20), .long (1), .long (xs 4).toInt64] _ rfl ?_
                    refine am_Vc (As := [.long (xs 4).toInt64, .long (1), .long (20)]) (rest := []) rfl ?_
                    refine am_Vn 3 _ _ _ _ rfl ?_
                    refine am_Vf rfl h80 ?_
                    refine am_Vn 3 _ _ _ _ rfl ?_
                    refine am_Vf rfl h89 ?_
                    refine am_Vn 2 _ _ [.int (1)] _ rfl ?_
                    refine am_Vr1 rfl ?_
                    refine am_Vn 5 _ _ [.long (1000), .long (0), .long (xs 5).toInt64] _ rfl ?_
                    refine am_Vc (As := [.long (xs 5).toInt64, .long (0), .long (1000)]) (rest := []) rfl ?_
                    refine am_Vn 3 _ _ _ _ rfl ?_
                    refine am_Vf rfl h102 ?_
                    refine am_Vn 3 _ _ _ _ rfl ?_
                    refine am_Vf rfl h111 ?_
                    refine am_Vn 2 _ _ [.int (1)] _ rfl ?_
                    refine am_Vr1 rfl ?_
                    refine am_Vn 6 _ _ [.int (xs 2), .int (-4)] _ rfl ?_
                    refine am_Vf rfl h113 ?_
                    refine am_Vn 8 _ _ [.int (-11)] _ rfl ?_
                    refine am_Vr1 rfl ?_
                    refine am_Vs rfl ?_
                    exact am_fin _ _ (Nat.le_of_ble_eq_true rfl) (Nat.le_of_ble_eq_true rfl)
                  | j + 4, hj, _ => exact absurd hj (Nat.not_lt.mpr (Nat.le_add_left _ j))
set_option maxRecDepth 100000 in
set_option maxHeartbeats 8000000 in
theorem am_op_35 (xs : Nat → Int32) : am_V (some (6, xs)) 20 262 1344 am_L3 [] am_S1 am_Qf := by
  by_cases h1 : xs 1 < 0
  · skip
    obtain ⟨h2, h3, h4, h5, h6, h7, h8, h9⟩ := am_lt (C := 0) (by decide) h1
    refine am_Vn 11 _ _ [.int (xs 2), .int (xs 1), .ref 0] _ rfl ?_
    refine am_Vc (As := [.ref 0, .int (xs 1), .int (xs 2)]) (rest := []) rfl ?_
    refine am_Vn 3 _ _ [.int (xs 1), .ref 6] _ rfl ?_
    refine am_Vc (As := [.ref 6, .int (xs 1)]) (rest := []) rfl ?_
    refine am_Vn 1 _ _ [.int (xs 1)] _ rfl ?_
    refine am_Vt rfl h2 ?_
    refine am_Vn 1 _ _ [.int (0)] _ rfl ?_
    refine am_Vr1 rfl ?_
    refine am_Vn 2 _ _ [.int (-1)] _ rfl ?_
    refine am_Vr1 rfl ?_
    refine am_Vn 11 _ _ [.int (xs 2), .int (xs 1), .ref 122, .int (-1)] _ rfl ?_
    refine am_Vc (As := [.ref 122, .int (xs 1), .int (xs 2)]) (rest := [.int (-1)]) rfl ?_
    refine am_Vn 2 _ _ [.int (xs 1), .ref 122] _ rfl ?_
    refine am_Vc (As := [.ref 122, .int (xs 1)]) (rest := []) rfl ?_
    refine am_Vn 8 _ _ [.long (-1), .long (0), .long (xs 1).toInt64] _ rfl ?_
    refine am_Vc (As := [.long (xs 1).toInt64, .long (0), .long (-1)]) (rest := []) rfl ?_
    refine am_Vn 3 _ _ _ _ rfl ?_
    refine am_Vt rfl h6 ?_
    refine am_Vn 1 _ _ [.int (0)] _ rfl ?_
    refine am_Vr1 rfl ?_
    refine am_Vr1 rfl ?_
    refine am_Vn 2 _ _ [.int (-1)] _ rfl ?_
    refine am_Vr1 rfl ?_
    refine am_Vs rfl ?_
    exact am_fin _ _ (Nat.le_of_ble_eq_true rfl) (Nat.le_of_ble_eq_true rfl)
  · skip
    obtain ⟨h10, h11, h12, h13⟩ := am_ge (C := 0) (by decide) h1
    obtain ⟨h14, h15, h16, h17⟩ := am_gt (C := (-1)) (by decide) (am_m1 h1)
    refine am_Vn 11 _ _ [.int (xs 2), .int (xs 1), .ref 0] _ rfl ?_
    refine am_Vc (As := [.ref 0, .int (xs 1), .int (xs 2)]) (rest := []) rfl ?_
    refine am_Vn 3 _ _ [.int (xs 1), .ref 6] _ rfl ?_
    refine am_Vc (As := [.ref 6, .int (xs 1)]) (rest := []) rfl ?_
    refine am_Vn 1 _ _ [.int (xs 1)] _ rfl ?_
    refine am_Vf rfl h10 ?_
    refine am_Vn 3 _ _ [.int (0), .int (xs 1)] _ rfl ?_
    refine am_Vt rfl h11 ?_
    refine am_Vn 1 _ _ [.int (0)] _ rfl ?_
    refine am_Vr1 rfl ?_
    refine am_Vn 2 _ _ [.int (-1)] _ rfl ?_
    refine am_Vr1 rfl ?_
    refine am_Vn 11 _ _ [.int (xs 2), .int (xs 1), .ref 122, .int (-1)] _ rfl ?_
    refine am_Vc (As := [.ref 122, .int (xs 1), .int (xs 2)]) (rest := [.int (-1)]) rfl ?_
    refine am_Vn 2 _ _ [.int (xs 1), .ref 122] _ rfl ?_
    refine am_Vc (As := [.ref 122, .int (xs 1)]) (rest := []) rfl ?_
    refine am_Vn 8 _ _ [.long (-1), .long (0), .long (xs 1).toInt64] _ rfl ?_
    refine am_Vc (As := [.long (xs 1).toInt64, .long (0), .long (-1)]) (rest := []) rfl ?_
    refine am_Vn 3 _ _ _ _ rfl ?_
    refine am_Vf rfl h12 ?_
    refine am_Vn 3 _ _ _ _ rfl ?_
    refine am_Vt rfl h16 ?_
    refine am_Vn 1 _ _ [.int (0)] _ rfl ?_
    refine am_Vr1 rfl ?_
    refine am_Vr1 rfl ?_
    refine am_Vn 2 _ _ [.int (-1)] _ rfl ?_
    refine am_Vr1 rfl ?_
    refine am_Vs rfl ?_
    exact am_fin _ _ (Nat.le_of_ble_eq_true rfl) (Nat.le_of_ble_eq_true rfl)
set_option maxRecDepth 100000 in
set_option maxHeartbeats 8000000 in
theorem am_op_36 (xs : Nat → Int32) : am_V (some (6, xs)) 20 262 1377 am_L3 [] am_S1 am_Qf := by
  by_cases h1 : xs 1 < 0
  · skip
    obtain ⟨h2, h3, h4, h5, h6, h7, h8, h9⟩ := am_lt (C := 0) (by decide) h1
    refine am_Vn 11 _ _ [.int (xs 2), .int (xs 1), .ref 0] _ rfl ?_
    refine am_Vc (As := [.ref 0, .int (xs 1), .int (xs 2)]) (rest := []) rfl ?_
    refine am_Vn 3 _ _ [.int (xs 1), .ref 6] _ rfl ?_
    refine am_Vc (As := [.ref 6, .int (xs 1)]) (rest := []) rfl ?_
    refine am_Vn 1 _ _ [.int (xs 1)] _ rfl ?_
    refine am_Vt rfl h2 ?_
    refine am_Vn 1 _ _ [.int (0)] _ rfl ?_
    refine am_Vr1 rfl ?_
    refine am_Vn 2 _ _ [.int (-1)] _ rfl ?_
    refine am_Vr1 rfl ?_
    refine am_Vn 11 _ _ [.int (xs 2), .int (xs 1), .ref 122, .int (-1)] _ rfl ?_
    refine am_Vc (As := [.ref 122, .int (xs 1), .int (xs 2)]) (rest := [.int (-1)]) rfl ?_
    refine am_Vn 2 _ _ [.int (xs 1), .ref 122] _ rfl ?_
    refine am_Vc (As := [.ref 122, .int (xs 1)]) (rest := []) rfl ?_
    refine am_Vn 8 _ _ [.long (-1), .long (0), .long (xs 1).toInt64] _ rfl ?_
    refine am_Vc (As := [.long (xs 1).toInt64, .long (0), .long (-1)]) (rest := []) rfl ?_
    refine am_Vn 3 _ _ _ _ rfl ?_
    refine am_Vt rfl h6 ?_
    refine am_Vn 1 _ _ [.int (0)] _ rfl ?_
    refine am_Vr1 rfl ?_
    refine am_Vr1 rfl ?_
    refine am_Vn 2 _ _ [.int (-1)] _ rfl ?_
    refine am_Vr1 rfl ?_
    refine am_Vs rfl ?_
    exact am_fin _ _ (Nat.le_of_ble_eq_true rfl) (Nat.le_of_ble_eq_true rfl)
  · skip
    obtain ⟨h10, h11, h12, h13⟩ := am_ge (C := 0) (by decide) h1
    obtain ⟨h14, h15, h16, h17⟩ := am_gt (C := (-1)) (by decide) (am_m1 h1)
    refine am_Vn 11 _ _ [.int (xs 2), .int (xs 1), .ref 0] _ rfl ?_
    refine am_Vc (As := [.ref 0, .int (xs 1), .int (xs 2)]) (rest := []) rfl ?_
    refine am_Vn 3 _ _ [.int (xs 1), .ref 6] _ rfl ?_
    refine am_Vc (As := [.ref 6, .int (xs 1)]) (rest := []) rfl ?_
    refine am_Vn 1 _ _ [.int (xs 1)] _ rfl ?_
    refine am_Vf rfl h10 ?_
    refine am_Vn 3 _ _ [.int (0), .int (xs 1)] _ rfl ?_
    refine am_Vt rfl h11 ?_
    refine am_Vn 1 _ _ [.int (0)] _ rfl ?_
    refine am_Vr1 rfl ?_
    refine am_Vn 2 _ _ [.int (-1)] _ rfl ?_
    refine am_Vr1 rfl ?_
    refine am_Vn 11 _ _ [.int (xs 2), .int (xs 1), .ref 122, .int (-1)] _ rfl ?_
    refine am_Vc (As := [.ref 122, .int (xs 1), .int (xs 2)]) (rest := [.int (-1)]) rfl ?_
    refine am_Vn 2 _ _ [.int (xs 1), .ref 122] _ rfl ?_
    refine am_Vc (As := [.ref 122, .int (xs 1)]) (rest := []) rfl ?_
    refine am_Vn 8 _ _ [.long (-1), .long (0), .long (xs 1).toInt64] _ rfl ?_
    refine am_Vc (As := [.long (xs 1).toInt64, .long (0), .long (-1)]) (rest := []) rfl ?_
    refine am_Vn 3 _ _ _ _ rfl ?_
    refine am_Vf rfl h12 ?_
    refine am_Vn 3 _ _ _ _ rfl ?_
    refine am_Vt rfl h16 ?_
    refine am_Vn 1 _ _ [.int (0)] _ rfl ?_
    refine am_Vr1 rfl ?_
    refine am_Vr1 rfl ?_
    refine am_Vn 2 _ _ [.int (-1)] _ rfl ?_
    refine am_Vr1 rfl ?_
    refine am_Vs rfl ?_
    exact am_fin _ _ (Nat.le_of_ble_eq_true rfl) (Nat.le_of_ble_eq_true rfl)
set_option maxRecDepth 100000 in
set_option maxHeartbeats 8000000 in
theorem am_op_40 (xs : Nat → Int32) : am_V (some (6, xs)) 20 262 1470 am_L3 [] am_S1 am_Qf := by
  by_cases h1 : xs 1 < 0
  · skip
    obtain ⟨h2, h3, h4, h5, h6, h7, h8, h9⟩ := am_lt (C := 0) (by decide) h1
    refine am_Vn 11 _ _ [.int (xs 2), .int (xs 1), .ref 0] _ rfl ?_
    refine am_Vc (As := [.ref 0, .int (xs 1), .int (xs 2)]) (rest := []) rfl ?_
    refine am_Vn 2 _ _ [.int (xs 1), .ref 0] _ rfl ?_
    refine am_Vc (As := [.ref 0, .int (xs 1)]) (rest := []) rfl ?_
    refine am_Vn 1 _ _ [.int (xs 1)] _ rfl ?_
    refine am_Vt rfl h2 ?_
    refine am_Vn 1 _ _ [.int (0)] _ rfl ?_
    refine am_Vr1 rfl ?_
    refine am_Vn 2 _ _ [.int (-1)] _ rfl ?_
    refine am_Vr1 rfl ?_
    refine am_Vn 11 _ _ [.int (xs 2), .int (xs 1), .ref 122, .int (-1)] _ rfl ?_
    refine am_Vc (As := [.ref 122, .int (xs 1), .int (xs 2)]) (rest := [.int (-1)]) rfl ?_
    refine am_Vn 8 _ _ [.long (-1), .long (0), .long (xs 1).toInt64] _ rfl ?_
    refine am_Vc (As := [.long (xs 1).toInt64, .long (0), .long (-1)]) (rest := []) rfl ?_
    refine am_Vn 3 _ _ _ _ rfl ?_
    refine am_Vt rfl h6 ?_
    refine am_Vn 1 _ _ [.int (0)] _ rfl ?_
    refine am_Vr1 rfl ?_
    refine am_Vn 2 _ _ [.int (-1)] _ rfl ?_
    refine am_Vr1 rfl ?_
    refine am_Vs rfl ?_
    exact am_fin _ _ (Nat.le_of_ble_eq_true rfl) (Nat.le_of_ble_eq_true rfl)
  · skip
    obtain ⟨h10, h11, h12, h13⟩ := am_ge (C := 0) (by decide) h1
    obtain ⟨h14, h15, h16, h17⟩ := am_gt (C := (-1)) (by decide) (am_m1 h1)
    refine am_Vn 11 _ _ [.int (xs 2), .int (xs 1), .ref 0] _ rfl ?_
    refine am_Vc (As := [.ref 0, .int (xs 1), .int (xs 2)]) (rest := []) rfl ?_
    refine am_Vn 2 _ _ [.int (xs 1), .ref 0] _ rfl ?_
    refine am_Vc (As := [.ref 0, .int (xs 1)]) (rest := []) rfl ?_
    refine am_Vn 1 _ _ [.int (xs 1)] _ rfl ?_
    refine am_Vf rfl h10 ?_
    refine am_Vn 3 _ _ [.int (0), .int (xs 1)] _ rfl ?_
    refine am_Vt rfl h11 ?_
    refine am_Vn 1 _ _ [.int (0)] _ rfl ?_
    refine am_Vr1 rfl ?_
    refine am_Vn 2 _ _ [.int (-1)] _ rfl ?_
    refine am_Vr1 rfl ?_
    refine am_Vn 11 _ _ [.int (xs 2), .int (xs 1), .ref 122, .int (-1)] _ rfl ?_
    refine am_Vc (As := [.ref 122, .int (xs 1), .int (xs 2)]) (rest := [.int (-1)]) rfl ?_
    refine am_Vn 8 _ _ [.long (-1), .long (0), .long (xs 1).toInt64] _ rfl ?_
    refine am_Vc (As := [.long (xs 1).toInt64, .long (0), .long (-1)]) (rest := []) rfl ?_
    refine am_Vn 3 _ _ _ _ rfl ?_
    refine am_Vf rfl h12 ?_
    refine am_Vn 3 _ _ _ _ rfl ?_
    refine am_Vt rfl h16 ?_
    refine am_Vn 1 _ _ [.int (0)] _ rfl ?_
    refine am_Vr1 rfl ?_
    refine am_Vn 2 _ _ [.int (-1)] _ rfl ?_
    refine am_Vr1 rfl ?_
    refine am_Vs rfl ?_
    exact am_fin _ _ (Nat.le_of_ble_eq_true rfl) (Nat.le_of_ble_eq_true rfl)
set_option maxRecDepth 100000 in
set_option maxHeartbeats 8000000 in
theorem am_op_41 (xs : Nat → Int32) : am_V (some (6, xs)) 20 262 1503 am_L3 [] am_S1 am_Qf := by
  by_cases h1 : xs 1 < 0
  · skip
    obtain ⟨h2, h3, h4, h5, h6, h7, h8, h9⟩ := am_lt (C := 0) (by decide) h1
    refine am_Vn 6 _ _ [.int (xs 1), .ref 0] _ rfl ?_
    refine am_Vc (As := [.ref 0, .int (xs 1)]) (rest := []) rfl ?_
    refine am_Vn 2 _ _ [.int (xs 1), .ref 0] _ rfl ?_
    refine am_Vc (As := [.ref 0, .int (xs 1)]) (rest := []) rfl ?_
    refine am_Vn 1 _ _ [.int (xs 1)] _ rfl ?_
    refine am_Vt rfl h2 ?_
    refine am_Vn 1 _ _ [.int (0)] _ rfl ?_
    refine am_Vr1 rfl ?_
    refine am_Vn 2 _ _ [.int (-1)] _ rfl ?_
    refine am_Vr1 rfl ?_
    refine am_Vn 6 _ _ [.int (xs 1), .ref 122, .int (-1)] _ rfl ?_
    refine am_Vc (As := [.ref 122, .int (xs 1)]) (rest := [.int (-1)]) rfl ?_
    refine am_Vn 8 _ _ [.long (-1), .long (0), .long (xs 1).toInt64] _ rfl ?_
    refine am_Vc (As := [.long (xs 1).toInt64, .long (0), .long (-1)]) (rest := []) rfl ?_
    refine am_Vn 3 _ _ _ _ rfl ?_
    refine am_Vt rfl h6 ?_
    refine am_Vn 1 _ _ [.int (0)] _ rfl ?_
    refine am_Vr1 rfl ?_
    refine am_Vn 2 _ _ [.int (-1)] _ rfl ?_
    refine am_Vr1 rfl ?_
    refine am_Vs rfl ?_
    exact am_fin _ _ (Nat.le_of_ble_eq_true rfl) (Nat.le_of_ble_eq_true rfl)
  · skip
    obtain ⟨h10, h11, h12, h13⟩ := am_ge (C := 0) (by decide) h1
    obtain ⟨h14, h15, h16, h17⟩ := am_gt (C := (-1)) (by decide) (am_m1 h1)
    refine am_Vn 6 _ _ [.int (xs 1), .ref 0] _ rfl ?_
    refine am_Vc (As := [.ref 0, .int (xs 1)]) (rest := []) rfl ?_
    refine am_Vn 2 _ _ [.int (xs 1), .ref 0] _ rfl ?_
    refine am_Vc (As := [.ref 0, .int (xs 1)]) (rest := []) rfl ?_
    refine am_Vn 1 _ _ [.int (xs 1)] _ rfl ?_
    refine am_Vf rfl h10 ?_
    refine am_Vn 3 _ _ [.int (0), .int (xs 1)] _ rfl ?_
    refine am_Vt rfl h11 ?_
    refine am_Vn 1 _ _ [.int (0)] _ rfl ?_
    refine am_Vr1 rfl ?_
    refine am_Vn 2 _ _ [.int (-1)] _ rfl ?_
    refine am_Vr1 rfl ?_
    refine am_Vn 6 _ _ [.int (xs 1), .ref 122, .int (-1)] _ rfl ?_
    refine am_Vc (As := [.ref 122, .int (xs 1)]) (rest := [.int (-1)]) rfl ?_
    refine am_Vn 8 _ _ [.long (-1), .long (0), .long (xs 1).toInt64] _ rfl ?_
    refine am_Vc (As := [.long (xs 1).toInt64, .long (0), .long (-1)]) (rest := []) rfl ?_
    refine am_Vn 3 _ _ _ _ rfl ?_
    refine am_Vf rfl h12 ?_
    refine am_Vn 3 _ _ _ _ rfl ?_
    refine am_Vt rfl h16 ?_
    refine am_Vn 1 _ _ [.int (0)] _ rfl ?_
    refine am_Vr1 rfl ?_
    refine am_Vn 2 _ _ [.int (-1)] _ rfl ?_
    refine am_Vr1 rfl ?_
    refine am_Vs rfl ?_
    exact am_fin _ _ (Nat.le_of_ble_eq_true rfl) (Nat.le_of_ble_eq_true rfl)
set_option maxRecDepth 100000 in
set_option maxHeartbeats 8000000 in
theorem am_op_44 (xs : Nat → Int32) : am_V (some (6, xs)) 20 262 1582 am_L3 [] am_S1 am_Qf := by
  by_cases h1 : xs 1 < 0
  · skip
    obtain ⟨h2, h3, h4, h5, h6, h7, h8, h9⟩ := am_lt (C := 0) (by decide) h1
    refine am_Vn 16 _ _ [.int (xs 3), .int (xs 2), .int (xs 1), .ref 0] _ rfl ?_
    refine am_Vc (As := [.ref 0, .int (xs 1), .int (xs 2), .int (xs 3)]) (rest := []) rfl ?_
    refine am_Vn 1 _ _ [.int (xs 1)] _ rfl ?_
    refine am_Vc (As := [.int (xs 1)]) (rest := []) rfl ?_
    refine am_Vn 1 _ _ [.int (xs 1)] _ rfl ?_
    refine am_Vt rfl h2 ?_
    refine am_Vn 1 _ _ [.int (0)] _ rfl ?_
    refine am_Vr1 rfl ?_
    refine am_Vn 2 _ _ [.int (-1)] _ rfl ?_
    refine am_Vr1 rfl ?_
    refine am_Vn 16 _ _ [.int (xs 3), .int (xs 2), .int (xs 1), .ref 122, .int (-1)] _ rfl ?_
    refine am_Vc (As := [.ref 122, .int (xs 1), .int (xs 2), .int (xs 3)]) (rest := [.int (-1)]) rfl ?_
    refine am_Vn 4 _ _ [.long (3), .long (0), .long (xs 1).toInt64] _ rfl ?_
    refine am_Vc (As := [.long (xs 1).toInt64, .long (0), .long (3)]) (rest := []) rfl ?_
    refine am_Vn 3 _ _ _ _ rfl ?_
    refine am_Vt rfl h6 ?_
    refine am_Vn 1 _ _ [.int (0)] _ rfl ?_
    refine am_Vr1 rfl ?_
    refine am_Vn 2 _ _ [.int (-1)] _ rfl ?_
    refine am_Vr1 rfl ?_
    refine am_Vs rfl ?_
    exact am_fin _ _ (Nat.le_of_ble_eq_true rfl) (Nat.le_of_ble_eq_true rfl)
  · skip
    obtain ⟨h10, h11, h12, h13⟩ := am_ge (C := 0) (by decide) h1
    by_cases h14 : 3 < xs 1
    · skip
      obtain ⟨h15, h16, h17, h18⟩ := am_gt (C := 3) (by decide) h14
      obtain ⟨h19, h20, h21, h22⟩ := am_ge (C := 4) (by decide) ((am_sc (c1 := 4) (by decide)).1 h14)
      refine am_Vn 16 _ _ [.int (xs 3), .int (xs 2), .int (xs 1), .ref 0] _ rfl ?_
      refine am_Vc (As := [.ref 0, .int (xs 1), .int (xs 2), .int (xs 3)]) (rest := []) rfl ?_
      refine am_Vn 1 _ _ [.int (xs 1)] _ rfl ?_
      refine am_Vc (As := [.int (xs 1)]) (rest := []) rfl ?_
      refine am_Vn 1 _ _ [.int (xs 1)] _ rfl ?_
      refine am_Vf rfl h10 ?_
      refine am_Vn 2 _ _ [.int (4), .int (xs 1)] _ rfl ?_
      refine am_Vt rfl h20 ?_
      refine am_Vn 1 _ _ [.int (0)] _ rfl ?_
      refine am_Vr1 rfl ?_
      refine am_Vn 2 _ _ [.int (-1)] _ rfl ?_
      refine am_Vr1 rfl ?_
      refine am_Vn 16 _ _ [.int (xs 3), .int (xs 2), .int (xs 1), .ref 122, .int (-1)] _ rfl ?_
      refine am_Vc (As := [.ref 122, .int (xs 1), .int (xs 2), .int (xs 3)]) (rest := [.int (-1)]) rfl ?_
      refine am_Vn 4 _ _ [.long (3), .long (0), .long (xs 1).toInt64] _ rfl ?_
      refine am_Vc (As := [.long (xs 1).toInt64, .long (0), .long (3)]) (rest := []) rfl ?_
      refine am_Vn 3 _ _ _ _ rfl ?_
      refine am_Vf rfl h12 ?_
      refine am_Vn 3 _ _ _ _ rfl ?_
      refine am_Vt rfl h17 ?_
      refine am_Vn 1 _ _ [.int (0)] _ rfl ?_
      refine am_Vr1 rfl ?_
      refine am_Vn 2 _ _ [.int (-1)] _ rfl ?_
      refine am_Vr1 rfl ?_
      refine am_Vs rfl ?_
      exact am_fin _ _ (Nat.le_of_ble_eq_true rfl) (Nat.le_of_ble_eq_true rfl)
    · skip
      obtain ⟨h23, h24, h25, h26⟩ := am_le' (C := 3) (by decide) h14
      obtain ⟨h27, h28, h29, h30, h31, h32, h33, h34⟩ := am_lt (C := 4) (by decide) ((am_sc (c1 := 4) (by decide)).2 h14)
      obtain ⟨j, hj, ej⟩ := am_val (n := 3) (by decide) h1 h14
      match j, hj, ej with
      | 0, _, ej =>
        refine am_Vn 16 _ _ [.int (xs 3), .int (xs 2), .int (xs 1), .ref 0] _ rfl ?_
        rw [ej]
        refine am_Vc (As := [.ref 0, .int (0), .int (xs 2), .int (xs 3)]) (rest := []) rfl ?_
        refine am_Vn 1 _ _ [.int (0)] _ rfl ?_
        refine am_Vc (As := [.int (0)]) (rest := []) rfl ?_
        refine am_Vn 7 _ _ [.int (1)] _ rfl ?_
        refine am_Vr1 rfl ?_
        refine am_Vn 5 _ _ [.ref 114] _ rfl ?_
        refine am_Vc (As := [.ref 114]) (rest := []) rfl ?_
        refine am_Vn 6 _ _ [.int (1)] _ rfl ?_
        refine am_Vr1 rfl ?_
        refine am_Vn 2 _ _ [.int (-11)] _ rfl ?_
        refine am_Vr1 rfl ?_
        refine am_Vn 16 _ _ [.int (xs 3), .int (xs 2), .int (xs 1), .ref 122, .int (-11)] _ rfl ?_
        rw [ej]
        refine am_Vc (As := [.ref 122, .int (0), .int (xs 2), .int (xs 3)]) (rest := [.int (-11)]) rfl ?_
        refine am_Vn 4 _ _ [.long (3), .long (0), .long (0)] _ rfl ?_
        refine am_Vc (As := [.long (0), .long (0), .long (3)]) (rest := []) rfl ?_
        refine am_Vn 10 _ _ [.int (1)] _ rfl ?_
        refine am_Vr1 rfl ?_
        refine am_Vn 8 _ _ [.int (-11)] _ rfl ?_
        refine am_Vr1 rfl ?_
        refine am_Vs rfl ?_
        exact am_fin _ _ (Nat.le_of_ble_eq_true rfl) (Nat.le_of_ble_eq_true rfl)
      | 1, _, ej =>
        refine am_Vn 16 _ _ [.int (xs 3), .int (xs 2), .int (xs 1), .ref 0] _ rfl ?_
        rw [ej]
        refine am_Vc (As := [.ref 0, .int (1), .int (xs 2), .int (xs 3)]) (rest := []) rfl ?_
        refine am_Vn 1 _ _ [.int (1)] _ rfl ?_
        refine am_Vc (As := [.int (1)]) (rest := []) rfl ?_
        refine am_Vn 7 _ _ [.int (1)] _ rfl ?_
        refine am_Vr1 rfl ?_
        refine am_Vn 5 _ _ [.ref 116] _ rfl ?_
        refine am_Vc (As := [.ref 116]) (rest := []) rfl ?_
        refine am_Vn 6 _ _ [.int (1)] _ rfl ?_
        refine am_Vr1 rfl ?_
        refine am_Vn 2 _ _ [.int (-11)] _ rfl ?_
        refine am_Vr1 rfl ?_
        refine am_Vn 16 _ _ [.int (xs 3), .int (xs 2), .int (xs 1), .ref 122, .int (-11)] _ rfl ?_
        rw [ej]
        refine am_Vc (As := [.ref 122, .int (1), .int (xs 2), .int (xs 3)]) (rest := [.int (-11)]) rfl ?_
        refine am_Vn 4 _ _ [.long (3), .long (0), .long (1)] _ rfl ?_
        refine am_Vc (As := [.long (1), .long (0), .long (3)]) (rest := []) rfl ?_
        refine am_Vn 10 _ _ [.int (1)] _ rfl ?_
        refine am_Vr1 rfl ?_
        refine am_Vn 8 _ _ [.int (-11)] _ rfl ?_
        refine am_Vr1 rfl ?_
        refine am_Vs rfl ?_
        exact am_fin _ _ (Nat.le_of_ble_eq_true rfl) (Nat.le_of_ble_eq_true rfl)
      | 2, _, ej =>
        refine am_Vn 16 _ _ [.int (xs 3), .int (xs 2), .int (xs 1), .ref 0] _ rfl ?_
        rw [ej]
        refine am_Vc (As := [.ref 0, .int (2), .int (xs 2), .int (xs 3)]) (rest := []) rfl ?_
        refine am_Vn 1 _ _ [.int (2)] _ rfl ?_
        refine am_Vc (As := [.int (2)]) (rest := []) rfl ?_
        refine am_Vn 7 _ _ [.int (1)] _ rfl ?_
        refine am_Vr1 rfl ?_
        refine am_Vn 5 _ _ [.ref 118] _ rfl ?_
        refine am_Vc (As := [.ref 118]) (rest := []) rfl ?_
        refine am_Vn 6 _ _ [.int (1)] _ rfl ?_
        refine am_Vr1 rfl ?_
        refine am_Vn 2 _ _ [.int (-11)] _ rfl ?_
        refine am_Vr1 rfl ?_
        refine am_Vn 16 _ _ [.int (xs 3), .int (xs 2), .int (xs 1), .ref 122, .int (-11)] _ rfl ?_
        rw [ej]
        refine am_Vc (As := [.ref 122, .int (2), .int (xs 2), .int (xs 3)]) (rest := [.int (-11)]) rfl ?_
        refine am_Vn 4 _ _ [.long (3), .long (0), .long (2)] _ rfl ?_
        refine am_Vc (As := [.long (2), .long (0), .long (3)]) (rest := []) rfl ?_
        refine am_Vn 10 _ _ [.int (1)] _ rfl ?_
        refine am_Vr1 rfl ?_
        refine am_Vn 8 _ _ [.int (-11)] _ rfl ?_
        refine am_Vr1 rfl ?_
        refine am_Vs rfl ?_
        exact am_fin _ _ (Nat.le_of_ble_eq_true rfl) (Nat.le_of_ble_eq_true rfl)
      | 3, _, ej =>
        refine am_Vn 16 _ _ [.int (xs 3), .int (xs 2), .int (xs 1), .ref 0] _ rfl ?_
        rw [ej]
        refine am_Vc (As := [.ref 0, .int (3), .int (xs 2), .int (xs 3)]) (rest := []) rfl ?_
        refine am_Vn 1 _ _ [.int (3)] _ rfl ?_
        refine am_Vc (As := [.int (3)]) (rest := []) rfl ?_
        refine am_Vn 7 _ _ [.int (1)] _ rfl ?_
        refine am_Vr1 rfl ?_
        refine am_Vn 5 _ _ [.ref 120] _ rfl ?_
        refine am_Vc (As := [.ref 120]) (rest := []) rfl ?_
        refine am_Vn 6 _ _ [.int (1)] _ rfl ?_
        refine am_Vr1 rfl ?_
        refine am_Vn 2 _ _ [.int (-11)] _ rfl ?_
        refine am_Vr1 rfl ?_
        refine am_Vn 16 _ _ [.int (xs 3), .int (xs 2), .int (xs 1), .ref 122, .int (-11)] _ rfl ?_
        rw [ej]
        refine am_Vc (As := [.ref 122, .int (3), .int (xs 2), .int (xs 3)]) (rest := [.int (-11)]) rfl ?_
        refine am_Vn 4 _ _ [.long (3), .long (0), .long (3)] _ rfl ?_
        refine am_Vc (As := [.long (3), .long (0), .long (3)]) (rest := []) rfl ?_
        refine am_Vn 10 _ _ [.int (1)] _ rfl ?_
        refine am_Vr1 rfl ?_
        refine am_Vn 8 _ _ [.int (-11)] _ rfl ?_
        refine am_Vr1 rfl ?_
        refine am_Vs rfl ?_
        exact am_fin _ _ (Nat.le_of_ble_eq_true rfl) (Nat.le_of_ble_eq_true rfl)
      | j + 4, hj, _ => exact absurd hj (Nat.not_lt.mpr (Nat.le_add_left _ j))
set_option maxRecDepth 100000 in
set_option maxHeartbeats 8000000 in
theorem am_op_45 (xs : Nat → Int32) : am_V (some (6, xs)) 20 262 1625 am_L3 [] am_S1 am_Qf := by
  by_cases h1 : xs 1 < 0
  · skip
    obtain ⟨h2, h3, h4, h5, h6, h7, h8, h9⟩ := am_lt (C := 0) (by decide) h1
    refine am_Vn 21 _ _ [.int (xs 4), .int (xs 3), .int (xs 2), .int (xs 1), .ref 0] _ rfl ?_
    refine am_Vc (As := [.ref 0, .int (xs 1), .int (xs 2), .int (xs 3), .int (xs 4)]) (rest := []) rfl ?_
    refine am_Vn 1 _ _ [.int (xs 1)] _ rfl ?_
    refine am_Vc (As := [.int (xs 1)]) (rest := []) rfl ?_
    refine am_Vn 1 _ _ [.int (xs 1)] _ rfl ?_
    refine am_Vt rfl h2 ?_
    refine am_Vn 1 _ _ [.int (0)] _ rfl ?_
    refine am_Vr1 rfl ?_
    refine am_Vn 2 _ _ [.int (-1)] _ rfl ?_
    refine am_Vr1 rfl ?_
    refine am_Vn 21 _ _ [.int (xs 4), .int (xs 3), .int (xs 2), .int (xs 1), .ref 122, .int (-1)] _ rfl ?_
    refine am_Vc (As := [.ref 122, .int (xs 1), .int (xs 2), .int (xs 3), .int (xs 4)]) (rest := [.int (-1)]) rfl ?_
    refine am_Vn 4 _ _ [.long (3), .long (0), .long (xs 1).toInt64] _ rfl ?_
    refine am_Vc (As := [.long (xs 1).toInt64, .long (0), .long (3)]) (rest := []) rfl ?_
    refine am_Vn 3 _ _ _ _ rfl ?_
    refine am_Vt rfl h6 ?_
    refine am_Vn 1 _ _ [.int (0)] _ rfl ?_
    refine am_Vr1 rfl ?_
    refine am_Vn 2 _ _ [.int (-1)] _ rfl ?_
    refine am_Vr1 rfl ?_
    refine am_Vs rfl ?_
    exact am_fin _ _ (Nat.le_of_ble_eq_true rfl) (Nat.le_of_ble_eq_true rfl)
  · skip
    obtain ⟨h10, h11, h12, h13⟩ := am_ge (C := 0) (by decide) h1
    by_cases h14 : 3 < xs 1
    · skip
      obtain ⟨h15, h16, h17, h18⟩ := am_gt (C := 3) (by decide) h14
      obtain ⟨h19, h20, h21, h22⟩ := am_ge (C := 4) (by decide) ((am_sc (c1 := 4) (by decide)).1 h14)
      refine am_Vn 21 _ _ [.int (xs 4), .int (xs 3), .int (xs 2), .int (xs 1), .ref 0] _ rfl ?_
      refine am_Vc (As := [.ref 0, .int (xs 1), .int (xs 2), .int (xs 3), .int (xs 4)]) (rest := []) rfl ?_
      refine am_Vn 1 _ _ [.int (xs 1)] _ rfl ?_
      refine am_Vc (As := [.int (xs 1)]) (rest := []) rfl ?_
      refine am_Vn 1 _ _ [.int (xs 1)] _ rfl ?_
      refine am_Vf rfl h10 ?_
      refine am_Vn 2 _ _ [.int (4), .int (xs 1)] _ rfl ?_
      refine am_Vt rfl h20 ?_
      refine am_Vn 1 _ _ [.int (0)] _ rfl ?_
      refine am_Vr1 rfl ?_
      refine am_Vn 2 _ _ [.int (-1)] _ rfl ?_
      refine am_Vr1 rfl ?_
      refine am_Vn 21 _ _ [.int (xs 4), .int (xs 3), .int (xs 2), .int (xs 1), .ref 122, .int (-1)] _ rfl ?_
      refine am_Vc (As := [.ref 122, .int (xs 1), .int (xs 2), .int (xs 3), .int (xs 4)]) (rest := [.int (-1)]) rfl ?_
      refine am_Vn 4 _ _ [.long (3), .long (0), .long (xs 1).toInt64] _ rfl ?_
      refine am_Vc (As := [.long (xs 1).toInt64, .long (0), .long (3)]) (rest := []) rfl ?_
      refine am_Vn 3 _ _ _ _ rfl ?_
      refine am_Vf rfl h12 ?_
      refine am_Vn 3 _ _ _ _ rfl ?_
      refine am_Vt rfl h17 ?_
      refine am_Vn 1 _ _ [.int (0)] _ rfl ?_
      refine am_Vr1 rfl ?_
      refine am_Vn 2 _ _ [.int (-1)] _ rfl ?_
      refine am_Vr1 rfl ?_
      refine am_Vs rfl ?_
      exact am_fin _ _ (Nat.le_of_ble_eq_true rfl) (Nat.le_of_ble_eq_true rfl)
    · skip
      obtain ⟨h23, h24, h25, h26⟩ := am_le' (C := 3) (by decide) h14
      obtain ⟨h27, h28, h29, h30, h31, h32, h33, h34⟩ := am_lt (C := 4) (by decide) ((am_sc (c1 := 4) (by decide)).2 h14)
      by_cases h35 : xs 2 < 0
      · skip
        obtain ⟨h36, h37, h38, h39, h40, h41, h42, h43⟩ := am_lt (C := 0) (by decide) h35
        refine am_Vn 21 _ _ [.int (xs 4), .int (xs 3), .int (xs 2), .int (xs 1), .ref 0] _ rfl ?_
        refine am_Vc (As := [.ref 0, .int (xs 1), .int (xs 2), .int (xs 3), .int (xs 4)]) (rest := []) rfl ?_
        refine am_Vn 1 _ _ [.int (xs 1)] _ rfl ?_
        refine am_Vc (As := [.int (xs 1)]) (rest := []) rfl ?_
        refine am_Vn 1 _ _ [.int (xs 1)] _ rfl ?_
        refine am_Vf rfl h10 ?_
        refine am_Vn 2 _ _ [.int (4), .int (xs 1)] _ rfl ?_
        refine am_Vf rfl h28 ?_
        refine am_Vn 2 _ _ [.int (1)] _ rfl ?_
        refine am_Vr1 rfl ?_
        refine am_Vn 2 _ _ [.int (xs 2)] _ rfl ?_
        refine am_Vc (As := [.int (xs 2)]) (rest := []) rfl ?_
        refine am_Vn 1 _ _ [.int (xs 2)] _ rfl ?_
        refine am_Vt rfl h36 ?_
        refine am_Vn 1 _ _ [.int (0)] _ rfl ?_
        refine am_Vr1 rfl ?_
        refine am_Vn 2 _ _ [.int (-1)] _ rfl ?_
        refine am_Vr1 rfl ?_
        refine am_Vn 21 _ _ [.int (xs 4), .int (xs 3), .int (xs 2), .int (xs 1), .ref 122, .int (-1)] _ rfl ?_
        refine am_Vc (As := [.ref 122, .int (xs 1), .int (xs 2), .int (xs 3), .int (xs 4)]) (rest := [.int (-1)]) rfl ?_
        refine am_Vn 4 _ _ [.long (3), .long (0), .long (xs 1).toInt64] _ rfl ?_
        refine am_Vc (As := [.long (xs 1).toInt64, .long (0), .long (3)]) (rest := []) rfl ?_
        refine am_Vn 3 _ _ _ _ rfl ?_
        refine am_Vf rfl h12 ?_
        refine am_Vn 3 _ _ _ _ rfl ?_
        refine am_Vf rfl h25 ?_
        refine am_Vn 2 _ _ [.int (1)] _ rfl ?_
        refine am_Vr1 rfl ?_
        refine am_Vn 5 _ _ [.long (2), .long (0), .long (xs 2).toInt64] _ rfl ?_
        refine am_Vc (As := [.long (xs 2).toInt64, .long (0), .long (2)]) (rest := []) rfl ?_
        refine am_Vn 3 _ _ _ _ rfl ?_
        refine am_Vt rfl h40 ?_
        refine am_Vn 1 _ _ [.int (0)] _ rfl ?_
        refine am_Vr1 rfl ?_
        refine am_Vn 2 _ _ [.int (-1)] _ rfl ?_
        refine am_Vr1 rfl ?_
        refine am_Vs rfl ?_
        exact am_fin _ _ (Nat.le_of_ble_eq_true rfl) (Nat.le_of_ble_eq_true rfl)
      · skip
        obtain ⟨h44, h45, h46, h47⟩ := am_ge (C := 0) (by decide) h35
        by_cases h48 : 2 < xs 2
        · skip
          obtain ⟨h49, h50, h51, h52⟩ := am_gt (C := 2) (by decide) h48
          obtain ⟨h53, h54, h55, h56⟩ := am_ge (C := 3) (by decide) ((am_sc (c1 := 3) (by decide)).1 h48)
          refine am_Vn 21 _ _ [.int (xs 4), .int (xs 3), .int (xs 2), .int (xs 1), .ref 0] _ rfl ?_
          refine am_Vc (As := [.ref 0, .int (xs 1), .int (xs 2), .int (xs 3), .int (xs 4)]) (rest := []) rfl ?_
          refine am_Vn 1 _ _ [.int (xs 1)] _ rfl ?_
          refine am_Vc (As := [.int (xs 1)]) (rest := []) rfl ?_
          refine am_Vn 1 _ _ [.int (xs 1)] _ rfl ?_
          refine am_Vf rfl h10 ?_
          refine am_Vn 2 _ _ [.int (4), .int (xs 1)] _ rfl ?_
          refine am_Vf rfl h28 ?_
          refine am_Vn 2 _ _ [.int (1)] _ rfl ?_
          refine am_Vr1 rfl ?_
          refine am_Vn 2 _ _ [.int (xs 2)] _ rfl ?_
          refine am_Vc (As := [.int (xs 2)]) (rest := []) rfl ?_
          refine am_Vn 1 _ _ [.int (xs 2)] _ rfl ?_
          refine am_Vf rfl h44 ?_
          refine am_Vn 2 _ _ [.int (3), .int (xs 2)] _ rfl ?_
          refine am_Vt rfl h54 ?_
          refine am_Vn 1 _ _ [.int (0)] _ rfl ?_
          refine am_Vr1 rfl ?_
          refine am_Vn 2 _ _ [.int (-1)] _ rfl ?_
          refine am_Vr1 rfl ?_
          refine am_Vn 21 _ _ [.int (xs 4), .int (xs 3), .int (xs 2), .int (xs 1), .ref 122, .int (-1)] _ rfl ?_
          refine am_Vc (As := [.ref 122, .int (xs 1), .int (xs 2), .int (xs 3), .int (xs 4)]) (rest := [.int (-1)]) rfl ?_
          refine am_Vn 4 _ _ [.long (3), .long (0), .long (xs 1).toInt64] _ rfl ?_
          refine am_Vc (As := [.long (xs 1).toInt64, .long (0), .long (3)]) (rest := []) rfl ?_
          refine am_Vn 3 _ _ _ _ rfl ?_
          refine am_Vf rfl h12 ?_
          refine am_Vn 3 _ _ _ _ rfl ?_
          refine am_Vf rfl h25 ?_
          refine am_Vn 2 _ _ [.int (1)] _ rfl ?_
          refine am_Vr1 rfl ?_
          refine am_Vn 5 _ _ [.long (2), .long (0), .long (xs 2).toInt64] _ rfl ?_
          refine am_Vc (As := [.long (xs 2).toInt64, .long (0), .long (2)]) (rest := []) rfl ?_
          refine am_Vn 3 _ _ _ _ rfl ?_
          refine am_Vf rfl h46 ?_
          refine am_Vn 3 _ _ _ _ rfl ?_
          refine am_Vt rfl h51 ?_
          refine am_Vn 1 _ _ [.int (0)] _ rfl ?_
          refine am_Vr1 rfl ?_
          refine am_Vn 2 _ _ [.int (-1)] _ rfl ?_
          refine am_Vr1 rfl ?_
          refine am_Vs rfl ?_
          exact am_fin _ _ (Nat.le_of_ble_eq_true rfl) (Nat.le_of_ble_eq_true rfl)
        · skip
          obtain ⟨h57, h58, h59, h60⟩ := am_le' (C := 2) (by decide) h48
          obtain ⟨h61, h62, h63, h64, h65, h66, h67, h68⟩ := am_lt (C := 3) (by decide) ((am_sc (c1 := 3) (by decide)).2 h48)
          by_cases h69 : xs 4 < 0
          · skip
            obtain ⟨h70, h71, h72, h73, h74, h75, h76, h77⟩ := am_lt (C := 0) (by decide) h69
            refine am_Vn 21 _ _ [.int (xs 4), .int (xs 3), .int (xs 2), .int (xs 1), .ref 0] _ rfl ?_
            refine am_Vc (As := [.ref 0, .int (xs 1), .int (xs 2), .int (xs 3), .int (xs 4)]) (rest := []) rfl ?_
            refine am_Vn 1 _ _ [.int (xs 1)] _ rfl ?_
            refine am_Vc (As := [.int (xs 1)]) (rest := []) rfl ?_
            refine am_Vn 1 _ _ [.int (xs 1)] _ rfl ?_
            refine am_Vf rfl h10 ?_
            refine am_Vn 2 _ _ [.int (4), .int (xs 1)] _ rfl ?_
            refine am_Vf rfl h28 ?_
            refine am_Vn 2 _ _ [.int (1)] _ rfl ?_
            refine am_Vr1 rfl ?_
            refine am_Vn 2 _ _ [.int (xs 2)] _ rfl ?_
            refine am_Vc (As := [.int (xs 2)]) (rest := []) rfl ?_
            refine am_Vn 1 _ _ [.int (xs 2)] _ rfl ?_
            refine am_Vf rfl h44 ?_
            refine am_Vn 2 _ _ [.int (3), .int (xs 2)] _ rfl ?_
            refine am_Vf rfl h62 ?_
            refine am_Vn 2 _ _ [.int (1)] _ rfl ?_
            refine am_Vr1 rfl ?_
            refine am_Vn 2 _ _ [.int (xs 4)] _ rfl ?_
            refine am_Vt rfl h70 ?_
            refine am_Vn 1 _ _ [.int (-1)] _ rfl ?_
            refine am_Vr1 rfl ?_
            refine am_Vn 21 _ _ [.int (xs 4), .int (xs 3), .int (xs 2), .int (xs 1), .ref 122, .int (-1)] _ rfl ?_
            refine am_Vc (As := [.ref 122, .int (xs 1), .int (xs 2), .int (xs 3), .int (xs 4)]) (rest := [.int (-1)]) rfl ?_
            refine am_Vn 4 _ _ [.long (3), .long (0), .long (xs 1).toInt64] _ rfl ?_
            refine am_Vc (As := [.long (xs 1).toInt64, .long (0), .long (3)]) (rest := []) rfl ?_
            refine am_Vn 3 _ _ _ _ rfl ?_
            refine am_Vf rfl h12 ?_
            refine am_Vn 3 _ _ _ _ rfl ?_
            refine am_Vf rfl h25 ?_
            refine am_Vn 2 _ _ [.int (1)] _ rfl ?_
            refine am_Vr1 rfl ?_
            refine am_Vn 5 _ _ [.long (2), .long (0), .long (xs 2).toInt64] _ rfl ?_
            refine am_Vc (As := [.long (xs 2).toInt64, .long (0), .long (2)]) (rest := []) rfl ?_
            refine am_Vn 3 _ _ _ _ rfl ?_
            refine am_Vf rfl h46 ?_
            refine am_Vn 3 _ _ _ _ rfl ?_
            refine am_Vf rfl h59 ?_
            refine am_Vn 2 _ _ [.int (1)] _ rfl ?_
            refine am_Vr1 rfl ?_
            refine am_Vn 5 _ _ [.long (16), .long (0), .long (xs 4).toInt64] _ rfl ?_
            refine am_Vc (As := [.long (xs 4).toInt64, .long (0), .long (16)]) (rest := []) rfl ?_
            refine am_Vn 3 _ _ _ _ rfl ?_
            refine am_Vt rfl h74 ?_
            refine am_Vn 1 _ _ [.int (0)] _ rfl ?_
            refine am_Vr1 rfl ?_
            refine am_Vn 2 _ _ [.int (-1)] _ rfl ?_
            refine am_Vr1 rfl ?_
            refine am_Vs rfl ?_
            exact am_fin _ _ (Nat.le_of_ble_eq_true rfl) (Nat.le_of_ble_eq_true rfl)
          · skip
            obtain ⟨h78, h79, h80, h81⟩ := am_ge (C := 0) (by decide) h69
            by_cases h82 : 16 < xs 4
            · skip
              obtain ⟨h83, h84, h85, h86⟩ := am_gt (C := 16) (by decide) h82
              refine am_Vn 21 _ _ [.int (xs 4), .int (xs 3), .int (xs 2), .int (xs 1), .ref 0] _ rfl ?_
              refine am_Vc (As := [.ref 0, .int (xs 1), .int (xs 2), .int (xs 3), .int (xs 4)]) (rest := []) rfl ?_
              refine am_Vn 1 _ _ [.int (xs 1)] _ rfl ?_
              refine am_Vc (As := [.int (xs 1)]) (rest := []) rfl ?_
              refine am_Vn 1 _ _ [.int (xs 1)] _ rfl ?_
              refine am_Vf rfl h10 ?_
              refine am_Vn 2 _ _ [.int (4), .int (xs 1)] _ rfl ?_
              refine am_Vf rfl h28 ?_
              refine am_Vn 2 _ _ [.int (1)] _ rfl ?_
              refine am_Vr1 rfl ?_
              refine am_Vn 2 _ _ [.int (xs 2)] _ rfl ?_
              refine am_Vc (As := [.int (xs 2)]) (rest := []) rfl ?_
              refine am_Vn 1 _ _ [.int (xs 2)] _ rfl ?_
              refine am_Vf rfl h44 ?_
              refine am_Vn 2 _ _ [.int (3), .int (xs 2)] _ rfl ?_
              refine am_Vf rfl h62 ?_
              refine am_Vn 2 _ _ [.int (1)] _ rfl ?_
              refine am_Vr1 rfl ?_
              refine am_Vn 2 _ _ [.int (xs 4)] _ rfl ?_
              refine am_Vf rfl h78 ?_
              refine am_Vn 2 _ _ [.int (16), .int (xs 4)] _ rfl ?_
              refine am_Vf rfl h84 ?_
              refine am_Vn 1 _ _ [.int (-1)] _ rfl ?_
              refine am_Vr1 rfl ?_
              refine am_Vn 21 _ _ [.int (xs 4), .int (xs 3), .int (xs 2), .int (xs 1), .ref 122, .int (-1)] _ rfl ?_
              refine am_Vc (As := [.ref 122, .int (xs 1), .int (xs 2), .int (xs 3), .int (xs 4)]) (rest := [.int (-1)]) rfl ?_
              refine am_Vn 4 _ _ [.long (3), .long (0), .long (xs 1).toInt64] _ rfl ?_
              refine am_Vc (As := [.long (xs 1).toInt64, .long (0), .long (3)]) (rest := []) rfl ?_
              refine am_Vn 3 _ _ _ _ rfl ?_
              refine am_Vf rfl h12 ?_
              refine am_Vn 3 _ _ _ _ rfl ?_
              refine am_Vf rfl h25 ?_
              refine am_Vn 2 _ _ [.int (1)] _ rfl ?_
              refine am_Vr1 rfl ?_
              refine am_Vn 5 _ _ [.long (2), .long (0), .long (xs 2).toInt64] _ rfl ?_
              refine am_Vc (As := [.long (xs 2).toInt64, .long (0), .long (2)]) (rest := []) rfl ?_
              refine am_Vn 3 _ _ _ _ rfl ?_
              refine am_Vf rfl h46 ?_
              refine am_Vn 3 _ _ _ _ rfl ?_
              refine am_Vf rfl h59 ?_
              refine am_Vn 2 _ _ [.int (1)] _ rfl ?_
              refine am_Vr1 rfl ?_
              refine am_Vn 5 _ _ [.long (16), .long (0), .long (xs 4).toInt64] _ rfl ?_
              refine am_Vc (As := [.long (xs 4).toInt64, .long (0), .long (16)]) (rest := []) rfl ?_
              refine am_Vn 3 _ _ _ _ rfl ?_
              refine am_Vf rfl h80 ?_
              refine am_Vn 3 _ _ _ _ rfl ?_
              refine am_Vt rfl h85 ?_
              refine am_Vn 1 _ _ [.int (0)] _ rfl ?_
              refine am_Vr1 rfl ?_
              refine am_Vn 2 _ _ [.int (-1)] _ rfl ?_
              refine am_Vr1 rfl ?_
              refine am_Vs rfl ?_
              exact am_fin _ _ (Nat.le_of_ble_eq_true rfl) (Nat.le_of_ble_eq_true rfl)
            · skip
              obtain ⟨h87, h88, h89, h90⟩ := am_le' (C := 16) (by decide) h82
              have h91 := am_ne4 h35
              obtain ⟨j, hj, ej⟩ := am_val (n := 3) (by decide) h1 h14
              match j, hj, ej with
              | 0, _, ej =>
                refine am_Vn 21 _ _ [.int (xs 4), .int (xs 3), .int (xs 2), .int (xs 1), .ref 0] _ rfl ?_
                rw [ej]
                refine am_Vc (As := [.ref 0, .int (0), .int (xs 2), .int (xs 3), .int (xs 4)]) (rest := []) rfl ?_
                refine am_Vn 1 _ _ [.int (0)] _ rfl ?_
                refine am_Vc (As := [.int (0)]) (rest := []) rfl ?_
                refine am_Vn 7 _ _ [.int (1)] _ rfl ?_
                refine am_Vr1 rfl ?_
                refine am_Vn 2 _ _ [.int (xs 2)] _ rfl ?_
                refine am_Vc (As := [.int (xs 2)]) (rest := []) rfl ?_
                refine am_Vn 1 _ _ [.int (xs 2)] _ rfl ?_
                refine am_Vf rfl h44 ?_
                refine am_Vn 2 _ _ [.int (3), .int (xs 2)] _ rfl ?_
                refine am_Vf rfl h62 ?_
                refine am_Vn 2 _ _ [.int (1)] _ rfl ?_
                refine am_Vr1 rfl ?_
                refine am_Vn 2 _ _ [.int (xs 4)] _ rfl ?_
                refine am_Vf rfl h78 ?_
                refine am_Vn 2 _ _ [.int (16), .int (xs 4)] _ rfl ?_
                refine am_Vt rfl h88 ?_
                refine am_Vn 5 _ _ [.int (xs 2), .ref 114] _ rfl ?_
                refine am_Vc (As := [.ref 114, .int (xs 2)]) (rest := []) rfl ?_
                refine am_Vn 1 _ _ [.ref 114] _ rfl ?_
                refine am_Vc (As := [.ref 114]) (rest := []) rfl ?_
                refine am_Vn 6 _ _ [.int (1)] _ rfl ?_
                refine am_Vr1 rfl ?_
                refine am_Vn 2 _ _ [.int (1)] _ rfl ?_
                refine am_Vr1 rfl ?_
                refine am_Vn 6 _ _ [.int (-11)] _ rfl ?_
                refine am_Vr1 rfl ?_
                refine am_Vn 21 _ _ [.int (xs 4), .int (xs 3), .int (xs 2), .int (xs 1), .ref 122, .int (-11)] _ rfl ?_
                rw [ej]
                refine am_Vc (As := [.ref 122, .int (0), .int (xs 2), .int (xs 3), .int (xs 4)]) (rest := [.int (-11)]) rfl ?_
                refine am_Vn 4 _ _ [.long (3), .long (0), .long (0)] _ rfl ?_
                refine am_Vc (As := [.long (0), .long (0), .long (3)]) (rest := []) rfl ?_
                refine am_Vn 10 _ _ [.int (1)] _ rfl ?_
                refine am_Vr1 rfl ?_
                refine am_Vn 5 _ _ [.long (2), .long (0), .long (xs 2).toInt64] _ rfl ?_
                refine am_Vc (As := [.long (xs 2).toInt64, .long (0), .long (2)]) (rest := []) rfl ?_
                refine am_Vn 3 _ _ _ _ rfl ?_
                refine am_Vf rfl h46 ?_
                refine am_Vn 3 _ _ _ _ rfl ?_
                refine am_Vf rfl h59 ?_
                refine am_Vn 2 _ _ [.int (1)] _ rfl ?_
                refine am_Vr1 rfl ?_
                refine am_Vn 5 _ _ [.long (16), .long (0), .long (xs 4).toInt64] _ rfl ?_
                refine am_Vc (As := [.long (xs 4).toInt64, .long (0), .long (16)]) (rest := []) rfl ?_
                refine am_Vn 3 _ _ _ _ rfl ?_
                refine am_Vf rfl h80 ?_
                refine am_Vn 3 _ _ _ _ rfl ?_
                refine am_Vf rfl h89 ?_
                refine am_Vn 2 _ _ [.int (1)] _ rfl ?_
                refine am_Vr1 rfl ?_
                refine am_Vn 6 _ _ [.int (xs 2), .int (-4)] _ rfl ?_
                refine am_Vf rfl h91 ?_
                refine am_Vn 8 _ _ [.int (-11)] _ rfl ?_
                refine am_Vr1 rfl ?_
                refine am_Vs rfl ?_
                exact am_fin _ _ (Nat.le_of_ble_eq_true rfl) (Nat.le_of_ble_eq_true rfl)
              | 1, _, ej =>
                refine am_Vn 21 _ _ [.int (xs 4), .int (xs 3), .int (xs 2), .int (xs 1), .ref 0] _ rfl ?_
                rw [ej]
                refine am_Vc (As := [.ref 0, .int (1), .int (xs 2), .int (xs 3), .int (xs 4)]) (rest := []) rfl ?_
                refine am_Vn 1 _ _ [.int (1)] _ rfl ?_
                refine am_Vc (As := [.int (1)]) (rest := []) rfl ?_
                refine am_Vn 7 _ _ [.int (1)] _ rfl ?_
                refine am_Vr1 rfl ?_
                refine am_Vn 2 _ _ [.int (xs 2)] _ rfl ?_
                refine am_Vc (As := [.int (xs 2)]) (rest := []) rfl ?_
                refine am_Vn 1 _ _ [.int (xs 2)] _ rfl ?_
                refine am_Vf rfl h44 ?_
                refine am_Vn 2 _ _ [.int (3), .int (xs 2)] _ rfl ?_
                refine am_Vf rfl h62 ?_
                refine am_Vn 2 _ _ [.int (1)] _ rfl ?_
                refine am_Vr1 rfl ?_
                refine am_Vn 2 _ _ [.int (xs 4)] _ rfl ?_
                refine am_Vf rfl h78 ?_
                refine am_Vn 2 _ _ [.int (16), .int (xs 4)] _ rfl ?_
                refine am_Vt rfl h88 ?_
                refine am_Vn 5 _ _ [.int (xs 2), .ref 116] _ rfl ?_
                refine am_Vc (As := [.ref 116, .int (xs 2)]) (rest := []) rfl ?_
                refine am_Vn 1 _ _ [.ref 116] _ rfl ?_
                refine am_Vc (As := [.ref 116]) (rest := []) rfl ?_
                refine am_Vn 6 _ _ [.int (1)] _ rfl ?_
                refine am_Vr1 rfl ?_
                refine am_Vn 2 _ _ [.int (1)] _ rfl ?_
                refine am_Vr1 rfl ?_
                refine am_Vn 6 _ _ [.int (-11)] _ rfl ?_
                refine am_Vr1 rfl ?_
                refine am_Vn 21 _ _ [.int (xs 4), .int (xs 3), .int (xs 2), .int (xs 1), .ref 122, .int (-11)] _ rfl ?_
                rw [ej]
                refine am_Vc (As := [.ref 122, .int (1), .int (xs 2), .int (xs 3), .int (xs 4)]) (rest := [.int (-11)]) rfl ?_
                refine am_Vn 4 _ _ [.long (3), .long (0), .long (1)] _ rfl ?_
                refine am_Vc (As := [.long (1), .long (0), .long (3)]) (rest := []) rfl ?_
                refine am_Vn 10 _ _ [.int (1)] _ rfl ?_
                refine am_Vr1 rfl ?_
                refine am_Vn 5 _ _ [.long (2), .long (0), .long (xs 2).toInt64] _ rfl ?_
                refine am_Vc (As := [.long (xs 2).toInt64, .long (0), .long (2)]) (rest := []) rfl ?_
                refine am_Vn 3 _ _ _ _ rfl ?_
                refine am_Vf rfl h46 ?_
                refine am_Vn 3 _ _ _ _ rfl ?_
                refine am_Vf rfl h59 ?_
                refine am_Vn 2 _ _ [.int (1)] _ rfl ?_
                refine am_Vr1 rfl ?_
                refine am_Vn 5 _ _ [.long (16), .long (0), .long (xs 4).toInt64] _ rfl ?_
                refine am_Vc (As := [.long (xs 4).toInt64, .long (0), .long (16)]) (rest := []) rfl ?_
                refine am_Vn 3 _ _ _ _ rfl ?_
                refine am_Vf rfl h80 ?_
                refine am_Vn 3 _ _ _ _ rfl ?_
                refine am_Vf rfl h89 ?_
                refine am_Vn 2 _ _ [.int (1)] _ rfl ?_
                refine am_Vr1 rfl ?_
                refine am_Vn 6 _ _ [.int (xs 2), .int (-4)] _ rfl ?_
                refine am_Vf rfl h91 ?_
                refine am_Vn 8 _ _ [.int (-11)] _ rfl ?_
                refine am_Vr1 rfl ?_
                refine am_Vs rfl ?_
                exact am_fin _ _ (Nat.le_of_ble_eq_true rfl) (Nat.le_of_ble_eq_true rfl)
              | 2, _, ej =>
                refine am_Vn 21 _ _ [.int (xs 4), .int (xs 3), .int (xs 2), .int (xs 1), .ref 0] _ rfl ?_
                rw [ej]
                refine am_Vc (As := [.ref 0, .int (2), .int (xs 2), .int (xs 3), .int (xs 4)]) (rest := []) rfl ?_
                refine am_Vn 1 _ _ [.int (2)] _ rfl ?_
                refine am_Vc (As := [.int (2)]) (rest := []) rfl ?_
                refine am_Vn 7 _ _ [.int (1)] _ rfl ?_
                refine am_Vr1 rfl ?_
                refine am_Vn 2 _ _ [.int (xs 2)] _ rfl ?_
                refine am_Vc (As := [.int (xs 2)]) (rest := []) rfl ?_
                refine am_Vn 1 _ _ [.int (xs 2)] _ rfl ?_
                refine am_Vf rfl h44 ?_
                refine am_Vn 2 _ _ [.int (3), .int (xs 2)] _ rfl ?_
                refine am_Vf rfl h62 ?_
                refine am_Vn 2 _ _ [.int (1)] _ rfl ?_
                refine am_Vr1 rfl ?_
                refine am_Vn 2 _ _ [.int (xs 4)] _ rfl ?_
                refine am_Vf rfl h78 ?_
                refine am_Vn 2 _ _ [.int (16), .int (xs 4)] _ rfl ?_
                refine am_Vt rfl h88 ?_
                refine am_Vn 5 _ _ [.int (xs 2), .ref 118] _ rfl ?_
                refine am_Vc (As := [.ref 118, .int (xs 2)]) (rest := []) rfl ?_
                refine am_Vn 1 _ _ [.ref 118] _ rfl ?_
                refine am_Vc (As := [.ref 118]) (rest := []) rfl ?_
                refine am_Vn 6 _ _ [.int (1)] _ rfl ?_
                refine am_Vr1 rfl ?_
                refine am_Vn 2 _ _ [.int (1)] _ rfl ?_
                refine am_Vr1 rfl ?_
                refine am_Vn 6 _ _ [.int (-11)] _ rfl ?_
                refine am_Vr1 rfl ?_
                refine am_Vn 21 _ _ [.int (xs 4), .int (xs 3), .int (xs 2), .int (xs 1), .ref 122, .int (-11)] _ rfl ?_
                rw [ej]
                refine am_Vc (As := [.ref 122, .int (2), .int (xs 2), .int (xs 3), .int (xs 4)]) (rest := [.int (-11)]) rfl ?_
                refine am_Vn 4 _ _ [.long (3), .long (0), .long (2)] _ rfl ?_
                refine am_Vc (As := [.long (2), .long (0), .long (3)]) (rest := []) rfl ?_
                refine am_Vn 10 _ _ [.int (1)] _ rfl ?_
                refine am_Vr1 rfl ?_
                refine am_Vn 5 _ _ [.long (2), .long (0), .long (xs 2).toInt64] _ rfl ?_
                refine am_Vc (As := [.long (xs 2).toInt64, .long (0), .long (2)]) (rest := []) rfl ?_
                refine am_Vn 3 _ _ _ _ rfl ?_
                refine am_Vf rfl h46 ?_
                refine am_Vn 3 _ _ _ _ rfl ?_
                refine am_Vf rfl h59 ?_
                refine am_Vn 2 _ _ [.int (1)] _ rfl ?_
                refine am_Vr1 rfl ?_
                refine am_Vn 5 _ _ [.long (16), .long (0), .long (xs 4).toInt64] _ rfl ?_
                refine am_Vc (As := [.long (xs 4).toInt64, .long (0), .long (16)]) (rest := []) rfl ?_
                refine am_Vn 3 _ _ _ _ rfl ?_
                refine am_Vf rfl h80 ?_
                refine am_Vn 3 _ _ _ _ rfl ?_
                refine am_Vf rfl h89 ?_
                refine am_Vn 2 _ _ [.int (1)] _ rfl ?_
                refine am_Vr1 rfl ?_
                refine am_Vn 6 _ _ [.int (xs 2), .int (-4)] _ rfl ?_
                refine am_Vf rfl h91 ?_
                refine am_Vn 8 _ _ [.int (-11)] _ rfl ?_
                refine am_Vr1 rfl ?_
                refine am_Vs rfl ?_
                exact am_fin _ _ (Nat.le_of_ble_eq_true rfl) (Nat.le_of_ble_eq_true rfl)
              | 3, _, ej =>
                refine am_Vn 21 _ _ [.int (xs 4), .int (xs 3), .int (xs 2), .int (xs 1), .ref 0] _ rfl ?_
                rw [ej]
                refine am_Vc (As := [.ref 0, .int (3), .int (xs 2), .int (xs 3), .int (xs 4)]) (rest := []) rfl ?_
                refine am_Vn 1 _ _ [.int (3)] _ rfl ?_
                refine am_Vc (As := [.int (3)]) (rest := []) rfl ?_
                refine am_Vn 7 _ _ [.int (1)] _ rfl ?_
                refine am_Vr1 rfl ?_
                refine am_Vn 2 _ _ [.int (xs 2)] _ rfl ?_
                refine am_Vc (As := [.int (xs 2)]) (rest := []) rfl ?_
                refine am_Vn 1 _ _ [.int (xs 2)] _ rfl ?_
                refine am_Vf rfl h44 ?_
                refine am_Vn 2 _ _ [.int (3), .int (xs 2)] _ rfl ?_
                refine am_Vf rfl h62 ?_
                refine am_Vn 2 _ _ [.int (1)] _ rfl ?_
                refine am_Vr1 rfl ?_
                refine am_Vn 2 _ _ [.int (xs 4)] _ rfl ?_
                refine am_Vf rfl h78 ?_
                refine am_Vn 2 _ _ [.int (16), .int (xs 4)] _ rfl ?_
                refine am_Vt rfl h88 ?_
                refine am_Vn 5 _ _ [.int (xs 2), .ref 120] _ rfl ?_
                refine am_Vc (As := [.ref 120, .int (xs 2)]) (rest := []) rfl ?_
                refine am_Vn 1 _ _ [.ref 120] _ rfl ?_
                refine am_Vc (As := [.ref 120]) (rest := []) rfl ?_
                refine am_Vn 6 _ _ [.int (1)] _ rfl ?_
                refine am_Vr1 rfl ?_
                refine am_Vn 2 _ _ [.int (1)] _ rfl ?_
                refine am_Vr1 rfl ?_
                refine am_Vn 6 _ _ [.int (-11)] _ rfl ?_
                refine am_Vr1 rfl ?_
                refine am_Vn 21 _ _ [.int (xs 4), .int (xs 3), .int (xs 2), .int (xs 1), .ref 122, .int (-11)] _ rfl ?_
                rw [ej]
                refine am_Vc (As := [.ref 122, .int (3), .int (xs 2), .int (xs 3), .int (xs 4)]) (rest := [.int (-11)]) rfl ?_
                refine am_Vn 4 _ _ [.long (3), .long (0), .long (3)] _ rfl ?_
                refine am_Vc (As := [.long (3), .long (0), .long (3)]) (rest := []) rfl ?_
                refine am_Vn 10 _ _ [.int (1)] _ rfl ?_
                refine am_Vr1 rfl ?_
                refine am_Vn 5 _ _ [.long (2), .long (0), .long (xs 2).toInt64] _ rfl ?_
                refine am_Vc (As := [.long (xs 2).toInt64, .long (0), .long (2)]) (rest := []) rfl ?_
                refine am_Vn 3 _ _ _ _ rfl ?_
                refine am_Vf rfl h46 ?_
                refine am_Vn 3 _ _ _ _ rfl ?_
                refine am_Vf rfl h59 ?_
                refine am_Vn 2 _ _ [.int (1)] _ rfl ?_
                refine am_Vr1 rfl ?_
                refine am_Vn 5 _ _ [.long (16), .long (0), .long (xs 4).toInt64] _ rfl ?_
                refine am_Vc (As := [.long (xs 4).toInt64, .long (0), .long (16)]) (rest := []) rfl ?_
                refine am_Vn 3 _ _ _ _ rfl ?_
                refine am_Vf rfl h80 ?_
                refine am_Vn 3 _ _ _ _ rfl ?_
                refine am_Vf rfl h89 ?_
                refine am_Vn 2 _ _ [.int (1)] _ rfl ?_
                refine am_Vr1 rfl ?_
                refine am_Vn 6 _ _ [.int (xs 2), .int (-4)] _ rfl ?_
                refine am_Vf rfl h91 ?_
                refine am_Vn 8 _ _ [.int (-11)] _ rfl ?_
                refine am_Vr1 rfl ?_
                refine am_Vs rfl ?_
                exact am_fin _ _ (Nat.le_of_ble_eq_true rfl) (Nat.le_of_ble_eq_true rfl)
              | j + 4, hj, _ => exact absurd hj (Nat.not_lt.mpr (Nat.le_add_left _ j))
