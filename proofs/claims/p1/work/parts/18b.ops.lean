set_option maxRecDepth 100000 in
set_option maxHeartbeats 8000000 in
theorem am_op_19 (xs : Nat → Int32) : am_V (some (6, xs)) 20 262 811 am_L3 [] am_S1 am_Qf := by
  by_cases h1 : xs 1 < 0
  · skip
    obtain ⟨h2, h3, h4, h5, h6, h7, h8, h9⟩ := am_lt (C := 0) (by decide) h1
    refine am_Vn 16 _ _ [.int (xs 3), .int (xs 2), .int (xs 1), .ref 0] _ rfl ?_
    refine am_Vc (As := [.ref 0, .int (xs 1), .int (xs 2), .int (xs 3)]) (rest := []) rfl ?_
    refine am_Vn 2 _ _ [.int (xs 2), .int (xs 1)] _ rfl ?_
    refine am_Vc (As := [.int (xs 1), .int (xs 2)]) (rest := []) rfl ?_
    refine am_Vn 1 _ _ [.int (xs 1)] _ rfl ?_
    refine am_Vt rfl h2 ?_
    refine am_Vn 1 _ _ [.int (0)] _ rfl ?_
    refine am_Vr1 rfl ?_
    refine am_Vn 2 _ _ [.int (-1)] _ rfl ?_
    refine am_Vr1 rfl ?_
    refine am_Vn 16 _ _ [.int (xs 3), .int (xs 2), .int (xs 1), .ref 122, .int (-1)] _ rfl ?_
    refine am_Vc (As := [.ref 122, .int (xs 1), .int (xs 2), .int (xs 3)]) (rest := [.int (-1)]) rfl ?_
    refine am_Vn 4 _ _ [.long (1), .long (0), .long (xs 1).toInt64] _ rfl ?_
    refine am_Vc (As := [.long (xs 1).toInt64, .long (0), .long (1)]) (rest := []) rfl ?_
    refine am_Vn 3 _ _ _ _ rfl ?_
    refine am_Vt rfl h6 ?_
    refine am_Vn 1 _ _ [.int (0)] _ rfl ?_
    refine am_Vr1 rfl ?_
    refine am_Vn 2 _ _ [.int (-1)] _ rfl ?_
    refine am_Vr1 rfl ?_
    refine am_Vs rfl ?_
    exact am_fin _ _ (Nat.le_of_ble_eq_true rfl) (Nat.le_of_ble_eq_true rfl)
  · skip
    obtain ⟨h10, h11, h12, h13⟩ := am_ge (C := 0) (by decide) h1
    by_cases h14 : 1 < xs 1
    · skip
      obtain ⟨h15, h16, h17, h18⟩ := am_gt (C := 1) (by decide) h14
      refine am_Vn 16 _ _ [.int (xs 3), .int (xs 2), .int (xs 1), .ref 0] _ rfl ?_
      refine am_Vc (As := [.ref 0, .int (xs 1), .int (xs 2), .int (xs 3)]) (rest := []) rfl ?_
      refine am_Vn 2 _ _ [.int (xs 2), .int (xs 1)] _ rfl ?_
      refine am_Vc (As := [.int (xs 1), .int (xs 2)]) (rest := []) rfl ?_
      refine am_Vn 1 _ _ [.int (xs 1)] _ rfl ?_
      refine am_Vf rfl h10 ?_
      refine am_Vn 2 _ _ [.int (1), .int (xs 1)] _ rfl ?_
      refine am_Vt rfl h15 ?_
      refine am_Vn 1 _ _ [.int (0)] _ rfl ?_
      refine am_Vr1 rfl ?_
      refine am_Vn 2 _ _ [.int (-1)] _ rfl ?_
      refine am_Vr1 rfl ?_
      refine am_Vn 16 _ _ [.int (xs 3), .int (xs 2), .int (xs 1), .ref 122, .int (-1)] _ rfl ?_
      refine am_Vc (As := [.ref 122, .int (xs 1), .int (xs 2), .int (xs 3)]) (rest := [.int (-1)]) rfl ?_
      refine am_Vn 4 _ _ [.long (1), .long (0), .long (xs 1).toInt64] _ rfl ?_
      refine am_Vc (As := [.long (xs 1).toInt64, .long (0), .long (1)]) (rest := []) rfl ?_
      refine am_Vn 3 _ _ _ _ rfl ?_
      refine am_Vf rfl h12 ?_
      refine am_Vn 3 _ _ _ _ rfl ?_
      refine am_Vt rfl h17 ?_
      refine am_Vn 1 _ _ [.int (0)] _ rfl ?_
      refine am_Vr1 rfl ?_
      refine am_Vn 2 _ _ [.int (-1)] _ rfl ?_
      refine am_Vr1 rfl ?_
      refine am_Vs rfl ?_
      exact am_fin _ _ (Nat.le_of_ble_eq_true rfl) (Nat.le_of_ble_eq_true rfl)
    · skip
      obtain ⟨h19, h20, h21, h22⟩ := am_le' (C := 1) (by decide) h14
      by_cases h23 : xs 2 < 0
      · skip
        obtain ⟨h24, h25, h26, h27, h28, h29, h30, h31⟩ := am_lt (C := 0) (by decide) h23
        refine am_Vn 16 _ _ [.int (xs 3), .int (xs 2), .int (xs 1), .ref 0] _ rfl ?_
        refine am_Vc (As := [.ref 0, .int (xs 1), .int (xs 2), .int (xs 3)]) (rest := []) rfl ?_
        refine am_Vn 2 _ _ [.int (xs 2), .int (xs 1)] _ rfl ?_
        refine am_Vc (As := [.int (xs 1), .int (xs 2)]) (rest := []) rfl ?_
        refine am_Vn 1 _ _ [.int (xs 1)] _ rfl ?_
        refine am_Vf rfl h10 ?_
        refine am_Vn 2 _ _ [.int (1), .int (xs 1)] _ rfl ?_
        refine am_Vf rfl h19 ?_
        refine am_Vn 1 _ _ [.int (xs 2)] _ rfl ?_
        refine am_Vt rfl h24 ?_
        refine am_Vn 1 _ _ [.int (0)] _ rfl ?_
        refine am_Vr1 rfl ?_
        refine am_Vn 2 _ _ [.int (-1)] _ rfl ?_
        refine am_Vr1 rfl ?_
        refine am_Vn 16 _ _ [.int (xs 3), .int (xs 2), .int (xs 1), .ref 122, .int (-1)] _ rfl ?_
        refine am_Vc (As := [.ref 122, .int (xs 1), .int (xs 2), .int (xs 3)]) (rest := [.int (-1)]) rfl ?_
        refine am_Vn 4 _ _ [.long (1), .long (0), .long (xs 1).toInt64] _ rfl ?_
        refine am_Vc (As := [.long (xs 1).toInt64, .long (0), .long (1)]) (rest := []) rfl ?_
        refine am_Vn 3 _ _ _ _ rfl ?_
        refine am_Vf rfl h12 ?_
        refine am_Vn 3 _ _ _ _ rfl ?_
        refine am_Vf rfl h21 ?_
        refine am_Vn 2 _ _ [.int (1)] _ rfl ?_
        refine am_Vr1 rfl ?_
        refine am_Vn 5 _ _ [.long (9), .long (0), .long (xs 2).toInt64] _ rfl ?_
        refine am_Vc (As := [.long (xs 2).toInt64, .long (0), .long (9)]) (rest := []) rfl ?_
        refine am_Vn 3 _ _ _ _ rfl ?_
        refine am_Vt rfl h28 ?_
        refine am_Vn 1 _ _ [.int (0)] _ rfl ?_
        refine am_Vr1 rfl ?_
        refine am_Vn 2 _ _ [.int (-1)] _ rfl ?_
        refine am_Vr1 rfl ?_
        refine am_Vs rfl ?_
        exact am_fin _ _ (Nat.le_of_ble_eq_true rfl) (Nat.le_of_ble_eq_true rfl)
      · skip
        obtain ⟨h32, h33, h34, h35⟩ := am_ge (C := 0) (by decide) h23
        by_cases h36 : 9 < xs 2
        · skip
          obtain ⟨h37, h38, h39, h40⟩ := am_gt (C := 9) (by decide) h36
          refine am_Vn 16 _ _ [.int (xs 3), .int (xs 2), .int (xs 1), .ref 0] _ rfl ?_
          refine am_Vc (As := [.ref 0, .int (xs 1), .int (xs 2), .int (xs 3)]) (rest := []) rfl ?_
          refine am_Vn 2 _ _ [.int (xs 2), .int (xs 1)] _ rfl ?_
          refine am_Vc (As := [.int (xs 1), .int (xs 2)]) (rest := []) rfl ?_
          refine am_Vn 1 _ _ [.int (xs 1)] _ rfl ?_
          refine am_Vf rfl h10 ?_
          refine am_Vn 2 _ _ [.int (1), .int (xs 1)] _ rfl ?_
          refine am_Vf rfl h19 ?_
          refine am_Vn 1 _ _ [.int (xs 2)] _ rfl ?_
          refine am_Vf rfl h32 ?_
          refine am_Vn 2 _ _ [.int (9), .int (xs 2)] _ rfl ?_
          refine am_Vt rfl h37 ?_
          refine am_Vn 1 _ _ [.int (0)] _ rfl ?_
          refine am_Vr1 rfl ?_
          refine am_Vn 2 _ _ [.int (-1)] _ rfl ?_
          refine am_Vr1 rfl ?_
          refine am_Vn 16 _ _ [.int (xs 3), .int (xs 2), .int (xs 1), .ref 122, .int (-1)] _ rfl ?_
          refine am_Vc (As := [.ref 122, .int (xs 1), .int (xs 2), .int (xs 3)]) (rest := [.int (-1)]) rfl ?_
          refine am_Vn 4 _ _ [.long (1), .long (0), .long (xs 1).toInt64] _ rfl ?_
          refine am_Vc (As := [.long (xs 1).toInt64, .long (0), .long (1)]) (rest := []) rfl ?_
          refine am_Vn 3 _ _ _ _ rfl ?_
          refine am_Vf rfl h12 ?_
          refine am_Vn 3 _ _ _ _ rfl ?_
          refine am_Vf rfl h21 ?_
          refine am_Vn 2 _ _ [.int (1)] _ rfl ?_
          refine am_Vr1 rfl ?_
          refine am_Vn 5 _ _ [.long (9), .long (0), .long (xs 2).toInt64] _ rfl ?_
          refine am_Vc (As := [.long (xs 2).toInt64, .long (0), .long (9)]) (rest := []) rfl ?_
          refine am_Vn 3 _ _ _ _ rfl ?_
          refine am_Vf rfl h34 ?_
          refine am_Vn 3 _ _ _ _ rfl ?_
          refine am_Vt rfl h39 ?_
          refine am_Vn 1 _ _ [.int (0)] _ rfl ?_
          refine am_Vr1 rfl ?_
          refine am_Vn 2 _ _ [.int (-1)] _ rfl ?_
          refine am_Vr1 rfl ?_
          refine am_Vs rfl ?_
          exact am_fin _ _ (Nat.le_of_ble_eq_true rfl) (Nat.le_of_ble_eq_true rfl)
        · skip
          obtain ⟨h41, h42, h43, h44⟩ := am_le' (C := 9) (by decide) h36
          by_cases h45 : xs 3 < 0
          · skip
            obtain ⟨h46, h47, h48, h49, h50, h51, h52, h53⟩ := am_lt (C := 0) (by decide) h45
            refine am_Vn 16 _ _ [.int (xs 3), .int (xs 2), .int (xs 1), .ref 0] _ rfl ?_
            refine am_Vc (As := [.ref 0, .int (xs 1), .int (xs 2), .int (xs 3)]) (rest := []) rfl ?_
            refine am_Vn 2 _ _ [.int (xs 2), .int (xs 1)] _ rfl ?_
            refine am_Vc (As := [.int (xs 1), .int (xs 2)]) (rest := []) rfl ?_
            refine am_Vn 1 _ _ [.int (xs 1)] _ rfl ?_
            refine am_Vf rfl h10 ?_
            refine am_Vn 2 _ _ [.int (1), .int (xs 1)] _ rfl ?_
            refine am_Vf rfl h19 ?_
            refine am_Vn 1 _ _ [.int (xs 2)] _ rfl ?_
            refine am_Vf rfl h32 ?_
            refine am_Vn 2 _ _ [.int (9), .int (xs 2)] _ rfl ?_
            refine am_Vf rfl h41 ?_
            refine am_Vn 2 _ _ [.int (1)] _ rfl ?_
            refine am_Vr1 rfl ?_
            refine am_Vn 2 _ _ [.int (xs 3)] _ rfl ?_
            refine am_Vc (As := [.int (xs 3)]) (rest := []) rfl ?_
            refine am_Vn 1 _ _ [.int (xs 3)] _ rfl ?_
            refine am_Vt rfl h46 ?_
            refine am_Vn 1 _ _ [.int (0)] _ rfl ?_
            refine am_Vr1 rfl ?_
            refine am_Vn 2 _ _ [.int (-1)] _ rfl ?_
            refine am_Vr1 rfl ?_
            refine am_Vn 16 _ _ [.int (xs 3), .int (xs 2), .int (xs 1), .ref 122, .int (-1)] _ rfl ?_
            refine am_Vc (As := [.ref 122, .int (xs 1), .int (xs 2), .int (xs 3)]) (rest := [.int (-1)]) rfl ?_
            refine am_Vn 4 _ _ [.long (1), .long (0), .long (xs 1).toInt64] _ rfl ?_
            refine am_Vc (As := [.long (xs 1).toInt64, .long (0), .long (1)]) (rest := []) rfl ?_
            refine am_Vn 3 _ _ _ _ rfl ?_
            refine am_Vf rfl h12 ?_
            refine am_Vn 3 _ _ _ _ rfl ?_
            refine am_Vf rfl h21 ?_
            refine am_Vn 2 _ _ [.int (1)] _ rfl ?_
            refine am_Vr1 rfl ?_
            refine am_Vn 5 _ _ [.long (9), .long (0), .long (xs 2).toInt64] _ rfl ?_
            refine am_Vc (As := [.long (xs 2).toInt64, .long (0), .long (9)]) (rest := []) rfl ?_
            refine am_Vn 3 _ _ _ _ rfl ?_
            refine am_Vf rfl h34 ?_
            refine am_Vn 3 _ _ _ _ rfl ?_
            refine am_Vf rfl h43 ?_
            refine am_Vn 2 _ _ [.int (1)] _ rfl ?_
            refine am_Vr1 rfl ?_
            refine am_Vn 5 _ _ [.long (1000000), .long (0), .long (xs 3).toInt64] _ rfl ?_
            refine am_Vc (As := [.long (xs 3).toInt64, .long (0), .long (1000000)]) (rest := []) rfl ?_
            refine am_Vn 3 _ _ _ _ rfl ?_
            refine am_Vt rfl h50 ?_
            refine am_Vn 1 _ _ [.int (0)] _ rfl ?_
            refine am_Vr1 rfl ?_
            refine am_Vn 2 _ _ [.int (-1)] _ rfl ?_
            refine am_Vr1 rfl ?_
            refine am_Vs rfl ?_
            exact am_fin _ _ (Nat.le_of_ble_eq_true rfl) (Nat.le_of_ble_eq_true rfl)
          · skip
            obtain ⟨h54, h55, h56, h57⟩ := am_ge (C := 0) (by decide) h45
            by_cases h58 : 1000000 < xs 3
            · skip
              obtain ⟨h59, h60, h61, h62⟩ := am_gt (C := 1000000) (by decide) h58
              refine am_Vn 16 _ _ [.int (xs 3), .int (xs 2), .int (xs 1), .ref 0] _ rfl ?_
              refine am_Vc (As := [.ref 0, .int (xs 1), .int (xs 2), .int (xs 3)]) (rest := []) rfl ?_
              refine am_Vn 2 _ _ [.int (xs 2), .int (xs 1)] _ rfl ?_
              refine am_Vc (As := [.int (xs 1), .int (xs 2)]) (rest := []) rfl ?_
              refine am_Vn 1 _ _ [.int (xs 1)] _ rfl ?_
              refine am_Vf rfl h10 ?_
              refine am_Vn 2 _ _ [.int (1), .int (xs 1)] _ rfl ?_
              refine am_Vf rfl h19 ?_
              refine am_Vn 1 _ _ [.int (xs 2)] _ rfl ?_
              refine am_Vf rfl h32 ?_
              refine am_Vn 2 _ _ [.int (9), .int (xs 2)] _ rfl ?_
              refine am_Vf rfl h41 ?_
              refine am_Vn 2 _ _ [.int (1)] _ rfl ?_
              refine am_Vr1 rfl ?_
              refine am_Vn 2 _ _ [.int (xs 3)] _ rfl ?_
              refine am_Vc (As := [.int (xs 3)]) (rest := []) rfl ?_
              refine am_Vn 1 _ _ [.int (xs 3)] _ rfl ?_
              refine am_Vf rfl h54 ?_
              refine am_Vn 2 _ _ [.int (1000000), .int (xs 3)] _ rfl ?_
              refine am_Vt rfl h59 ?_
              refine am_Vn 1 _ _ [.int (0)] _ rfl ?_
              refine am_Vr1 rfl ?_
              refine am_Vn 2 _ _ [.int (-1)] _ rfl ?_
              refine am_Vr1 rfl ?_
              refine am_Vn 16 _ _ [.int (xs 3), .int (xs 2), .int (xs 1), .ref 122, .int (-1)] _ rfl ?_
              refine am_Vc (As := [.ref 122, .int (xs 1), .int (xs 2), .int (xs 3)]) (rest := [.int (-1)]) rfl ?_
              refine am_Vn 4 _ _ [.long (1), .long (0), .long (xs 1).toInt64] _ rfl ?_
              refine am_Vc (As := [.long (xs 1).toInt64, .long (0), .long (1)]) (rest := []) rfl ?_
              refine am_Vn 3 _ _ _ _ rfl ?_
              refine am_Vf rfl h12 ?_
              refine am_Vn 3 _ _ _ _ rfl ?_
              refine am_Vf rfl h21 ?_
              refine am_Vn 2 _ _ [.int (1)] _ rfl ?_
              refine am_Vr1 rfl ?_
              refine am_Vn 5 _ _ [.long (9), .long (0), .long (xs 2).toInt64] _ rfl ?_
              refine am_Vc (As := [.long (xs 2).toInt64, .long (0), .long (9)]) (rest := []) rfl ?_
              refine am_Vn 3 _ _ _ _ rfl ?_
              refine am_Vf rfl h34 ?_
              refine am_Vn 3 _ _ _ _ rfl ?_
              refine am_Vf rfl h43 ?_
              refine am_Vn 2 _ _ [.int (1)] _ rfl ?_
              refine am_Vr1 rfl ?_
              refine am_Vn 5 _ _ [.long (1000000), .long (0), .long (xs 3).toInt64] _ rfl ?_
              refine am_Vc (As := [.long (xs 3).toInt64, .long (0), .long (1000000)]) (rest := []) rfl ?_
              refine am_Vn 3 _ _ _ _ rfl ?_
              refine am_Vf rfl h56 ?_
              refine am_Vn 3 _ _ _ _ rfl ?_
              refine am_Vt rfl h61 ?_
              refine am_Vn 1 _ _ [.int (0)] _ rfl ?_
              refine am_Vr1 rfl ?_
              refine am_Vn 2 _ _ [.int (-1)] _ rfl ?_
              refine am_Vr1 rfl ?_
              refine am_Vs rfl ?_
              exact am_fin _ _ (Nat.le_of_ble_eq_true rfl) (Nat.le_of_ble_eq_true rfl)
            · skip
              obtain ⟨h63, h64, h65, h66⟩ := am_le' (C := 1000000) (by decide) h58
              refine am_Vn 16 _ _ [.int (xs 3), .int (xs 2), .int (xs 1), .ref 0] _ rfl ?_
              refine am_Vc (As := [.ref 0, .int (xs 1), .int (xs 2), .int (xs 3)]) (rest := []) rfl ?_
              refine am_Vn 2 _ _ [.int (xs 2), .int (xs 1)] _ rfl ?_
              refine am_Vc (As := [.int (xs 1), .int (xs 2)]) (rest := []) rfl ?_
              refine am_Vn 1 _ _ [.int (xs 1)] _ rfl ?_
              refine am_Vf rfl h10 ?_
              refine am_Vn 2 _ _ [.int (1), .int (xs 1)] _ rfl ?_
              refine am_Vf rfl h19 ?_
              refine am_Vn 1 _ _ [.int (xs 2)] _ rfl ?_
              refine am_Vf rfl h32 ?_
              refine am_Vn 2 _ _ [.int (9), .int (xs 2)] _ rfl ?_
              refine am_Vf rfl h41 ?_
              refine am_Vn 2 _ _ [.int (1)] _ rfl ?_
              refine am_Vr1 rfl ?_
              refine am_Vn 2 _ _ [.int (xs 3)] _ rfl ?_
              refine am_Vc (As := [.int (xs 3)]) (rest := []) rfl ?_
              refine am_Vn 1 _ _ [.int (xs 3)] _ rfl ?_
              refine am_Vf rfl h54 ?_
              refine am_Vn 2 _ _ [.int (1000000), .int (xs 3)] _ rfl ?_
              refine am_Vf rfl h63 ?_
              refine am_Vn 2 _ _ [.int (1)] _ rfl ?_
              refine am_Vr1 rfl ?_
              refine am_Vn 7 _ _ [.int (xs 2), .int (xs 1), .ref 1, .ref 40] _ rfl ?_
              refine am_Vc (As := [.ref 40, .ref 1, .int (xs 1), .int (xs 2)]) (rest := []) rfl ?_
              refine am_Vn 9 _ _ _ _ rfl ?_
              refine am_Vr0 rfl ?_
              refine am_Vn 5 _ _ [.int (xs 3), .ref 6, .ref 40] _ rfl ?_
              refine am_Vc (As := [.ref 40, .ref 6, .int (xs 3)]) (rest := []) rfl ?_
              refine am_Vn 9 _ _ [.int (0)] _ rfl ?_
              refine am_Vr1 rfl ?_
              refine am_Vr1 rfl ?_
              refine am_Vn 16 _ _ [.int (xs 3), .int (xs 2), .int (xs 1), .ref 122, .int (0)] _ rfl ?_
              refine am_Vc (As := [.ref 122, .int (xs 1), .int (xs 2), .int (xs 3)]) (rest := [.int (0)]) rfl ?_
              refine am_Vn 4 _ _ [.long (1), .long (0), .long (xs 1).toInt64] _ rfl ?_
              refine am_Vc (As := [.long (xs 1).toInt64, .long (0), .long (1)]) (rest := []) rfl ?_
              refine am_Vn 3 _ _ _ _ rfl ?_
              refine am_Vf rfl h12 ?_
              refine am_Vn 3 _ _ _ _ rfl ?_
              refine am_Vf rfl h21 ?_
              refine am_Vn 2 _ _ [.int (1)] _ rfl ?_
              refine am_Vr1 rfl ?_
              refine am_Vn 5 _ _ [.long (9), .long (0), .long (xs 2).toInt64] _ rfl ?_
              refine am_Vc (As := [.long (xs 2).toInt64, .long (0), .long (9)]) (rest := []) rfl ?_
              refine am_Vn 3 _ _ _ _ rfl ?_
              refine am_Vf rfl h34 ?_
              refine am_Vn 3 _ _ _ _ rfl ?_
              refine am_Vf rfl h43 ?_
              refine am_Vn 2 _ _ [.int (1)] _ rfl ?_
              refine am_Vr1 rfl ?_
              refine am_Vn 5 _ _ [.long (1000000), .long (0), .long (xs 3).toInt64] _ rfl ?_
              refine am_Vc (As := [.long (xs 3).toInt64, .long (0), .long (1000000)]) (rest := []) rfl ?_
              refine am_Vn 3 _ _ _ _ rfl ?_
              refine am_Vf rfl h56 ?_
              refine am_Vn 3 _ _ _ _ rfl ?_
              refine am_Vf rfl h65 ?_
              refine am_Vn 2 _ _ [.int (1)] _ rfl ?_
              refine am_Vr1 rfl ?_
              refine am_Vn 5 _ _ [.int (xs 3), .int (xs 2), .int (xs 1), .ref 122] _ rfl ?_
              refine am_Vc (As := [.ref 122, .int (xs 1), .int (xs 2), .int (xs 3)]) (rest := []) rfl ?_
              refine am_Vn 9 _ _ [.int (0)] _ rfl ?_
              refine am_Vr1 rfl ?_
              refine am_Vn 1 _ _ [.int (0)] _ rfl ?_
              refine am_Vr1 rfl ?_
              refine am_Vs rfl ?_
              exact am_fin _ _ (Nat.le_of_ble_eq_true rfl) (Nat.le_of_ble_eq_true rfl)
set_option maxRecDepth 100000 in
set_option maxHeartbeats 8000000 in
theorem am_op_23 (xs : Nat → Int32) : am_V (some (6, xs)) 20 262 953 am_L3 [] am_S1 am_Qf := by
  by_cases h1 : xs 1 < 0
  · skip
    obtain ⟨h2, h3, h4, h5, h6, h7, h8, h9⟩ := am_lt (C := 0) (by decide) h1
    refine am_Vn 6 _ _ [.int (xs 1), .ref 0] _ rfl ?_
    refine am_Vc (As := [.ref 0, .int (xs 1)]) (rest := []) rfl ?_
    refine am_Vn 1 _ _ [.int (xs 1)] _ rfl ?_
    refine am_Vt rfl h2 ?_
    refine am_Vn 1 _ _ [.int (-1)] _ rfl ?_
    refine am_Vr1 rfl ?_
    refine am_Vn 6 _ _ [.int (xs 1), .ref 122, .int (-1)] _ rfl ?_
    refine am_Vc (As := [.ref 122, .int (xs 1)]) (rest := [.int (-1)]) rfl ?_
    refine am_Vn 6 _ _ [.long (0), .long (0), .long (xs 1).toInt64] _ rfl ?_
    refine am_Vc (As := [.long (xs 1).toInt64, .long (0), .long (0)]) (rest := []) rfl ?_
    refine am_Vn 3 _ _ _ _ rfl ?_
    refine am_Vt rfl h6 ?_
    refine am_Vn 1 _ _ [.int (0)] _ rfl ?_
    refine am_Vr1 rfl ?_
    refine am_Vn 2 _ _ [.int (-1)] _ rfl ?_
    refine am_Vr1 rfl ?_
    refine am_Vs rfl ?_
    exact am_fin _ _ (Nat.le_of_ble_eq_true rfl) (Nat.le_of_ble_eq_true rfl)
  · skip
    obtain ⟨h10, h11, h12, h13⟩ := am_ge (C := 0) (by decide) h1
    by_cases h14 : 0 < xs 1
    · skip
      obtain ⟨h15, h16, h17, h18⟩ := am_gt (C := 0) (by decide) h14
      refine am_Vn 6 _ _ [.int (xs 1), .ref 0] _ rfl ?_
      refine am_Vc (As := [.ref 0, .int (xs 1)]) (rest := []) rfl ?_
      refine am_Vn 1 _ _ [.int (xs 1)] _ rfl ?_
      refine am_Vf rfl h10 ?_
      refine am_Vn 4 _ _ [.int (0), .int (xs 1)] _ rfl ?_
      refine am_Vf rfl h16 ?_
      refine am_Vn 1 _ _ [.int (-1)] _ rfl ?_
      refine am_Vr1 rfl ?_
      refine am_Vn 6 _ _ [.int (xs 1), .ref 122, .int (-1)] _ rfl ?_
      refine am_Vc (As := [.ref 122, .int (xs 1)]) (rest := [.int (-1)]) rfl ?_
      refine am_Vn 6 _ _ [.long (0), .long (0), .long (xs 1).toInt64] _ rfl ?_
      refine am_Vc (As := [.long (xs 1).toInt64, .long (0), .long (0)]) (rest := []) rfl ?_
      refine am_Vn 3 _ _ _ _ rfl ?_
      refine am_Vf rfl h12 ?_
      refine am_Vn 3 _ _ _ _ rfl ?_
      refine am_Vt rfl h17 ?_
      refine am_Vn 1 _ _ [.int (0)] _ rfl ?_
      refine am_Vr1 rfl ?_
      refine am_Vn 2 _ _ [.int (-1)] _ rfl ?_
      refine am_Vr1 rfl ?_
      refine am_Vs rfl ?_
      exact am_fin _ _ (Nat.le_of_ble_eq_true rfl) (Nat.le_of_ble_eq_true rfl)
    · skip
      obtain ⟨h19, h20, h21, h22⟩ := am_le' (C := 0) (by decide) h14
      refine am_Vn 6 _ _ [.int (xs 1), .ref 0] _ rfl ?_
      refine am_Vc (As := [.ref 0, .int (xs 1)]) (rest := []) rfl ?_
      refine am_Vn 1 _ _ [.int (xs 1)] _ rfl ?_
      refine am_Vf rfl h10 ?_
      refine am_Vn 4 _ _ [.int (0), .int (xs 1)] _ rfl ?_
      refine am_Vt rfl h20 ?_
      refine am_Vn 9 _ _ [.int (0)] _ rfl ?_
      refine am_Vr1 rfl ?_
      refine am_Vn 6 _ _ [.int (xs 1), .ref 122, .int (0)] _ rfl ?_
      refine am_Vc (As := [.ref 122, .int (xs 1)]) (rest := [.int (0)]) rfl ?_
      refine am_Vn 6 _ _ [.long (0), .long (0), .long (xs 1).toInt64] _ rfl ?_
      refine am_Vc (As := [.long (xs 1).toInt64, .long (0), .long (0)]) (rest := []) rfl ?_
      refine am_Vn 3 _ _ _ _ rfl ?_
      refine am_Vf rfl h12 ?_
      refine am_Vn 3 _ _ _ _ rfl ?_
      refine am_Vf rfl h21 ?_
      refine am_Vn 2 _ _ [.int (1)] _ rfl ?_
      refine am_Vr1 rfl ?_
      refine am_Vn 8 _ _ [.int (0)] _ rfl ?_
      refine am_Vr1 rfl ?_
      refine am_Vs rfl ?_
      exact am_fin _ _ (Nat.le_of_ble_eq_true rfl) (Nat.le_of_ble_eq_true rfl)
set_option maxRecDepth 100000 in
set_option maxHeartbeats 8000000 in
theorem am_op_26 (xs : Nat → Int32) : am_V (some (6, xs)) 20 262 1002 am_L3 [] am_S1 am_Qf := by
  by_cases h1 : xs 1 < (-40)
  · skip
    obtain ⟨h2, h3, h4, h5, h6, h7, h8, h9⟩ := am_lt (C := (-40)) (by decide) h1
    refine am_Vn 11 _ _ [.int (xs 2), .int (xs 1), .ref 0] _ rfl ?_
    refine am_Vc (As := [.ref 0, .int (xs 1), .int (xs 2)]) (rest := []) rfl ?_
    refine am_Vn 2 _ _ [.int (-40), .int (xs 1)] _ rfl ?_
    refine am_Vt rfl h2 ?_
    refine am_Vn 1 _ _ [.long (-1)] _ rfl ?_
    refine am_Vr1 rfl ?_
    refine am_Vn 11 _ _ [.int (xs 2), .int (xs 1), .ref 122, .long (-1)] _ rfl ?_
    refine am_Vc (As := [.ref 122, .int (xs 1), .int (xs 2)]) (rest := [.long (-1)]) rfl ?_
    refine am_Vn 2 _ _ [.int (xs 2), .int (xs 1)] _ rfl ?_
    refine am_Vc (As := [.int (xs 1), .int (xs 2)]) (rest := []) rfl ?_
    refine am_Vn 4 _ _ [.long (40), .long (-40), .long (xs 1).toInt64] _ rfl ?_
    refine am_Vc (As := [.long (xs 1).toInt64, .long (-40), .long (40)]) (rest := []) rfl ?_
    refine am_Vn 3 _ _ _ _ rfl ?_
    refine am_Vt rfl h6 ?_
    refine am_Vn 1 _ _ [.int (0)] _ rfl ?_
    refine am_Vr1 rfl ?_
    refine am_Vn 2 _ _ [.int (0)] _ rfl ?_
    refine am_Vr1 rfl ?_
    refine am_Vn 2 _ _ [.long (-1)] _ rfl ?_
    refine am_Vr1 rfl ?_
    refine am_Vn 2 _ _ _ _ rfl ?_
    exact am_fin _ _ (Nat.le_of_ble_eq_true rfl) (Nat.le_of_ble_eq_true rfl)
  · skip
    obtain ⟨h10, h11, h12, h13⟩ := am_ge (C := (-40)) (by decide) h1
    by_cases h14 : 40 < xs 1
    · skip
      obtain ⟨h15, h16, h17, h18⟩ := am_gt (C := 40) (by decide) h14
      refine am_Vn 11 _ _ [.int (xs 2), .int (xs 1), .ref 0] _ rfl ?_
      refine am_Vc (As := [.ref 0, .int (xs 1), .int (xs 2)]) (rest := []) rfl ?_
      refine am_Vn 2 _ _ [.int (-40), .int (xs 1)] _ rfl ?_
      refine am_Vf rfl h10 ?_
      refine am_Vn 2 _ _ [.int (40), .int (xs 1)] _ rfl ?_
      refine am_Vt rfl h15 ?_
      refine am_Vn 1 _ _ [.long (-1)] _ rfl ?_
      refine am_Vr1 rfl ?_
      refine am_Vn 11 _ _ [.int (xs 2), .int (xs 1), .ref 122, .long (-1)] _ rfl ?_
      refine am_Vc (As := [.ref 122, .int (xs 1), .int (xs 2)]) (rest := [.long (-1)]) rfl ?_
      refine am_Vn 2 _ _ [.int (xs 2), .int (xs 1)] _ rfl ?_
      refine am_Vc (As := [.int (xs 1), .int (xs 2)]) (rest := []) rfl ?_
      refine am_Vn 4 _ _ [.long (40), .long (-40), .long (xs 1).toInt64] _ rfl ?_
      refine am_Vc (As := [.long (xs 1).toInt64, .long (-40), .long (40)]) (rest := []) rfl ?_
      refine am_Vn 3 _ _ _ _ rfl ?_
      refine am_Vf rfl h12 ?_
      refine am_Vn 3 _ _ _ _ rfl ?_
      refine am_Vt rfl h17 ?_
      refine am_Vn 1 _ _ [.int (0)] _ rfl ?_
      refine am_Vr1 rfl ?_
      refine am_Vn 2 _ _ [.int (0)] _ rfl ?_
      refine am_Vr1 rfl ?_
      refine am_Vn 2 _ _ [.long (-1)] _ rfl ?_
      refine am_Vr1 rfl ?_
      refine am_Vn 2 _ _ _ _ rfl ?_
      exact am_fin _ _ (Nat.le_of_ble_eq_true rfl) (Nat.le_of_ble_eq_true rfl)
    · skip
      obtain ⟨h19, h20, h21, h22⟩ := am_le' (C := 40) (by decide) h14
      by_cases h23 : xs 2 < (-12)
      · skip
        obtain ⟨h24, h25, h26, h27, h28, h29, h30, h31⟩ := am_lt (C := (-12)) (by decide) h23
        refine am_Vn 11 _ _ [.int (xs 2), .int (xs 1), .ref 0] _ rfl ?_
        refine am_Vc (As := [.ref 0, .int (xs 1), .int (xs 2)]) (rest := []) rfl ?_
        refine am_Vn 2 _ _ [.int (-40), .int (xs 1)] _ rfl ?_
        refine am_Vf rfl h10 ?_
        refine am_Vn 2 _ _ [.int (40), .int (xs 1)] _ rfl ?_
        refine am_Vf rfl h19 ?_
        refine am_Vn 2 _ _ [.int (-12), .int (xs 2)] _ rfl ?_
        refine am_Vt rfl h24 ?_
        refine am_Vn 1 _ _ [.long (-1)] _ rfl ?_
        refine am_Vr1 rfl ?_
        refine am_Vn 11 _ _ [.int (xs 2), .int (xs 1), .ref 122, .long (-1)] _ rfl ?_
        refine am_Vc (As := [.ref 122, .int (xs 1), .int (xs 2)]) (rest := [.long (-1)]) rfl ?_
        refine am_Vn 2 _ _ [.int (xs 2), .int (xs 1)] _ rfl ?_
        refine am_Vc (As := [.int (xs 1), .int (xs 2)]) (rest := []) rfl ?_
        refine am_Vn 4 _ _ [.long (40), .long (-40), .long (xs 1).toInt64] _ rfl ?_
        refine am_Vc (As := [.long (xs 1).toInt64, .long (-40), .long (40)]) (rest := []) rfl ?_
        refine am_Vn 3 _ _ _ _ rfl ?_
        refine am_Vf rfl h12 ?_
        refine am_Vn 3 _ _ _ _ rfl ?_
        refine am_Vf rfl h21 ?_
        refine am_Vn 2 _ _ [.int (1)] _ rfl ?_
        refine am_Vr1 rfl ?_
        refine am_Vn 5 _ _ [.long (12), .long (-12), .long (xs 2).toInt64] _ rfl ?_
        refine am_Vc (As := [.long (xs 2).toInt64, .long (-12), .long (12)]) (rest := []) rfl ?_
        refine am_Vn 3 _ _ _ _ rfl ?_
        refine am_Vt rfl h28 ?_
        refine am_Vn 1 _ _ [.int (0)] _ rfl ?_
        refine am_Vr1 rfl ?_
        refine am_Vn 2 _ _ [.int (0)] _ rfl ?_
        refine am_Vr1 rfl ?_
        refine am_Vn 2 _ _ [.long (-1)] _ rfl ?_
        refine am_Vr1 rfl ?_
        refine am_Vn 2 _ _ _ _ rfl ?_
        exact am_fin _ _ (Nat.le_of_ble_eq_true rfl) (Nat.le_of_ble_eq_true rfl)
      · skip
        obtain ⟨h32, h33, h34, h35⟩ := am_ge (C := (-12)) (by decide) h23
        by_cases h36 : 12 < xs 2
        · skip
          obtain ⟨h37, h38, h39, h40⟩ := am_gt (C := 12) (by decide) h36
          refine am_Vn 11 _ _ [.int (xs 2), .int (xs 1), .ref 0] _ rfl ?_
          refine am_Vc (As := [.ref 0, .int (xs 1), .int (xs 2)]) (rest := []) rfl ?_
          refine am_Vn 2 _ _ [.int (-40), .int (xs 1)] _ rfl ?_
          refine am_Vf rfl h10 ?_
          refine am_Vn 2 _ _ [.int (40), .int (xs 1)] _ rfl ?_
          refine am_Vf rfl h19 ?_
          refine am_Vn 2 _ _ [.int (-12), .int (xs 2)] _ rfl ?_
          refine am_Vf rfl h32 ?_
          refine am_Vn 2 _ _ [.int (12), .int (xs 2)] _ rfl ?_
          refine am_Vf rfl h38 ?_
          refine am_Vn 1 _ _ [.long (-1)] _ rfl ?_
          refine am_Vr1 rfl ?_
          refine am_Vn 11 _ _ [.int (xs 2), .int (xs 1), .ref 122, .long (-1)] _ rfl ?_
          refine am_Vc (As := [.ref 122, .int (xs 1), .int (xs 2)]) (rest := [.long (-1)]) rfl ?_
          refine am_Vn 2 _ _ [.int (xs 2), .int (xs 1)] _ rfl ?_
          refine am_Vc (As := [.int (xs 1), .int (xs 2)]) (rest := []) rfl ?_
          refine am_Vn 4 _ _ [.long (40), .long (-40), .long (xs 1).toInt64] _ rfl ?_
          refine am_Vc (As := [.long (xs 1).toInt64, .long (-40), .long (40)]) (rest := []) rfl ?_
          refine am_Vn 3 _ _ _ _ rfl ?_
          refine am_Vf rfl h12 ?_
          refine am_Vn 3 _ _ _ _ rfl ?_
          refine am_Vf rfl h21 ?_
          refine am_Vn 2 _ _ [.int (1)] _ rfl ?_
          refine am_Vr1 rfl ?_
          refine am_Vn 5 _ _ [.long (12), .long (-12), .long (xs 2).toInt64] _ rfl ?_
          refine am_Vc (As := [.long (xs 2).toInt64, .long (-12), .long (12)]) (rest := []) rfl ?_
          refine am_Vn 3 _ _ _ _ rfl ?_
          refine am_Vf rfl h34 ?_
          refine am_Vn 3 _ _ _ _ rfl ?_
          refine am_Vt rfl h39 ?_
          refine am_Vn 1 _ _ [.int (0)] _ rfl ?_
          refine am_Vr1 rfl ?_
          refine am_Vn 2 _ _ [.int (0)] _ rfl ?_
          refine am_Vr1 rfl ?_
          refine am_Vn 2 _ _ [.long (-1)] _ rfl ?_
          refine am_Vr1 rfl ?_
          refine am_Vn 2 _ _ _ _ rfl ?_
          exact am_fin _ _ (Nat.le_of_ble_eq_true rfl) (Nat.le_of_ble_eq_true rfl)
        · skip
          obtain ⟨h41, h42, h43, h44⟩ := am_le' (C := 12) (by decide) h36
          refine am_Vn 11 _ _ [.int (xs 2), .int (xs 1), .ref 0] _ rfl ?_
          refine am_Vc (As := [.ref 0, .int (xs 1), .int (xs 2)]) (rest := []) rfl ?_
          refine am_Vn 2 _ _ [.int (-40), .int (xs 1)] _ rfl ?_
          refine am_Vf rfl h10 ?_
          refine am_Vn 2 _ _ [.int (40), .int (xs 1)] _ rfl ?_
          refine am_Vf rfl h19 ?_
          refine am_Vn 2 _ _ [.int (-12), .int (xs 2)] _ rfl ?_
          refine am_Vf rfl h32 ?_
          refine am_Vn 2 _ _ [.int (12), .int (xs 2)] _ rfl ?_
          refine am_Vt rfl h42 ?_
          refine am_Vn 6 _ _ [.long (-2)] _ rfl ?_
          refine am_Vr1 rfl ?_
          refine am_Vn 11 _ _ [.int (xs 2), .int (xs 1), .ref 122, .long (-2)] _ rfl ?_
          refine am_Vc (As := [.ref 122, .int (xs 1), .int (xs 2)]) (rest := [.long (-2)]) rfl ?_
          refine am_Vn 2 _ _ [.int (xs 2), .int (xs 1)] _ rfl ?_
          refine am_Vc (As := [.int (xs 1), .int (xs 2)]) (rest := []) rfl ?_
          refine am_Vn 4 _ _ [.long (40), .long (-40), .long (xs 1).toInt64] _ rfl ?_
          refine am_Vc (As := [.long (xs 1).toInt64, .long (-40), .long (40)]) (rest := []) rfl ?_
          refine am_Vn 3 _ _ _ _ rfl ?_
          refine am_Vf rfl h12 ?_
          refine am_Vn 3 _ _ _ _ rfl ?_
          refine am_Vf rfl h21 ?_
          refine am_Vn 2 _ _ [.int (1)] _ rfl ?_
          refine am_Vr1 rfl ?_
          refine am_Vn 5 _ _ [.long (12), .long (-12), .long (xs 2).toInt64] _ rfl ?_
          refine am_Vc (As := [.long (xs 2).toInt64, .long (-12), .long (12)]) (rest := []) rfl ?_
          refine am_Vn 3 _ _ _ _ rfl ?_
          refine am_Vf rfl h34 ?_
          refine am_Vn 3 _ _ _ _ rfl ?_
          refine am_Vf rfl h43 ?_
          refine am_Vn 2 _ _ [.int (1)] _ rfl ?_
          refine am_Vr1 rfl ?_
          refine am_Vn 3 _ _ [.int (1)] _ rfl ?_
          refine am_Vr1 rfl ?_
          refine am_Vn 5 _ _ [.long (-2)] _ rfl ?_
          refine am_Vr1 rfl ?_
          refine am_Vn 2 _ _ _ _ rfl ?_
          exact am_fin _ _ (Nat.le_of_ble_eq_true rfl) (Nat.le_of_ble_eq_true rfl)
set_option maxRecDepth 100000 in
set_option maxHeartbeats 8000000 in
theorem am_op_27 (xs : Nat → Int32) : am_V (some (6, xs)) 20 262 1036 am_L3 [] am_S1 am_Qf := by
  by_cases h1 : xs 1 < 0
  · skip
    obtain ⟨h2, h3, h4, h5, h6, h7, h8, h9⟩ := am_lt (C := 0) (by decide) h1
    refine am_Vn 11 _ _ [.int (xs 2), .int (xs 1), .ref 0] _ rfl ?_
    refine am_Vc (As := [.ref 0, .int (xs 1), .int (xs 2)]) (rest := []) rfl ?_
    refine am_Vn 1 _ _ [.int (xs 1)] _ rfl ?_
    refine am_Vt rfl h2 ?_
    refine am_Vn 1 _ _ [.long (-1)] _ rfl ?_
    refine am_Vr1 rfl ?_
    refine am_Vn 11 _ _ [.int (xs 2), .int (xs 1), .ref 122, .long (-1)] _ rfl ?_
    refine am_Vc (As := [.ref 122, .int (xs 1), .int (xs 2)]) (rest := [.long (-1)]) rfl ?_
    refine am_Vn 4 _ _ [.long (40), .long (0), .long (xs 1).toInt64] _ rfl ?_
    refine am_Vc (As := [.long (xs 1).toInt64, .long (0), .long (40)]) (rest := []) rfl ?_
    refine am_Vn 3 _ _ _ _ rfl ?_
    refine am_Vt rfl h6 ?_
    refine am_Vn 1 _ _ [.int (0)] _ rfl ?_
    refine am_Vr1 rfl ?_
    refine am_Vn 2 _ _ [.long (-1)] _ rfl ?_
    refine am_Vr1 rfl ?_
    refine am_Vn 2 _ _ _ _ rfl ?_
    exact am_fin _ _ (Nat.le_of_ble_eq_true rfl) (Nat.le_of_ble_eq_true rfl)
  · skip
    obtain ⟨h10, h11, h12, h13⟩ := am_ge (C := 0) (by decide) h1
    by_cases h14 : 40 < xs 1
    · skip
      obtain ⟨h15, h16, h17, h18⟩ := am_gt (C := 40) (by decide) h14
      refine am_Vn 11 _ _ [.int (xs 2), .int (xs 1), .ref 0] _ rfl ?_
      refine am_Vc (As := [.ref 0, .int (xs 1), .int (xs 2)]) (rest := []) rfl ?_
      refine am_Vn 1 _ _ [.int (xs 1)] _ rfl ?_
      refine am_Vf rfl h10 ?_
      refine am_Vn 2 _ _ [.int (40), .int (xs 1)] _ rfl ?_
      refine am_Vt rfl h15 ?_
      refine am_Vn 1 _ _ [.long (-1)] _ rfl ?_
      refine am_Vr1 rfl ?_
      refine am_Vn 11 _ _ [.int (xs 2), .int (xs 1), .ref 122, .long (-1)] _ rfl ?_
      refine am_Vc (As := [.ref 122, .int (xs 1), .int (xs 2)]) (rest := [.long (-1)]) rfl ?_
      refine am_Vn 4 _ _ [.long (40), .long (0), .long (xs 1).toInt64] _ rfl ?_
      refine am_Vc (As := [.long (xs 1).toInt64, .long (0), .long (40)]) (rest := []) rfl ?_
      refine am_Vn 3 _ _ _ _ rfl ?_
      refine am_Vf rfl h12 ?_
      refine am_Vn 3 _ _ _ _ rfl ?_
      refine am_Vt rfl h17 ?_
      refine am_Vn 1 _ _ [.int (0)] _ rfl ?_
      refine am_Vr1 rfl ?_
      refine am_Vn 2 _ _ [.long (-1)] _ rfl ?_
      refine am_Vr1 rfl ?_
      refine am_Vn 2 _ _ _ _ rfl ?_
      exact am_fin _ _ (Nat.le_of_ble_eq_true rfl) (Nat.le_of_ble_eq_true rfl)
    · skip
      obtain ⟨h19, h20, h21, h22⟩ := am_le' (C := 40) (by decide) h14
      by_cases h23 : xs 2 < 0
      · skip
        obtain ⟨h24, h25, h26, h27, h28, h29, h30, h31⟩ := am_lt (C := 0) (by decide) h23
        refine am_Vn 11 _ _ [.int (xs 2), .int (xs 1), .ref 0] _ rfl ?_
        refine am_Vc (As := [.ref 0, .int (xs 1), .int (xs 2)]) (rest := []) rfl ?_
        refine am_Vn 1 _ _ [.int (xs 1)] _ rfl ?_
        refine am_Vf rfl h10 ?_
        refine am_Vn 2 _ _ [.int (40), .int (xs 1)] _ rfl ?_
        refine am_Vf rfl h19 ?_
        refine am_Vn 1 _ _ [.int (xs 2)] _ rfl ?_
        refine am_Vt rfl h24 ?_
        refine am_Vn 1 _ _ [.long (-1)] _ rfl ?_
        refine am_Vr1 rfl ?_
        refine am_Vn 11 _ _ [.int (xs 2), .int (xs 1), .ref 122, .long (-1)] _ rfl ?_
        refine am_Vc (As := [.ref 122, .int (xs 1), .int (xs 2)]) (rest := [.long (-1)]) rfl ?_
        refine am_Vn 4 _ _ [.long (40), .long (0), .long (xs 1).toInt64] _ rfl ?_
        refine am_Vc (As := [.long (xs 1).toInt64, .long (0), .long (40)]) (rest := []) rfl ?_
        refine am_Vn 3 _ _ _ _ rfl ?_
        refine am_Vf rfl h12 ?_
        refine am_Vn 3 _ _ _ _ rfl ?_
        refine am_Vf rfl h21 ?_
        refine am_Vn 2 _ _ [.int (1)] _ rfl ?_
        refine am_Vr1 rfl ?_
        refine am_Vn 5 _ _ [.long (12), .long (0), .long (xs 2).toInt64] _ rfl ?_
        refine am_Vc (As := [.long (xs 2).toInt64, .long (0), .long (12)]) (rest := []) rfl ?_
        refine am_Vn 3 _ _ _ _ rfl ?_
        refine am_Vt rfl h28 ?_
        refine am_Vn 1 _ _ [.int (0)] _ rfl ?_
        refine am_Vr1 rfl ?_
        refine am_Vn 2 _ _ [.long (-1)] _ rfl ?_
        refine am_Vr1 rfl ?_
        refine am_Vn 2 _ _ _ _ rfl ?_
        exact am_fin _ _ (Nat.le_of_ble_eq_true rfl) (Nat.le_of_ble_eq_true rfl)
      · skip
        obtain ⟨h32, h33, h34, h35⟩ := am_ge (C := 0) (by decide) h23
        by_cases h36 : 12 < xs 2
        · skip
          obtain ⟨h37, h38, h39, h40⟩ := am_gt (C := 12) (by decide) h36
          refine am_Vn 11 _ _ [.int (xs 2), .int (xs 1), .ref 0] _ rfl ?_
          refine am_Vc (As := [.ref 0, .int (xs 1), .int (xs 2)]) (rest := []) rfl ?_
          refine am_Vn 1 _ _ [.int (xs 1)] _ rfl ?_
          refine am_Vf rfl h10 ?_
          refine am_Vn 2 _ _ [.int (40), .int (xs 1)] _ rfl ?_
          refine am_Vf rfl h19 ?_
          refine am_Vn 1 _ _ [.int (xs 2)] _ rfl ?_
          refine am_Vf rfl h32 ?_
          refine am_Vn 2 _ _ [.int (12), .int (xs 2)] _ rfl ?_
          refine am_Vf rfl h38 ?_
          refine am_Vn 1 _ _ [.long (-1)] _ rfl ?_
          refine am_Vr1 rfl ?_
          refine am_Vn 11 _ _ [.int (xs 2), .int (xs 1), .ref 122, .long (-1)] _ rfl ?_
          refine am_Vc (As := [.ref 122, .int (xs 1), .int (xs 2)]) (rest := [.long (-1)]) rfl ?_
          refine am_Vn 4 _ _ [.long (40), .long (0), .long (xs 1).toInt64] _ rfl ?_
          refine am_Vc (As := [.long (xs 1).toInt64, .long (0), .long (40)]) (rest := []) rfl ?_
          refine am_Vn 3 _ _ _ _ rfl ?_
          refine am_Vf rfl h12 ?_
          refine am_Vn 3 _ _ _ _ rfl ?_
          refine am_Vf rfl h21 ?_
          refine am_Vn 2 _ _ [.int (1)] _ rfl ?_
          refine am_Vr1 rfl ?_
          refine am_Vn 5 _ _ [.long (12), .long (0), .long (xs 2).toInt64] _ rfl ?_
          refine am_Vc (As := [.long (xs 2).toInt64, .long (0), .long (12)]) (rest := []) rfl ?_
          refine am_Vn 3 _ _ _ _ rfl ?_
          refine am_Vf rfl h34 ?_
          refine am_Vn 3 _ _ _ _ rfl ?_
          refine am_Vt rfl h39 ?_
          refine am_Vn 1 _ _ [.int (0)] _ rfl ?_
          refine am_Vr1 rfl ?_
          refine am_Vn 2 _ _ [.long (-1)] _ rfl ?_
          refine am_Vr1 rfl ?_
          refine am_Vn 2 _ _ _ _ rfl ?_
          exact am_fin _ _ (Nat.le_of_ble_eq_true rfl) (Nat.le_of_ble_eq_true rfl)
        · skip
          obtain ⟨h41, h42, h43, h44⟩ := am_le' (C := 12) (by decide) h36
          refine am_Vn 11 _ _ [.int (xs 2), .int (xs 1), .ref 0] _ rfl ?_
          refine am_Vc (As := [.ref 0, .int (xs 1), .int (xs 2)]) (rest := []) rfl ?_
          refine am_Vn 1 _ _ [.int (xs 1)] _ rfl ?_
          refine am_Vf rfl h10 ?_
          refine am_Vn 2 _ _ [.int (40), .int (xs 1)] _ rfl ?_
          refine am_Vf rfl h19 ?_
          refine am_Vn 1 _ _ [.int (xs 2)] _ rfl ?_
          refine am_Vf rfl h32 ?_
          refine am_Vn 2 _ _ [.int (12), .int (xs 2)] _ rfl ?_
          refine am_Vt rfl h42 ?_
          refine am_Vn 6 _ _ [.long (-2)] _ rfl ?_
          refine am_Vr1 rfl ?_
          refine am_Vn 11 _ _ [.int (xs 2), .int (xs 1), .ref 122, .long (-2)] _ rfl ?_
          refine am_Vc (As := [.ref 122, .int (xs 1), .int (xs 2)]) (rest := [.long (-2)]) rfl ?_
          refine am_Vn 4 _ _ [.long (40), .long (0), .long (xs 1).toInt64] _ rfl ?_
          refine am_Vc (As := [.long (xs 1).toInt64, .long (0), .long (40)]) (rest := []) rfl ?_
          refine am_Vn 3 _ _ _ _ rfl ?_
          refine am_Vf rfl h12 ?_
          refine am_Vn 3 _ _ _ _ rfl ?_
          refine am_Vf rfl h21 ?_
          refine am_Vn 2 _ _ [.int (1)] _ rfl ?_
          refine am_Vr1 rfl ?_
          refine am_Vn 5 _ _ [.long (12), .long (0), .long (xs 2).toInt64] _ rfl ?_
          refine am_Vc (As := [.long (xs 2).toInt64, .long (0), .long (12)]) (rest := []) rfl ?_
          refine am_Vn 3 _ _ _ _ rfl ?_
          refine am_Vf rfl h34 ?_
          refine am_Vn 3 _ _ _ _ rfl ?_
          refine am_Vf rfl h43 ?_
          refine am_Vn 2 _ _ [.int (1)] _ rfl ?_
          refine am_Vr1 rfl ?_
          refine am_Vn 5 _ _ [.long (-2)] _ rfl ?_
          refine am_Vr1 rfl ?_
          refine am_Vn 2 _ _ _ _ rfl ?_
          exact am_fin _ _ (Nat.le_of_ble_eq_true rfl) (Nat.le_of_ble_eq_true rfl)
set_option maxRecDepth 100000 in
set_option maxHeartbeats 8000000 in
theorem am_op_28 (xs : Nat → Int32) : am_V (some (6, xs)) 20 262 1070 am_L3 [] am_S1 am_Qf := by
  by_cases h1 : xs 1 < 0
  · skip
    obtain ⟨h2, h3, h4, h5, h6, h7, h8, h9⟩ := am_lt (C := 0) (by decide) h1
    refine am_Vn 6 _ _ [.int (xs 1), .ref 0] _ rfl ?_
    refine am_Vc (As := [.ref 0, .int (xs 1)]) (rest := []) rfl ?_
    refine am_Vn 1 _ _ [.int (xs 1)] _ rfl ?_
    refine am_Vt rfl h2 ?_
    refine am_Vn 1 _ _ [.long (-1)] _ rfl ?_
    refine am_Vr1 rfl ?_
    refine am_Vn 6 _ _ [.int (xs 1), .ref 122, .long (-1)] _ rfl ?_
    refine am_Vc (As := [.ref 122, .int (xs 1)]) (rest := [.long (-1)]) rfl ?_
    refine am_Vn 4 _ _ [.long (99), .long (0), .long (xs 1).toInt64] _ rfl ?_
    refine am_Vc (As := [.long (xs 1).toInt64, .long (0), .long (99)]) (rest := []) rfl ?_
    refine am_Vn 3 _ _ _ _ rfl ?_
    refine am_Vt rfl h6 ?_
    refine am_Vn 1 _ _ [.int (0)] _ rfl ?_
    refine am_Vr1 rfl ?_
    refine am_Vn 2 _ _ [.long (-1)] _ rfl ?_
    refine am_Vr1 rfl ?_
    refine am_Vn 2 _ _ _ _ rfl ?_
    exact am_fin _ _ (Nat.le_of_ble_eq_true rfl) (Nat.le_of_ble_eq_true rfl)
  · skip
    obtain ⟨h10, h11, h12, h13⟩ := am_ge (C := 0) (by decide) h1
    by_cases h14 : 99 < xs 1
    · skip
      obtain ⟨h15, h16, h17, h18⟩ := am_gt (C := 99) (by decide) h14
      refine am_Vn 6 _ _ [.int (xs 1), .ref 0] _ rfl ?_
      refine am_Vc (As := [.ref 0, .int (xs 1)]) (rest := []) rfl ?_
      refine am_Vn 1 _ _ [.int (xs 1)] _ rfl ?_
      refine am_Vf rfl h10 ?_
      refine am_Vn 2 _ _ [.int (99), .int (xs 1)] _ rfl ?_
      refine am_Vf rfl h16 ?_
      refine am_Vn 1 _ _ [.long (-1)] _ rfl ?_
      refine am_Vr1 rfl ?_
      refine am_Vn 6 _ _ [.int (xs 1), .ref 122, .long (-1)] _ rfl ?_
      refine am_Vc (As := [.ref 122, .int (xs 1)]) (rest := [.long (-1)]) rfl ?_
      refine am_Vn 4 _ _ [.long (99), .long (0), .long (xs 1).toInt64] _ rfl ?_
      refine am_Vc (As := [.long (xs 1).toInt64, .long (0), .long (99)]) (rest := []) rfl ?_
      refine am_Vn 3 _ _ _ _ rfl ?_
      refine am_Vf rfl h12 ?_
      refine am_Vn 3 _ _ _ _ rfl ?_
      refine am_Vt rfl h17 ?_
      refine am_Vn 1 _ _ [.int (0)] _ rfl ?_
      refine am_Vr1 rfl ?_
      refine am_Vn 2 _ _ [.long (-1)] _ rfl ?_
      refine am_Vr1 rfl ?_
      refine am_Vn 2 _ _ _ _ rfl ?_
      exact am_fin _ _ (Nat.le_of_ble_eq_true rfl) (Nat.le_of_ble_eq_true rfl)
    · skip
      obtain ⟨h19, h20, h21, h22⟩ := am_le' (C := 99) (by decide) h14
      refine am_Vn 6 _ _ [.int (xs 1), .ref 0] _ rfl ?_
      refine am_Vc (As := [.ref 0, .int (xs 1)]) (rest := []) rfl ?_
      refine am_Vn 1 _ _ [.int (xs 1)] _ rfl ?_
      refine am_Vf rfl h10 ?_
      refine am_Vn 2 _ _ [.int (99), .int (xs 1)] _ rfl ?_
      refine am_Vt rfl h20 ?_
      refine am_Vn 6 _ _ [.long (-2)] _ rfl ?_
      refine am_Vr1 rfl ?_
      refine am_Vn 6 _ _ [.int (xs 1), .ref 122, .long (-2)] _ rfl ?_
      refine am_Vc (As := [.ref 122, .int (xs 1)]) (rest := [.long (-2)]) rfl ?_
      refine am_Vn 4 _ _ [.long (99), .long (0), .long (xs 1).toInt64] _ rfl ?_
      refine am_Vc (As := [.long (xs 1).toInt64, .long (0), .long (99)]) (rest := []) rfl ?_
      refine am_Vn 3 _ _ _ _ rfl ?_
      refine am_Vf rfl h12 ?_
      refine am_Vn 3 _ _ _ _ rfl ?_
      refine am_Vf rfl h21 ?_
      refine am_Vn 2 _ _ [.int (1)] _ rfl ?_
      refine am_Vr1 rfl ?_
      refine am_Vn 5 _ _ [.long (-2)] _ rfl ?_
      refine am_Vr1 rfl ?_
      refine am_Vn 2 _ _ _ _ rfl ?_
      exact am_fin _ _ (Nat.le_of_ble_eq_true rfl) (Nat.le_of_ble_eq_true rfl)
set_option maxRecDepth 100000 in
set_option maxHeartbeats 8000000 in
theorem am_op_29 (xs : Nat → Int32) : am_V (some (6, xs)) 20 262 1094 am_L3 [] am_S1 am_Qf := by
  by_cases h1 : xs 1 < 0
  · skip
    obtain ⟨h2, h3, h4, h5, h6, h7, h8, h9⟩ := am_lt (C := 0) (by decide) h1
    refine am_Vn 11 _ _ [.int (xs 2), .int (xs 1), .ref 0] _ rfl ?_
    refine am_Vc (As := [.ref 0, .int (xs 1), .int (xs 2)]) (rest := []) rfl ?_
    refine am_Vn 1 _ _ [.int (xs 1)] _ rfl ?_
    refine am_Vt rfl h2 ?_
    refine am_Vn 1 _ _ [.long (-1)] _ rfl ?_
    refine am_Vr1 rfl ?_
    refine am_Vn 11 _ _ [.int (xs 2), .int (xs 1), .ref 122, .long (-1)] _ rfl ?_
    refine am_Vc (As := [.ref 122, .int (xs 1), .int (xs 2)]) (rest := [.long (-1)]) rfl ?_
    refine am_Vn 1 _ _ [.int (xs 1)] _ rfl ?_
    refine am_Vt rfl h2 ?_
    refine am_Vn 1 _ _ [.long (-1)] _ rfl ?_
    refine am_Vr1 rfl ?_
    refine am_Vn 2 _ _ _ _ rfl ?_
    exact am_fin _ _ (Nat.le_of_ble_eq_true rfl) (Nat.le_of_ble_eq_true rfl)
  · skip
    obtain ⟨h10, h11, h12, h13⟩ := am_ge (C := 0) (by decide) h1
    by_cases h14 : xs 2 < 0
    · skip
      obtain ⟨h15, h16, h17, h18, h19, h20, h21, h22⟩ := am_lt (C := 0) (by decide) h14
      refine am_Vn 11 _ _ [.int (xs 2), .int (xs 1), .ref 0] _ rfl ?_
      refine am_Vc (As := [.ref 0, .int (xs 1), .int (xs 2)]) (rest := []) rfl ?_
      refine am_Vn 1 _ _ [.int (xs 1)] _ rfl ?_
      refine am_Vf rfl h10 ?_
      refine am_Vn 1 _ _ [.int (xs 2)] _ rfl ?_
      refine am_Vt rfl h15 ?_
      refine am_Vn 1 _ _ [.long (-1)] _ rfl ?_
      refine am_Vr1 rfl ?_
      refine am_Vn 11 _ _ [.int (xs 2), .int (xs 1), .ref 122, .long (-1)] _ rfl ?_
      refine am_Vc (As := [.ref 122, .int (xs 1), .int (xs 2)]) (rest := [.long (-1)]) rfl ?_
      refine am_Vn 1 _ _ [.int (xs 1)] _ rfl ?_
      refine am_Vf rfl h10 ?_
      refine am_Vn 4 _ _ [.long (2), .long (0), .long (xs 2).toInt64] _ rfl ?_
      refine am_Vc (As := [.long (xs 2).toInt64, .long (0), .long (2)]) (rest := []) rfl ?_
      refine am_Vn 3 _ _ _ _ rfl ?_
      refine am_Vt rfl h19 ?_
      refine am_Vn 1 _ _ [.int (0)] _ rfl ?_
      refine am_Vr1 rfl ?_
      refine am_Vn 2 _ _ [.long (-1)] _ rfl ?_
      refine am_Vr1 rfl ?_
      refine am_Vn 2 _ _ _ _ rfl ?_
      exact am_fin _ _ (Nat.le_of_ble_eq_true rfl) (Nat.le_of_ble_eq_true rfl)
    · skip
      obtain ⟨h23, h24, h25, h26⟩ := am_ge (C := 0) (by decide) h14
      by_cases h27 : 2 < xs 2
      · skip
        obtain ⟨h28, h29, h30, h31⟩ := am_gt (C := 2) (by decide) h27
        refine am_Vn 11 _ _ [.int (xs 2), .int (xs 1), .ref 0] _ rfl ?_
        refine am_Vc (As := [.ref 0, .int (xs 1), .int (xs 2)]) (rest := []) rfl ?_
        refine am_Vn 1 _ _ [.int (xs 1)] _ rfl ?_
        refine am_Vf rfl h10 ?_
        refine am_Vn 1 _ _ [.int (xs 2)] _ rfl ?_
        refine am_Vf rfl h23 ?_
        refine am_Vn 2 _ _ [.int (2), .int (xs 2)] _ rfl ?_
        refine am_Vf rfl h29 ?_
        refine am_Vn 1 _ _ [.long (-1)] _ rfl ?_
        refine am_Vr1 rfl ?_
        refine am_Vn 11 _ _ [.int (xs 2), .int (xs 1), .ref 122, .long (-1)] _ rfl ?_
        refine am_Vc (As := [.ref 122, .int (xs 1), .int (xs 2)]) (rest := [.long (-1)]) rfl ?_
        refine am_Vn 1 _ _ [.int (xs 1)] _ rfl ?_
        refine am_Vf rfl h10 ?_
        refine am_Vn 4 _ _ [.long (2), .long (0), .long (xs 2).toInt64] _ rfl ?_
        refine am_Vc (As := [.long (xs 2).toInt64, .long (0), .long (2)]) (rest := []) rfl ?_
        refine am_Vn 3 _ _ _ _ rfl ?_
        refine am_Vf rfl h25 ?_
        refine am_Vn 3 _ _ _ _ rfl ?_
        refine am_Vt rfl h30 ?_
        refine am_Vn 1 _ _ [.int (0)] _ rfl ?_
        refine am_Vr1 rfl ?_
        refine am_Vn 2 _ _ [.long (-1)] _ rfl ?_
        refine am_Vr1 rfl ?_
        refine am_Vn 2 _ _ _ _ rfl ?_
        exact am_fin _ _ (Nat.le_of_ble_eq_true rfl) (Nat.le_of_ble_eq_true rfl)
      · skip
        obtain ⟨h32, h33, h34, h35⟩ := am_le' (C := 2) (by decide) h27
        refine am_Vn 11 _ _ [.int (xs 2), .int (xs 1), .ref 0] _ rfl ?_
        refine am_Vc (As := [.ref 0, .int (xs 1), .int (xs 2)]) (rest := []) rfl ?_
        refine am_Vn 1 _ _ [.int (xs 1)] _ rfl ?_
        refine am_Vf rfl h10 ?_
        refine am_Vn 1 _ _ [.int (xs 2)] _ rfl ?_
        refine am_Vf rfl h23 ?_
        refine am_Vn 2 _ _ [.int (2), .int (xs 2)] _ rfl ?_
        refine am_Vt rfl h33 ?_
        refine am_Vn 5 _ _ [.long (-2)] _ rfl ?_
        refine am_Vr1 rfl ?_
        refine am_Vn 11 _ _ [.int (xs 2), .int (xs 1), .ref 122, .long (-2)] _ rfl ?_
        refine am_Vc (As := [.ref 122, .int (xs 1), .int (xs 2)]) (rest := [.long (-2)]) rfl ?_
        refine am_Vn 1 _ _ [.int (xs 1)] _ rfl ?_
        refine am_Vf rfl h10 ?_
        refine am_Vn 4 _ _ [.long (2), .long (0), .long (xs 2).toInt64] _ rfl ?_
        refine am_Vc (As := [.long (xs 2).toInt64, .long (0), .long (2)]) (rest := []) rfl ?_
        refine am_Vn 3 _ _ _ _ rfl ?_
        refine am_Vf rfl h25 ?_
        refine am_Vn 3 _ _ _ _ rfl ?_
        refine am_Vf rfl h34 ?_
        refine am_Vn 2 _ _ [.int (1)] _ rfl ?_
        refine am_Vr1 rfl ?_
        refine am_Vn 5 _ _ [.long (-2)] _ rfl ?_
        refine am_Vr1 rfl ?_
        refine am_Vn 2 _ _ _ _ rfl ?_
        exact am_fin _ _ (Nat.le_of_ble_eq_true rfl) (Nat.le_of_ble_eq_true rfl)
set_option maxRecDepth 100000 in
set_option maxHeartbeats 8000000 in
theorem am_op_30 (xs : Nat → Int32) : am_V (some (6, xs)) 20 262 1128 am_L3 [] am_S1 am_Qf := by
  by_cases h1 : xs 1 < 0
  · skip
    obtain ⟨h2, h3, h4, h5, h6, h7, h8, h9⟩ := am_lt (C := 0) (by decide) h1
    refine am_Vn 6 _ _ [.int (xs 1), .ref 0] _ rfl ?_
    refine am_Vc (As := [.ref 0, .int (xs 1)]) (rest := []) rfl ?_
    refine am_Vn 1 _ _ [.int (xs 1)] _ rfl ?_
    refine am_Vt rfl h2 ?_
    refine am_Vn 1 _ _ [.long (-1)] _ rfl ?_
    refine am_Vr1 rfl ?_
    refine am_Vn 6 _ _ [.int (xs 1), .ref 122, .long (-1)] _ rfl ?_
    refine am_Vc (As := [.ref 122, .int (xs 1)]) (rest := [.long (-1)]) rfl ?_
    refine am_Vn 4 _ _ [.long (1), .long (0), .long (xs 1).toInt64] _ rfl ?_
    refine am_Vc (As := [.long (xs 1).toInt64, .long (0), .long (1)]) (rest := []) rfl ?_
    refine am_Vn 3 _ _ _ _ rfl ?_
    refine am_Vt rfl h6 ?_
    refine am_Vn 1 _ _ [.int (0)] _ rfl ?_
    refine am_Vr1 rfl ?_
    refine am_Vn 2 _ _ [.long (-1)] _ rfl ?_
    refine am_Vr1 rfl ?_
    refine am_Vn 2 _ _ _ _ rfl ?_
    exact am_fin _ _ (Nat.le_of_ble_eq_true rfl) (Nat.le_of_ble_eq_true rfl)
  · skip
    obtain ⟨h10, h11, h12, h13⟩ := am_ge (C := 0) (by decide) h1
    by_cases h14 : 1 < xs 1
    · skip
      obtain ⟨h15, h16, h17, h18⟩ := am_gt (C := 1) (by decide) h14
      refine am_Vn 6 _ _ [.int (xs 1), .ref 0] _ rfl ?_
      refine am_Vc (As := [.ref 0, .int (xs 1)]) (rest := []) rfl ?_
      refine am_Vn 1 _ _ [.int (xs 1)] _ rfl ?_
      refine am_Vf rfl h10 ?_
      refine am_Vn 2 _ _ [.int (1), .int (xs 1)] _ rfl ?_
      refine am_Vf rfl h16 ?_
      refine am_Vn 1 _ _ [.long (-1)] _ rfl ?_
      refine am_Vr1 rfl ?_
      refine am_Vn 6 _ _ [.int (xs 1), .ref 122, .long (-1)] _ rfl ?_
      refine am_Vc (As := [.ref 122, .int (xs 1)]) (rest := [.long (-1)]) rfl ?_
      refine am_Vn 4 _ _ [.long (1), .long (0), .long (xs 1).toInt64] _ rfl ?_
      refine am_Vc (As := [.long (xs 1).toInt64, .long (0), .long (1)]) (rest := []) rfl ?_
      refine am_Vn 3 _ _ _ _ rfl ?_
      refine am_Vf rfl h12 ?_
      refine am_Vn 3 _ _ _ _ rfl ?_
      refine am_Vt rfl h17 ?_
      refine am_Vn 1 _ _ [.int (0)] _ rfl ?_
      refine am_Vr1 rfl ?_
      refine am_Vn 2 _ _ [.long (-1)] _ rfl ?_
      refine am_Vr1 rfl ?_
      refine am_Vn 2 _ _ _ _ rfl ?_
      exact am_fin _ _ (Nat.le_of_ble_eq_true rfl) (Nat.le_of_ble_eq_true rfl)
    · skip
      obtain ⟨h19, h20, h21, h22⟩ := am_le' (C := 1) (by decide) h14
      refine am_Vn 6 _ _ [.int (xs 1), .ref 0] _ rfl ?_
      refine am_Vc (As := [.ref 0, .int (xs 1)]) (rest := []) rfl ?_
      refine am_Vn 1 _ _ [.int (xs 1)] _ rfl ?_
      refine am_Vf rfl h10 ?_
      refine am_Vn 2 _ _ [.int (1), .int (xs 1)] _ rfl ?_
      refine am_Vt rfl h20 ?_
      refine am_Vn 5 _ _ [.long (-2)] _ rfl ?_
      refine am_Vr1 rfl ?_
      refine am_Vn 6 _ _ [.int (xs 1), .ref 122, .long (-2)] _ rfl ?_
      refine am_Vc (As := [.ref 122, .int (xs 1)]) (rest := [.long (-2)]) rfl ?_
      refine am_Vn 4 _ _ [.long (1), .long (0), .long (xs 1).toInt64] _ rfl ?_
      refine am_Vc (As := [.long (xs 1).toInt64, .long (0), .long (1)]) (rest := []) rfl ?_
      refine am_Vn 3 _ _ _ _ rfl ?_
      refine am_Vf rfl h12 ?_
      refine am_Vn 3 _ _ _ _ rfl ?_
      refine am_Vf rfl h21 ?_
      refine am_Vn 2 _ _ [.int (1)] _ rfl ?_
      refine am_Vr1 rfl ?_
      refine am_Vn 5 _ _ [.long (-2)] _ rfl ?_
      refine am_Vr1 rfl ?_
      refine am_Vn 2 _ _ _ _ rfl ?_
      exact am_fin _ _ (Nat.le_of_ble_eq_true rfl) (Nat.le_of_ble_eq_true rfl)
set_option maxRecDepth 100000 in
set_option maxHeartbeats 8000000 in
theorem am_op_18 (xs : Nat → Int32) : am_V (some (6, xs)) 20 262 768 am_L3 [] am_S1 am_Qf := by
  by_cases h1 : xs 1 < 0
  · skip
    obtain ⟨h2, h3, h4, h5, h6, h7, h8, h9⟩ := am_lt (C := 0) (by decide) h1
    refine am_Vn 16 _ _ [.int (xs 3), .int (xs 2), .int (xs 1), .ref 0] _ rfl ?_
    refine am_Vc (As := [.ref 0, .int (xs 1), .int (xs 2), .int (xs 3)]) (rest := []) rfl ?_
    refine am_Vn 2 _ _ [.int (xs 2), .int (xs 1)] _ rfl ?_
    refine am_Vc (As := [.int (xs 1), .int (xs 2)]) (rest := []) rfl ?_
    refine am_Vn 1 _ _ [.int (xs 1)] _ rfl ?_
    refine am_Vt rfl h2 ?_
    refine am_Vn 1 _ _ [.int (0)] _ rfl ?_
    refine am_Vr1 rfl ?_
    refine am_Vn 2 _ _ [.int (-1)] _ rfl ?_
    refine am_Vr1 rfl ?_
    refine am_Vn 16 _ _ [.int (xs 3), .int (xs 2), .int (xs 1), .ref 122, .int (-1)] _ rfl ?_
    refine am_Vc (As := [.ref 122, .int (xs 1), .int (xs 2), .int (xs 3)]) (rest := [.int (-1)]) rfl ?_
    refine am_Vn 4 _ _ [.long (1), .long (0), .long (xs 1).toInt64] _ rfl ?_
    refine am_Vc (As := [.long (xs 1).toInt64, .long (0), .long (1)]) (rest := []) rfl ?_
    refine am_Vn 3 _ _ _ _ rfl ?_
    refine am_Vt rfl h6 ?_
    refine am_Vn 1 _ _ [.int (0)] _ rfl ?_
    refine am_Vr1 rfl ?_
    refine am_Vn 2 _ _ [.int (-1)] _ rfl ?_
    refine am_Vr1 rfl ?_
    refine am_Vs rfl ?_
    exact am_fin _ _ (Nat.le_of_ble_eq_true rfl) (Nat.le_of_ble_eq_true rfl)
  · skip
    obtain ⟨h10, h11, h12, h13⟩ := am_ge (C := 0) (by decide) h1
    by_cases h14 : 1 < xs 1
    · skip
      obtain ⟨h15, h16, h17, h18⟩ := am_gt (C := 1) (by decide) h14
      refine am_Vn 16 _ _ [.int (xs 3), .int (xs 2), .int (xs 1), .ref 0] _ rfl ?_
      refine am_Vc (As := [.ref 0, .int (xs 1), .int (xs 2), .int (xs 3)]) (rest := []) rfl ?_
      refine am_Vn 2 _ _ [.int (xs 2), .int (xs 1)] _ rfl ?_
      refine am_Vc (As := [.int (xs 1), .int (xs 2)]) (rest := []) rfl ?_
      refine am_Vn 1 _ _ [.int (xs 1)] _ rfl ?_
      refine am_Vf rfl h10 ?_
      refine am_Vn 2 _ _ [.int (1), .int (xs 1)] _ rfl ?_
      refine am_Vt rfl h15 ?_
      refine am_Vn 1 _ _ [.int (0)] _ rfl ?_
      refine am_Vr1 rfl ?_
      refine am_Vn 2 _ _ [.int (-1)] _ rfl ?_
      refine am_Vr1 rfl ?_
      refine am_Vn 16 _ _ [.int (xs 3), .int (xs 2), .int (xs 1), .ref 122, .int (-1)] _ rfl ?_
      refine am_Vc (As := [.ref 122, .int (xs 1), .int (xs 2), .int (xs 3)]) (rest := [.int (-1)]) rfl ?_
      refine am_Vn 4 _ _ [.long (1), .long (0), .long (xs 1).toInt64] _ rfl ?_
      refine am_Vc (As := [.long (xs 1).toInt64, .long (0), .long (1)]) (rest := []) rfl ?_
      refine am_Vn 3 _ _ _ _ rfl ?_
      refine am_Vf rfl h12 ?_
      refine am_Vn 3 _ _ _ _ rfl ?_
      refine am_Vt rfl h17 ?_
      refine am_Vn 1 _ _ [.int (0)] _ rfl ?_
      refine am_Vr1 rfl ?_
      refine am_Vn 2 _ _ [.int (-1)] _ rfl ?_
      refine am_Vr1 rfl ?_
      refine am_Vs rfl ?_
      exact am_fin _ _ (Nat.le_of_ble_eq_true rfl) (Nat.le_of_ble_eq_true rfl)
    · skip
      obtain ⟨h19, h20, h21, h22⟩ := am_le' (C := 1) (by decide) h14
      by_cases h23 : xs 2 < 0
      · skip
        obtain ⟨h24, h25, h26, h27, h28, h29, h30, h31⟩ := am_lt (C := 0) (by decide) h23
        refine am_Vn 16 _ _ [.int (xs 3), .int (xs 2), .int (xs 1), .ref 0] _ rfl ?_
        refine am_Vc (As := [.ref 0, .int (xs 1), .int (xs 2), .int (xs 3)]) (rest := []) rfl ?_
        refine am_Vn 2 _ _ [.int (xs 2), .int (xs 1)] _ rfl ?_
        refine am_Vc (As := [.int (xs 1), .int (xs 2)]) (rest := []) rfl ?_
        refine am_Vn 1 _ _ [.int (xs 1)] _ rfl ?_
        refine am_Vf rfl h10 ?_
        refine am_Vn 2 _ _ [.int (1), .int (xs 1)] _ rfl ?_
        refine am_Vf rfl h19 ?_
        refine am_Vn 1 _ _ [.int (xs 2)] _ rfl ?_
        refine am_Vt rfl h24 ?_
        refine am_Vn 1 _ _ [.int (0)] _ rfl ?_
        refine am_Vr1 rfl ?_
        refine am_Vn 2 _ _ [.int (-1)] _ rfl ?_
        refine am_Vr1 rfl ?_
        refine am_Vn 16 _ _ [.int (xs 3), .int (xs 2), .int (xs 1), .ref 122, .int (-1)] _ rfl ?_
        refine am_Vc (As := [.ref 122, .int (xs 1), .int (xs 2), .int (xs 3)]) (rest := [.int (-1)]) rfl ?_
        refine am_Vn 4 _ _ [.long (1), .long (0), .long (xs 1).toInt64] _ rfl ?_
        refine am_Vc (As := [.long (xs 1).toInt64, .long (0), .long (1)]) (rest := []) rfl ?_
        refine am_Vn 3 _ _ _ _ rfl ?_
        refine am_Vf rfl h12 ?_
        refine am_Vn 3 _ _ _ _ rfl ?_
        refine am_Vf rfl h21 ?_
        refine am_Vn 2 _ _ [.int (1)] _ rfl ?_
        refine am_Vr1 rfl ?_
        refine am_Vn 5 _ _ [.long (9), .long (0), .long (xs 2).toInt64] _ rfl ?_
        refine am_Vc (As := [.long (xs 2).toInt64, .long (0), .long (9)]) (rest := []) rfl ?_
        refine am_Vn 3 _ _ _ _ rfl ?_
        refine am_Vt rfl h28 ?_
        refine am_Vn 1 _ _ [.int (0)] _ rfl ?_
        refine am_Vr1 rfl ?_
        refine am_Vn 2 _ _ [.int (-1)] _ rfl ?_
        refine am_Vr1 rfl ?_
        refine am_Vs rfl ?_
        exact am_fin _ _ (Nat.le_of_ble_eq_true rfl) (Nat.le_of_ble_eq_true rfl)
      · skip
        obtain ⟨h32, h33, h34, h35⟩ := am_ge (C := 0) (by decide) h23
        by_cases h36 : 9 < xs 2
        · skip
          obtain ⟨h37, h38, h39, h40⟩ := am_gt (C := 9) (by decide) h36
          refine am_Vn 16 _ _ [.int (xs 3), .int (xs 2), .int (xs 1), .ref 0] _ rfl ?_
          refine am_Vc (As := [.ref 0, .int (xs 1), .int (xs 2), .int (xs 3)]) (rest := []) rfl ?_
          refine am_Vn 2 _ _ [.int (xs 2), .int (xs 1)] _ rfl ?_
          refine am_Vc (As := [.int (xs 1), .int (xs 2)]) (rest := []) rfl ?_
          refine am_Vn 1 _ _ [.int (xs 1)] _ rfl ?_
          refine am_Vf rfl h10 ?_
          refine am_Vn 2 _ _ [.int (1), .int (xs 1)] _ rfl ?_
          refine am_Vf rfl h19 ?_
          refine am_Vn 1 _ _ [.int (xs 2)] _ rfl ?_
          refine am_Vf rfl h32 ?_
          refine am_Vn 2 _ _ [.int (9), .int (xs 2)] _ rfl ?_
          refine am_Vt rfl h37 ?_
          refine am_Vn 1 _ _ [.int (0)] _ rfl ?_
          refine am_Vr1 rfl ?_
          refine am_Vn 2 _ _ [.int (-1)] _ rfl ?_
          refine am_Vr1 rfl ?_
          refine am_Vn 16 _ _ [.int (xs 3), .int (xs 2), .int (xs 1), .ref 122, .int (-1)] _ rfl ?_
          refine am_Vc (As := [.ref 122, .int (xs 1), .int (xs 2), .int (xs 3)]) (rest := [.int (-1)]) rfl ?_
          refine am_Vn 4 _ _ [.long (1), .long (0), .long (xs 1).toInt64] _ rfl ?_
          refine am_Vc (As := [.long (xs 1).toInt64, .long (0), .long (1)]) (rest := []) rfl ?_
          refine am_Vn 3 _ _ _ _ rfl ?_
          refine am_Vf rfl h12 ?_
          refine am_Vn 3 _ _ _ _ rfl ?_
          refine am_Vf rfl h21 ?_
          refine am_Vn 2 _ _ [.int (1)] _ rfl ?_
          refine am_Vr1 rfl ?_
          refine am_Vn 5 _ _ [.long (9), .long (0), .long (xs 2).toInt64] _ rfl ?_
          refine am_Vc (As := [.long (xs 2).toInt64, .long (0), .long (9)]) (rest := []) rfl ?_
          refine am_Vn 3 _ _ _ _ rfl ?_
          refine am_Vf rfl h34 ?_
          refine am_Vn 3 _ _ _ _ rfl ?_
          refine am_Vt rfl h39 ?_
          refine am_Vn 1 _ _ [.int (0)] _ rfl ?_
          refine am_Vr1 rfl ?_
          refine am_Vn 2 _ _ [.int (-1)] _ rfl ?_
          refine am_Vr1 rfl ?_
          refine am_Vs rfl ?_
          exact am_fin _ _ (Nat.le_of_ble_eq_true rfl) (Nat.le_of_ble_eq_true rfl)
        · skip
          obtain ⟨h41, h42, h43, h44⟩ := am_le' (C := 9) (by decide) h36
          by_cases h45 : xs 3 < 0
          · skip
            obtain ⟨h46, h47, h48, h49, h50, h51, h52, h53⟩ := am_lt (C := 0) (by decide) h45
            refine am_Vn 16 _ _ [.int (xs 3), .int (xs 2), .int (xs 1), .ref 0] _ rfl ?_
            refine am_Vc (As := [.ref 0, .int (xs 1), .int (xs 2), .int (xs 3)]) (rest := []) rfl ?_
            refine am_Vn 2 _ _ [.int (xs 2), .int (xs 1)] _ rfl ?_
            refine am_Vc (As := [.int (xs 1), .int (xs 2)]) (rest := []) rfl ?_
            refine am_Vn 1 _ _ [.int (xs 1)] _ rfl ?_
            refine am_Vf rfl h10 ?_
            refine am_Vn 2 _ _ [.int (1), .int (xs 1)] _ rfl ?_
            refine am_Vf rfl h19 ?_
            refine am_Vn 1 _ _ [.int (xs 2)] _ rfl ?_
            refine am_Vf rfl h32 ?_
            refine am_Vn 2 _ _ [.int (9), .int (xs 2)] _ rfl ?_
            refine am_Vf rfl h41 ?_
            refine am_Vn 2 _ _ [.int (1)] _ rfl ?_
            refine am_Vr1 rfl ?_
            refine am_Vn 2 _ _ [.int (xs 3)] _ rfl ?_
            refine am_Vt rfl h46 ?_
            refine am_Vn 1 _ _ [.int (-1)] _ rfl ?_
            refine am_Vr1 rfl ?_
            refine am_Vn 16 _ _ [.int (xs 3), .int (xs 2), .int (xs 1), .ref 122, .int (-1)] _ rfl ?_
            refine am_Vc (As := [.ref 122, .int (xs 1), .int (xs 2), .int (xs 3)]) (rest := [.int (-1)]) rfl ?_
            refine am_Vn 4 _ _ [.long (1), .long (0), .long (xs 1).toInt64] _ rfl ?_
            refine am_Vc (As := [.long (xs 1).toInt64, .long (0), .long (1)]) (rest := []) rfl ?_
            refine am_Vn 3 _ _ _ _ rfl ?_
            refine am_Vf rfl h12 ?_
            refine am_Vn 3 _ _ _ _ rfl ?_
            refine am_Vf rfl h21 ?_
            refine am_Vn 2 _ _ [.int (1)] _ rfl ?_
            refine am_Vr1 rfl ?_
            refine am_Vn 5 _ _ [.long (9), .long (0), .long (xs 2).toInt64] _ rfl ?_
            refine am_Vc (As := [.long (xs 2).toInt64, .long (0), .long (9)]) (rest := []) rfl ?_
            refine am_Vn 3 _ _ _ _ rfl ?_
            refine am_Vf rfl h34 ?_
            refine am_Vn 3 _ _ _ _ rfl ?_
            refine am_Vf rfl h43 ?_
            refine am_Vn 2 _ _ [.int (1)] _ rfl ?_
            refine am_Vr1 rfl ?_
            refine am_Vn 5 _ _ [.long (2), .long (0), .long (xs 3).toInt64] _ rfl ?_
            refine am_Vc (As := [.long (xs 3).toInt64, .long (0), .long (2)]) (rest := []) rfl ?_
            refine am_Vn 3 _ _ _ _ rfl ?_
            refine am_Vt rfl h50 ?_
            refine am_Vn 1 _ _ [.int (0)] _ rfl ?_
            refine am_Vr1 rfl ?_
            refine am_Vn 2 _ _ [.int (-1)] _ rfl ?_
            refine am_Vr1 rfl ?_
            refine am_Vs rfl ?_
            exact am_fin _ _ (Nat.le_of_ble_eq_true rfl) (Nat.le_of_ble_eq_true rfl)
          · skip
            obtain ⟨h54, h55, h56, h57⟩ := am_ge (C := 0) (by decide) h45
            by_cases h58 : 2 < xs 3
            · skip
              obtain ⟨h59, h60, h61, h62⟩ := am_gt (C := 2) (by decide) h58
              refine am_Vn 16 _ _ [.int (xs 3), .int (xs 2), .int (xs 1), .ref 0] _ rfl ?_
              refine am_Vc (As := [.ref 0, .int (xs 1), .int (xs 2), .int (xs 3)]) (rest := []) rfl ?_
              refine am_Vn 2 _ _ [.int (xs 2), .int (xs 1)] _ rfl ?_
              refine am_Vc (As := [.int (xs 1), .int (xs 2)]) (rest := []) rfl ?_
              refine am_Vn 1 _ _ [.int (xs 1)] _ rfl ?_
              refine am_Vf rfl h10 ?_
              refine am_Vn 2 _ _ [.int (1), .int (xs 1)] _ rfl ?_
              refine am_Vf rfl h19 ?_
              refine am_Vn 1 _ _ [.int (xs 2)] _ rfl ?_
              refine am_Vf rfl h32 ?_
              refine am_Vn 2 _ _ [.int (9), .int (xs 2)] _ rfl ?_
              refine am_Vf rfl h41 ?_
              refine am_Vn 2 _ _ [.int (1)] _ rfl ?_
              refine am_Vr1 rfl ?_
              refine am_Vn 2 _ _ [.int (xs 3)] _ rfl ?_
              refine am_Vf rfl h54 ?_
              refine am_Vn 2 _ _ [.int (2), .int (xs 3)] _ rfl ?_
              refine am_Vf rfl h60 ?_
              refine am_Vn 1 _ _ [.int (-1)] _ rfl ?_
              refine am_Vr1 rfl ?_
              refine am_Vn 16 _ _ [.int (xs 3), .int (xs 2), .int (xs 1), .ref 122, .int (-1)] _ rfl ?_
              refine am_Vc (As := [.ref 122, .int (xs 1), .int (xs 2), .int (xs 3)]) (rest := [.int (-1)]) rfl ?_
              refine am_Vn 4 _ _ [.long (1), .long (0), .long (xs 1).toInt64] _ rfl ?_
              refine am_Vc (As := [.long (xs 1).toInt64, .long (0), .long (1)]) (rest := []) rfl ?_
              refine am_Vn 3 _ _ _ _ rfl ?_
              refine am_Vf rfl h12 ?_
              refine am_Vn 3 _ _ _ _ rfl ?_
              refine am_Vf rfl h21 ?_
              refine am_Vn 2 _ _ [.int (1)] _ rfl ?_
              refine am_Vr1 rfl ?_
              refine am_Vn 5 _ _ [.long (9), .long (0), .long (xs 2).toInt64] _ rfl ?_
              refine am_Vc (As := [.long (xs 2).toInt64, .long (0), .long (9)]) (rest := []) rfl ?_
              refine am_Vn 3 _ _ _ _ rfl ?_
              refine am_Vf rfl h34 ?_
              refine am_Vn 3 _ _ _ _ rfl ?_
              refine am_Vf rfl h43 ?_
              refine am_Vn 2 _ _ [.int (1)] _ rfl ?_
              refine am_Vr1 rfl ?_
              refine am_Vn 5 _ _ [.long (2), .long (0), .long (xs 3).toInt64] _ rfl ?_
              refine am_Vc (As := [.long (xs 3).toInt64, .long (0), .long (2)]) (rest := []) rfl ?_
              refine am_Vn 3 _ _ _ _ rfl ?_
              refine am_Vf rfl h56 ?_
              refine am_Vn 3 _ _ _ _ rfl ?_
              refine am_Vt rfl h61 ?_
              refine am_Vn 1 _ _ [.int (0)] _ rfl ?_
              refine am_Vr1 rfl ?_
              refine am_Vn 2 _ _ [.int (-1)] _ rfl ?_
              refine am_Vr1 rfl ?_
              refine am_Vs rfl ?_
              exact am_fin _ _ (Nat.le_of_ble_eq_true rfl) (Nat.le_of_ble_eq_true rfl)
            · skip
              obtain ⟨h63, h64, h65, h66⟩ := am_le' (C := 2) (by decide) h58
              by_cases h67 : xs 3 = 0
              · skip
                refine am_Vn 16 _ _ [.int (xs 3), .int (xs 2), .int (xs 1), .ref 0] _ rfl ?_
                refine am_Vc (As := [.ref 0, .int (xs 1), .int (xs 2), .int (xs 3)]) (rest := []) rfl ?_
                refine am_Vn 2 _ _ [.int (xs 2), .int (xs 1)] _ rfl ?_
                refine am_Vc (As := [.int (xs 1), .int (xs 2)]) (rest := []) rfl ?_
                refine am_Vn 1 _ _ [.int (xs 1)] _ rfl ?_
                refine am_Vf rfl h10 ?_
                refine am_Vn 2 _ _ [.int (1), .int (xs 1)] _ rfl ?_
                refine am_Vf rfl h19 ?_
                refine am_Vn 1 _ _ [.int (xs 2)] _ rfl ?_
                refine am_Vf rfl h32 ?_
                refine am_Vn 2 _ _ [.int (9), .int (xs 2)] _ rfl ?_
                refine am_Vf rfl h41 ?_
                refine am_Vn 2 _ _ [.int (1)] _ rfl ?_
                refine am_Vr1 rfl ?_
                refine am_Vn 2 _ _ [.int (xs 3)] _ rfl ?_
                refine am_Vf rfl h54 ?_
                refine am_Vn 2 _ _ [.int (2), .int (xs 3)] _ rfl ?_
                refine am_Vt rfl h64 ?_
                refine am_Vn 6 _ _ [.int (xs 2), .int (xs 1), .ref 1, .ref 40] _ rfl ?_
                refine am_Vc (As := [.ref 40, .ref 1, .int (xs 1), .int (xs 2)]) (rest := []) rfl ?_
                refine am_Vn 9 _ _ _ _ rfl ?_
                refine am_Vr0 rfl ?_
                refine am_Vn 4 _ _ [.ref 6, .ref 40] _ rfl ?_
                refine am_Vc (As := [.ref 40, .ref 6]) (rest := []) rfl ?_
                refine am_Vn 12 _ _ _ _ rfl ?_
                refine am_Vr0 rfl ?_
                refine am_Vn 1 _ _ [.int (xs 3)] _ rfl ?_
                refine am_Vt rfl h67 ?_
                refine am_Vn 3 _ _ [.int (-4)] _ rfl ?_
                refine am_Vr1 rfl ?_
                refine am_Vn 16 _ _ [.int (xs 3), .int (xs 2), .int (xs 1), .ref 122, .int (-4)] _ rfl ?_
                refine am_Vc (As := [.ref 122, .int (xs 1), .int (xs 2), .int (xs 3)]) (rest := [.int (-4)]) rfl ?_
                refine am_Vn 4 _ _ [.long (1), .long (0), .long (xs 1).toInt64] _ rfl ?_
                refine am_Vc (As := [.long (xs 1).toInt64, .long (0), .long (1)]) (rest := []) rfl ?_
                refine am_Vn 3 _ _ _ _ rfl ?_
                refine am_Vf rfl h12 ?_
                refine am_Vn 3 _ _ _ _ rfl ?_
                refine am_Vf rfl h21 ?_
                refine am_Vn 2 _ _ [.int (1)] _ rfl ?_
                refine am_Vr1 rfl ?_
                refine am_Vn 5 _ _ [.long (9), .long (0), .long (xs 2).toInt64] _ rfl ?_
                refine am_Vc (As := [.long (xs 2).toInt64, .long (0), .long (9)]) (rest := []) rfl ?_
                refine am_Vn 3 _ _ _ _ rfl ?_
                refine am_Vf rfl h34 ?_
                refine am_Vn 3 _ _ _ _ rfl ?_
                refine am_Vf rfl h43 ?_
                refine am_Vn 2 _ _ [.int (1)] _ rfl ?_
                refine am_Vr1 rfl ?_
                refine am_Vn 5 _ _ [.long (2), .long (0), .long (xs 3).toInt64] _ rfl ?_
                refine am_Vc (As := [.long (xs 3).toInt64, .long (0), .long (2)]) (rest := []) rfl ?_
                refine am_Vn 3 _ _ _ _ rfl ?_
                refine am_Vf rfl h56 ?_
                refine am_Vn 3 _ _ _ _ rfl ?_
                refine am_Vf rfl h65 ?_
                refine am_Vn 2 _ _ [.int (1)] _ rfl ?_
                refine am_Vr1 rfl ?_
                refine am_Vn 16 _ _ [.int (-4)] _ rfl ?_
                refine am_Vr1 rfl ?_
                refine am_Vs rfl ?_
                exact am_fin _ _ (Nat.le_of_ble_eq_true rfl) (Nat.le_of_ble_eq_true rfl)
              · skip
                refine am_Vn 16 _ _ [.int (xs 3), .int (xs 2), .int (xs 1), .ref 0] _ rfl ?_
                refine am_Vc (As := [.ref 0, .int (xs 1), .int (xs 2), .int (xs 3)]) (rest := []) rfl ?_
                refine am_Vn 2 _ _ [.int (xs 2), .int (xs 1)] _ rfl ?_
                refine am_Vc (As := [.int (xs 1), .int (xs 2)]) (rest := []) rfl ?_
                refine am_Vn 1 _ _ [.int (xs 1)] _ rfl ?_
                refine am_Vf rfl h10 ?_
                refine am_Vn 2 _ _ [.int (1), .int (xs 1)] _ rfl ?_
                refine am_Vf rfl h19 ?_
                refine am_Vn 1 _ _ [.int (xs 2)] _ rfl ?_
                refine am_Vf rfl h32 ?_
                refine am_Vn 2 _ _ [.int (9), .int (xs 2)] _ rfl ?_
                refine am_Vf rfl h41 ?_
                refine am_Vn 2 _ _ [.int (1)] _ rfl ?_
                refine am_Vr1 rfl ?_
                refine am_Vn 2 _ _ [.int (xs 3)] _ rfl ?_
                refine am_Vf rfl h54 ?_
                refine am_Vn 2 _ _ [.int (2), .int (xs 3)] _ rfl ?_
                refine am_Vt rfl h64 ?_
                refine am_Vn 6 _ _ [.int (xs 2), .int (xs 1), .ref 1, .ref 40] _ rfl ?_
                refine am_Vc (As := [.ref 40, .ref 1, .int (xs 1), .int (xs 2)]) (rest := []) rfl ?_
                refine am_Vn 9 _ _ _ _ rfl ?_
                refine am_Vr0 rfl ?_
                refine am_Vn 4 _ _ [.ref 6, .ref 40] _ rfl ?_
                refine am_Vc (As := [.ref 40, .ref 6]) (rest := []) rfl ?_
                refine am_Vn 12 _ _ _ _ rfl ?_
                refine am_Vr0 rfl ?_
                refine am_Vn 1 _ _ [.int (xs 3)] _ rfl ?_
                refine am_Vf rfl h67 ?_
                refine am_Vn 8 _ _ [.int (-4)] _ rfl ?_
                refine am_Vr1 rfl ?_
                refine am_Vn 16 _ _ [.int (xs 3), .int (xs 2), .int (xs 1), .ref 122, .int (-4)] _ rfl ?_
                refine am_Vc (As := [.ref 122, .int (xs 1), .int (xs 2), .int (xs 3)]) (rest := [.int (-4)]) rfl ?_
                refine am_Vn 4 _ _ [.long (1), .long (0), .long (xs 1).toInt64] _ rfl ?_
                refine am_Vc (As := [.long (xs 1).toInt64, .long (0), .long (1)]) (rest := []) rfl ?_
                refine am_Vn 3 _ _ _ _ rfl ?_
                refine am_Vf rfl h12 ?_
                refine am_Vn 3 _ _ _ _ rfl ?_
                refine am_Vf rfl h21 ?_
                refine am_Vn 2 _ _ [.int (1)] _ rfl ?_
                refine am_Vr1 rfl ?_
                refine am_Vn 5 _ _ [.long (9), .long (0), .long (xs 2).toInt64] _ rfl ?_
                refine am_Vc (As := [.long (xs 2).toInt64, .long (0), .long (9)]) (rest := []) rfl ?_
                refine am_Vn 3 _ _ _ _ rfl ?_
                refine am_Vf rfl h34 ?_
                refine am_Vn 3 _ _ _ _ rfl ?_
                refine am_Vf rfl h43 ?_
                refine am_Vn 2 _ _ [.int (1)] _ rfl ?_
                refine am_Vr1 rfl ?_
                refine am_Vn 5 _ _ [.long (2), .long (0), .long (xs 3).toInt64] _ rfl ?_
                refine am_Vc (As := [.long (xs 3).toInt64, .long (0), .long (2)]) (rest := []) rfl ?_
                refine am_Vn 3 _ _ _ _ rfl ?_
                refine am_Vf rfl h56 ?_
                refine am_Vn 3 _ _ _ _ rfl ?_
                refine am_Vf rfl h65 ?_
                refine am_Vn 2 _ _ [.int (1)] _ rfl ?_
                refine am_Vr1 rfl ?_
                refine am_Vn 16 _ _ [.int (-4)] _ rfl ?_
                refine am_Vr1 rfl ?_
                refine am_Vs rfl ?_
                exact am_fin _ _ (Nat.le_of_ble_eq_true rfl) (Nat.le_of_ble_eq_true rfl)
